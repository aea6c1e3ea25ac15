/-! What a copy writes: a stretch of the page, as the other page has it. -/
def rngP (P O : Nat → Int32) (lo n : Nat) : Nat → Int32 := fun x => if lo ≤ x ∧ x < lo + n then O x else P x
theorem rng_i {P O : Nat → Int32} {lo n x : Nat} (h : lo ≤ x ∧ x < lo + n) : rngP P O lo n x = O x := if_pos h
theorem rng_o {P O : Nat → Int32} {lo n x : Nat} (h : ¬ (lo ≤ x ∧ x < lo + n)) : rngP P O lo n x = P x := if_neg h
theorem copyS_eq {P O : Nat → Int32} {i : Nat} : fP_X3_copyFrom P O i i = rngP P O (9 + 8 * i) 8 := by
  funext x
  unfold fP_X3_copyFrom
  (try dsimp only)
  by_cases h : 9 + 8 * i ≤ x ∧ x < 9 + 8 * i + 8
  · rw [rng_i h]
    rcases (show x = 9 + 8 * i + 0 ∨ x = 9 + 8 * i + 1 ∨ x = 9 + 8 * i + 2 ∨ x = 9 + 8 * i + 3 ∨ x = 9 + 8 * i + 4 ∨ x = 9 + 8 * i + 5 ∨ x = 9 + 8 * i + 6 ∨ x = 9 + 8 * i + 7 by omega) with rfl | rfl | rfl | rfl | rfl | rfl | rfl | rfl <;> repeat (first | rw [upd_s] | rw [upd_n (by omega)])
  · rw [rng_o h]
    repeat rw [upd_n (by omega)]
theorem copyT_eq {P O : Nat → Int32} {r : Nat} : fP_X4_copyFrom P O r r = rngP P O (229 + 4 * r) 4 := by
  funext x
  unfold fP_X4_copyFrom
  (try dsimp only)
  by_cases h : 229 + 4 * r ≤ x ∧ x < 229 + 4 * r + 4
  · rw [rng_i h]
    rcases (show x = 229 + 4 * r + 0 ∨ x = 229 + 4 * r + 1 ∨ x = 229 + 4 * r + 2 ∨ x = 229 + 4 * r + 3 by omega) with rfl | rfl | rfl | rfl <;> repeat (first | rw [upd_s] | rw [upd_n (by omega)])
  · rw [rng_o h]
    repeat rw [upd_n (by omega)]
theorem cpy_i {P O : Nat → Int32} {q x : Nat} (h : 169 + 20 * q + 8 ≤ x ∧ x < 169 + 20 * q + 20) : cpyP P O q q x = O x := by
  unfold cpyP
  rw [if_pos h]
  congr 1
  omega
theorem cpy_o {P O : Nat → Int32} {q x : Nat} (h : ¬ (169 + 20 * q + 8 ≤ x ∧ x < 169 + 20 * q + 20)) : cpyP P O q q x = P x := if_neg h
theorem copyP_eq {P O : Nat → Int32} {q : Nat} : fP_X1_copyFrom P O q q = rngP P O (169 + 20 * q) 20 := by
  funext x
  unfold fP_X1_copyFrom
  (try dsimp only)
  by_cases h : 169 + 20 * q ≤ x ∧ x < 169 + 20 * q + 20
  · rw [rng_i h]
    by_cases h2 : 169 + 20 * q + 8 ≤ x ∧ x < 169 + 20 * q + 20
    · repeat rw [upd_n (by omega)]
      exact cpy_i h2
    · rcases (show x = 169 + 20 * q + 0 ∨ x = 169 + 20 * q + 1 ∨ x = 169 + 20 * q + 2 ∨ x = 169 + 20 * q + 3 ∨ x = 169 + 20 * q + 4 ∨ x = 169 + 20 * q + 5 ∨ x = 169 + 20 * q + 6 ∨ x = 169 + 20 * q + 7 by omega) with rfl | rfl | rfl | rfl | rfl | rfl | rfl | rfl <;> repeat (first | rw [upd_s] | rw [cpy_o h2] | rw [upd_n (by omega)])
  · rw [rng_o h]
    repeat (first | rw [upd_n (by omega)] | rw [cpy_o (by omega)])
theorem cS1 {P O : Nat → Int32} {i j : Nat} (h : j < 9) : fP_X3_copyFrom P O i i j = P j := by rw [copyS_eq]; exact rng_o (by omega)
theorem cP1 {P O : Nat → Int32} {q j : Nat} (h : j < 9) : fP_X1_copyFrom P O q q j = P j := by rw [copyP_eq]; exact rng_o (by omega)
