/-! What reading the items leaves: their count, and hours of at most two digits. -/
theorem dig5 {Y F : Nat → Int32} (h : ¬ fR_X5_isDigitHere Y F = 0) : ∃ g, g ≤ 9 ∧ fR_X5_here Y F = nI (48 + g) := by
  unfold fR_X5_isDigitHere at h
  by_cases h1 : fR_X5_here Y F < 48
  · rw [if_pos h1] at h; exact absurd rfl h
  · rw [if_neg h1] at h
    by_cases h2 : 57 < fR_X5_here Y F
    · rw [if_pos h2] at h; exact absurd rfl h
    · have h2 := Int32.not_lt.mp h2
      obtain ⟨j, hj, e⟩ := nI_of2 (M := 57) (n := 57) (by decide) (fun h3 => h1 (Int32.lt_trans h3 (by decide))) h2
      rw [e] at h1 ⊢
      have h3 : ¬ j < 48 := fun h4 => h1 ((nI_ltI (a := j) (b := 48) (by omega) (by omega)).mpr h4)
      exact ⟨j - 48, by omega, by rw [show 48 + (j - 48) = j by omega]⟩
theorem digval {v g : Nat} (h : g ≤ 9) : 10 * nI v + nI (48 + g) - 48 = nI (10 * v + g) := by
  rw [show (10 : Int32) = nI 10 from rfl, pk_mul, nI_add, show (48 : Int32) = nI 48 from rfl, show 10 * v + (48 + g) = (10 * v + g) + 48 by omega, ← nI_add, Int32.add_sub_cancel]
theorem num5v {Y : Nat → Int32} {d : Nat} {lo hi : Int32} : ∀ (k fr : Nat) (num : Int32) (j b : Nat) (F : Nat → Int32), (∃ v, num = nI v ∧ v + 1 ≤ b) → ∃ z, fR_X5_readNumber_L12 Y d lo hi k fr num j F = nI z ∧ z + 1 ≤ b * 10 ^ k
  | 0, fr, num, j, b, F, h => by
    rw [fR_X5_readNumber_L12]
    obtain ⟨v, h1, h2⟩ := h
    refine ⟨v, ?_, by omega⟩
    repeat' split
    all_goals exact h1
  | k + 1, fr, num, j, b, F, h => by
    rw [fR_X5_readNumber_L12]
    (try dsimp only)
    obtain ⟨v, h1, h2⟩ := h
    have hb : b ≤ b * 10 ^ (k + 1) := Nat.le_mul_of_pos_right _ (Nat.pow_pos (by decide))
    by_cases hd : fR_X5_isDigitHere Y F = 0
    · rw [if_pos hd]
      refine ⟨v, ?_, by omega⟩
      repeat' split
      all_goals exact h1
    · rw [if_neg hd]
      obtain ⟨g, hg, e⟩ := dig5 hd
      obtain ⟨z, a1, a2⟩ := num5v (Y := Y) (d := d) (lo := lo) (hi := hi) k fr (10 * num + fR_X5_here Y F - 48) (j + 1) (b * 10) (upd F 6 (nI (ta5 F + 1))) ⟨10 * v + g, by rw [h1, e, digval hg], by omega⟩
      exact ⟨z, a1, by rw [Nat.pow_succ, Nat.mul_comm (10 ^ k) 10, ← Nat.mul_assoc]; exact a2⟩
theorem item5z {Y X U Z F : Nat → Int32} : (∃ z, z ≤ 99 ∧ fZ_X5_readItem Y X U Z F (ti5 F) = nI z) ∧ ∀ j, j ≠ ti5 F → fZ_X5_readItem Y X U Z F j = Z j := by
  unfold fZ_X5_readItem
  (try dsimp only)
  split
  · refine ⟨?_, fun j hj => by rw [upd_n hj, upd_n hj]⟩
    rw [upd_s]
    obtain ⟨z, h1, h2⟩ := num5v (Y := Y) (d := 2) (lo := 1) (hi := 99) 2 (ta5 (upd (fF_X5_readNumber Y (fF_X5_expect Y (fF_X5_readTemperature Y F) 44) 3 0 100) 6 (nI (ta5 (fF_X5_readNumber Y (fF_X5_expect Y (fF_X5_readTemperature Y F) 44) 3 0 100) + 1)))) 0 0 1 (upd (fF_X5_readNumber Y (fF_X5_expect Y (fF_X5_readTemperature Y F) 44) 3 0 100) 6 (nI (ta5 (fF_X5_readNumber Y (fF_X5_expect Y (fF_X5_readTemperature Y F) 44) 3 0 100) + 1))) ⟨0, rfl, by omega⟩
    exact ⟨z, by omega, h1⟩
  · exact ⟨⟨1, by omega, upd_s⟩, fun j hj => upd_n hj⟩
theorem items5 {Y : Nat → Int32} : ∀ (k : Nat) (X U Z F : Nat → Int32), okX5 F → F 5 = nI (ti5 F) → ti5 F + k = 38 → (∀ j, j < ti5 F → ∃ z, z ≤ 99 ∧ Z j = nI z) → fF_X5_readItems_L15 Y k X U Z F 1 = F 1 ∧ okI5 (fF_X5_readItems_L15 Y k X U Z F) ∧ ∀ j, j < ti5 (fF_X5_readItems_L15 Y k X U Z F) → ∃ z, z ≤ 99 ∧ fZ_X5_readItems_L15 Y k X U Z F j = nI z
  | 0, X, U, Z, F, hX, hI, hk, hz => by
    rw [fF_X5_readItems_L15, fZ_X5_readItems_L15]
    exact ⟨rfl, ⟨hI, by omega⟩, hz⟩
  | k + 1, X, U, Z, F, hX, hI, hk, hz => by
    rw [fF_X5_readItems_L15, fZ_X5_readItems_L15]
    (try dsimp only)
    by_cases h1 : tl5 F ≤ ta5 F
    · rw [if_pos h1, if_pos h1]
      exact ⟨rfl, ⟨hI, by omega⟩, hz⟩
    rw [if_neg h1, if_neg h1]
    by_cases h2 : F 7 = -1
    · rw [if_pos h2, if_pos h2]
      have hq := item5 (Y := Y) (X := X) (U := U) (Z := Z) hX
      obtain ⟨a, b⟩ := item5z (Y := Y) (X := X) (U := U) (Z := Z) (F := F)
      have e5 : ti5 (upd (fF_X5_readItem Y X U Z F) 5 (nI (ti5 F + 1))) = ti5 F + 1 := ti5_u (by omega)
      obtain ⟨c1, c2, c3⟩ := items5 (Y := Y) k (fX_X5_readItem Y X U Z F) (fU_X5_readItem Y X U Z F) (fZ_X5_readItem Y X U Z F) (upd (fF_X5_readItem Y X U Z F) 5 (nI (ti5 F + 1))) (okX5_c (upd_n (by decide)) (upd_n (by decide)) hq.1) (by rw [e5, upd_s]) (by rw [e5]; omega) (fun j hj => by
        rw [e5] at hj
        by_cases e : j = ti5 F
        · rw [e]; exact a
        · rw [b j e]; exact hz j (by omega))
      exact ⟨c1.trans ((upd_n (by decide)).trans (hq.2 1 (by decide) (by decide))), c2, c3⟩
    · rw [if_neg h2, if_neg h2]
      exact ⟨rfl, ⟨hI, by omega⟩, hz⟩
theorem read5 {Y X U Z F : Nat → Int32} (hT : okT5 F) : fF_X5_readItems Y X U Z F 1 = F 1 ∧ okI5 (fF_X5_readItems Y X U Z F) ∧ ∀ j, j < ti5 (fF_X5_readItems Y X U Z F) → ∃ z, z ≤ 99 ∧ fZ_X5_readItems Y X U Z F j = nI z := by
  unfold fF_X5_readItems fZ_X5_readItems
  (try dsimp only)
  obtain ⟨a, b, c⟩ := start5 hT
  obtain ⟨c1, c2, c3⟩ := items5 (Y := Y) 38 X U Z _ a b (by rw [c]) (fun j hj => by rw [c] at hj; omega)
  exact ⟨c1.trans (by rw [upd_n (by decide), upd_n (by decide), upd_n (by decide)]), c2, c3⟩
theorem z_n {z : Nat → Int32} {j : Nat} (h : ∃ k, k ≤ 99 ∧ z j = nI k) : z j = nI (z j).toNatClampNeg ∧ (z j).toNatClampNeg ≤ 99 := by
  obtain ⟨k, h1, h2⟩ := h
  rw [h2, nI_clamp (by omega)]
  exact ⟨rfl, h1⟩
theorem WF_passL {tmp sn : Int32} {many : Nat} : ∀ (k : Nat) (bf : Int32) (j : Nat) (P : Nat → Int32), WF P → WF (fP_X0_passHours_L9 tmp sn many k bf j P)
  | 0, bf, j, P, h => by rw [fP_X0_passHours_L9]; exact h
  | k + 1, bf, j, P, h => by
    rw [fP_X0_passHours_L9]
    exact WF_passL k _ _ _ (WF_passHour h)
theorem WF_passHours {P : Nat → Int32} {tmp sn : Int32} {many : Nat} (h : WF P) : WF (fP_X0_passHours P tmp sn many) := WF_passL _ _ _ _ h
