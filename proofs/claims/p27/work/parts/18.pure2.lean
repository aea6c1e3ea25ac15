/-! the reference's hour keeps a page so that one can walk -/
theorem WF_L53 {tmp sn : Int32} : ∀ (k : Nat) (acc : Int32) (j : Nat) (P : Nat → Int32), WF P → j + k ≤ 20 → WF (fP_X7_hour_L53 tmp sn k acc j P) ∧ fP_X7_hour_L53 tmp sn k acc j P 1 = P 1 ∧ fP_X7_hour_L53 tmp sn k acc j P 2 = P 2
  | 0, acc, j, P, h, _ => by
    rw [fP_X7_hour_L53]
    (try dsimp only)
    exact ⟨WF_u (by omega) (WF_u (by omega) h), by rw [upd_n (by omega), upd_n (by omega)], by rw [upd_n (by omega), upd_n (by omega)]⟩
  | k + 1, acc, j, P, h, hk => by
    rw [fP_X7_hour_L53]
    (try dsimp only)
    obtain ⟨a, b, c⟩ := WF_L53 k (acc + fR_X7_waits P j) (j + 1) _ (WF_waits (i := j) (by omega) h) (by omega)
    exact ⟨a, b.trans ns_waits.1, c.trans ns_waits.2⟩
theorem WF_L27 {tmp sn : Int32} : ∀ (k j : Nat) (P : Nat → Int32), WF P → j + k = np P → WF (fP_X7_hour_L27 tmp sn k j P) ∧ fP_X7_hour_L27 tmp sn k j P 1 = P 1 ∧ fP_X7_hour_L27 tmp sn k j P 2 = P 2
  | 0, j, P, h, _ => by
    rw [fP_X7_hour_L27]
    have := h.1.2.1
    exact WF_L53 _ _ _ _ h (by omega)
  | k + 1, j, P, h, hk => by
    rw [fP_X7_hour_L27]
    (try dsimp only)
    have hj : j < np P := by omega
    obtain ⟨a, b, c⟩ := WF_L27 k (j + 1) _ (WF_plows hj h) (by rw [np_c (ns_plows hj h).2]; omega)
    exact ⟨a, b.trans (ns_plows hj h).1, c.trans (ns_plows hj h).2⟩
theorem WF_L2 {tmp sn : Int32} : ∀ (k j : Nat) (P : Nat → Int32), WF P → j + k ≤ 20 → WF (fP_X7_hour_L2 tmp sn k j P) ∧ fP_X7_hour_L2 tmp sn k j P 1 = P 1 ∧ fP_X7_hour_L2 tmp sn k j P 2 = P 2
  | 0, j, P, h, _ => by
    rw [fP_X7_hour_L2]
    exact WF_L27 _ _ _ h (by omega)
  | k + 1, j, P, h, hk => by
    rw [fP_X7_hour_L2]
    (try dsimp only)
    obtain ⟨a, b, c⟩ := WF_L2 k (j + 1) _ (WF_weather (i := j) (tmp := tmp) (sn := sn) (by omega) h) (by omega)
    exact ⟨a, b.trans ns_weather.1, c.trans ns_weather.2⟩
theorem WF_hour {P : Nat → Int32} {tmp sn : Int32} (h : WF P) : WF (fP_X7_hour P tmp sn) := (WF_L2 _ _ _ h (by have := h.1.2.1; omega)).1
theorem ns_hour {P : Nat → Int32} {tmp sn : Int32} (h : WF P) : fP_X7_hour P tmp sn 1 = P 1 ∧ fP_X7_hour P tmp sn 2 = P 2 := (WF_L2 _ _ _ h (by have := h.1.2.1; omega)).2
/-- how many pages are saved, as a number -/
def sc (F : Nat → Int32) : Nat := (F 3).toNatClampNeg
def okC (F : Nat → Int32) : Prop := F 3 = nI (sc F) ∧ sc F ≤ 4
theorem sc_c {F F' : Nat → Int32} (h : F' 3 = F 3) : sc F' = sc F := by unfold sc; rw [h]
theorem okC_c {F F' : Nat → Int32} (h : F' 3 = F 3) (hc : okC F) : okC F' := by unfold okC; rw [sc_c h, h]; exact hc
theorem okC_6 {F : Nat → Int32} {x : Int32} (hc : okC F) : okC (upd F 6 x) := okC_c (upd_n (by decide)) hc
/-- a plow's places are a number up to 12 -/
def okQ (P : Nat → Int32) (q : Nat) : Prop := P (169 + 20 * q + 3) = nI (nc P q) ∧ nc P q ≤ 12
theorem clamp_le {x : Int32} {n : Nat} (h0 : ¬ x < 0) (h1 : ¬ nI n < x) (hn : n < 2 ^ 31) : x = nI x.toNatClampNeg ∧ x.toNatClampNeg ≤ n := by
  obtain ⟨j, hj, rfl⟩ := nI_of h0
  rw [nI_clamp hj]
  refine ⟨rfl, ?_⟩
  rcases Nat.lt_or_ge n j with h | h
  · exact absurd (nI_lt h hj) h1
  · exact h
theorem in_v {x a b : Int32} (h : ¬ fR_X7_in x a b = 0) : ¬ x < a ∧ ¬ b < x := by
  unfold fR_X7_in at h
  by_cases h1 : x < a
  · rw [if_pos h1] at h; exact absurd rfl h
  · rw [if_neg h1] at h
    by_cases h2 : b < x
    · rw [if_pos h2] at h; exact absurd rfl h
    · exact ⟨h1, h2⟩
theorem in_0 {x a b : Int32} (h : fR_X7_in x a b = 0) : x < a ∨ b < x := by
  unfold fR_X7_in at h
  by_cases h1 : x < a
  · exact Or.inl h1
  · rw [if_neg h1] at h
    by_cases h2 : b < x
    · exact Or.inr h2
    · rw [if_neg h2] at h; exact absurd h (by decide)
theorem in_n {x : Int32} {n : Nat} (hn : n < 2 ^ 31) (h : ¬ fR_X7_in x 0 (nI n) = 0) : x = nI x.toNatClampNeg ∧ x.toNatClampNeg ≤ n := clamp_le (in_v h).1 (in_v h).2 hn
theorem in_m1 {x N : Int32} {n : Nat} (hN : N = nI n) (hn : n < 2 ^ 31) (h : ¬ fR_X7_in x 0 (N - 1) = 0) : x = nI x.toNatClampNeg ∧ x.toNatClampNeg < n := by
  subst hN
  cases n with
  | zero =>
    obtain ⟨h1, h2⟩ := in_v h
    exfalso
    apply h2
    have h3 : nI 0 - 1 < 0 := by decide
    have h4 : (0 : Int32) ≤ x := Int32.not_lt.mp h1
    exact Int32.lt_of_lt_of_le h3 h4
  | succ n =>
    rw [nI_pred] at h
    obtain ⟨a, b⟩ := in_n (by omega) h
    exact ⟨a, by omega⟩
theorem nb_of {x : Int32} (h : x = 0 ∨ x = 1) : narrow .boolean (.int x) = .int x := by rcases h with rfl | rfl <;> rfl
theorem in_b {x a b : Int32} : fR_X7_in x a b = 0 ∨ fR_X7_in x a b = 1 := by
  unfold fR_X7_in
  repeat' split
  · exact Or.inl rfl
  · exact Or.inl rfl
  · exact Or.inr rfl
