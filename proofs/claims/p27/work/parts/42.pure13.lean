/-! The class's hour keeps a page so that one can walk. -/
theorem WFc_L67 {tmp sn : Int32} : ∀ (k : Nat) (j : Nat) (P : Nat → Int32), WF P → j + k ≤ 20 → WF (fP_X0_passHour_L67 tmp sn k j P) ∧ fP_X0_passHour_L67 tmp sn k j P 1 = P 1 ∧ fP_X0_passHour_L67 tmp sn k j P 2 = P 2
  | 0, j, P, h, _ => by
    rw [fP_X0_passHour_L67]
    (try dsimp only)
    exact ⟨WF_u (by omega) h, by rw [upd_n (by omega)], by rw [upd_n (by omega)]⟩
  | k + 1, j, P, h, hk => by
    rw [fP_X0_passHour_L67]
    (try dsimp only)
    obtain ⟨a, b, c⟩ := WFc_L67 (tmp := tmp) (sn := sn) k (j + 1) _ (WF_letWait (i := j) (by omega) h) (by omega)
    exact ⟨a, b.trans ns_letWait.1, c.trans ns_letWait.2⟩
theorem WFc_L29 {tmp sn : Int32} : ∀ (k j : Nat) (P : Nat → Int32), WF P → j + k = np P → WF (fP_X0_passHour_L29 tmp sn k j P) ∧ fP_X0_passHour_L29 tmp sn k j P 1 = P 1 ∧ fP_X0_passHour_L29 tmp sn k j P 2 = P 2
  | 0, j, P, h, _ => by
    rw [fP_X0_passHour_L29]
    have := h.1.2.1
    exact WFc_L67 _ _ _ h (by omega)
  | k + 1, j, P, h, hk => by
    rw [fP_X0_passHour_L29]
    (try dsimp only)
    have hj : j < np P := by omega
    by_cases h3 : P (169 + 20 * j + 3) ≤ 0
    · rw [if_pos h3]; exact WFc_L29 k (j + 1) _ h (by omega)
    · rw [if_neg h3]
      obtain ⟨a, b, c⟩ := WFc_L29 (tmp := tmp) (sn := sn) k (j + 1) _ (WF_letWork hj h3 h) (by rw [np_c (ns_letWork hj h3 h).2]; omega)
      exact ⟨a, b.trans (ns_letWork hj h3 h).1, c.trans (ns_letWork hj h3 h).2⟩
theorem WFc_L2 {tmp sn : Int32} : ∀ (k j : Nat) (P : Nat → Int32), WF P → j + k ≤ 20 → WF (fP_X0_passHour_L2 tmp sn k j P) ∧ fP_X0_passHour_L2 tmp sn k j P 1 = P 1 ∧ fP_X0_passHour_L2 tmp sn k j P 2 = P 2
  | 0, j, P, h, _ => by
    rw [fP_X0_passHour_L2]
    exact WFc_L29 _ _ _ h (by omega)
  | k + 1, j, P, h, hk => by
    rw [fP_X0_passHour_L2]
    (try dsimp only)
    obtain ⟨a, b, c⟩ := WFc_L2 k (j + 1) _ (WF_takeWeather (i := j) (tmp := tmp) (sn := sn) (by omega) h) (by omega)
    exact ⟨a, b.trans ns_takeWeather.1, c.trans ns_takeWeather.2⟩
theorem WF_passHour {P : Nat → Int32} {tmp sn : Int32} (h : WF P) : WF (fP_X0_passHour P tmp sn) := (WFc_L2 _ _ _ h (by have := h.1.2.1; omega)).1
theorem ns_passHour {P : Nat → Int32} {tmp sn : Int32} (h : WF P) : fP_X0_passHour P tmp sn 1 = P 1 ∧ fP_X0_passHour P tmp sn 2 = P 2 := (WFc_L2 _ _ _ h (by have := h.1.2.1; omega)).2
