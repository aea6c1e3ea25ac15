/-! An hour of the reference keeps pages in agreement. -/
theorem hrI_plows {n m : Nat} {c : Nat → Nat} {P : Nat → Int32} {q : Nat} (hq : q < m) (h : hrI n m c P) : hrI n m c (fP_X7_plows P q) := by
  have hq' : q < np P := by rw [h.2.2.1]; exact hq
  have hm : m ≤ 3 := by have := h.1.1.2.2.2; have := h.2.2.1; omega
  refine hrI_f h (WF_plows hq' h.1) (ns_plows hq' h.1).1 (ns_plows hq' h.1).2 (fun r hr => ⟨?_, fun j hj => ?_⟩)
  · exact ix_plows (h.1.2.2 q hq') (by omega) (Or.inr (Or.inr (Or.inr ⟨r, by omega, Or.inl rfl⟩))) (by omega)
  · exact ix_plows (h.1.2.2 q hq') (by omega) (Or.inr (Or.inr (Or.inr ⟨r, by omega, Or.inr (Or.inr ⟨j, hj, rfl⟩)⟩))) (by omega)
theorem ag_L27 {n m : Nat} {c : Nat → Nat} {tmp sn : Int32} : ∀ (k j : Nat) (P P' : Nat → Int32), Ag n m c P P' → hrI n m c P' → j + k = m → Ag n m c (fP_X7_hour_L27 tmp sn k j P) (fP_X7_hour_L27 tmp sn k j P')
  | 0, j, P, P', h, hI, _ => by
    rw [fP_X7_hour_L27, fP_X7_hour_L27]
    have e : ns P = n := by rw [← hI.2.1]; exact ns_c (ag_c h (by decide) (by decide))
    rw [e, hI.2.1]
    exact ag_L53 _ _ _ _ _ h hI (by omega)
  | k + 1, j, P, P', h, hI, hk => by
    rw [fP_X7_hour_L27, fP_X7_hour_L27]
    (try dsimp only)
    have hj : j < m := by omega
    exact ag_L27 k (j + 1) _ _ (ag_plows hj h (hI.2.2.2 j hj)) (hrI_plows hj hI) (by omega)
theorem ag_L2 {n m : Nat} {c : Nat → Nat} {tmp sn : Int32} : ∀ (k j : Nat) (P P' : Nat → Int32), Ag n m c P P' → hrI n m c P' → j + k = n → Ag n m c (fP_X7_hour_L2 tmp sn k j P) (fP_X7_hour_L2 tmp sn k j P')
  | 0, j, P, P', h, hI, _ => by
    rw [fP_X7_hour_L2, fP_X7_hour_L2]
    have e : np P = m := by rw [← hI.2.2.1]; exact np_c (ag_c h (by decide) (by decide))
    rw [e, hI.2.2.1]
    exact ag_L27 _ _ _ _ h hI (by omega)
  | k + 1, j, P, P', h, hI, hk => by
    rw [fP_X7_hour_L2, fP_X7_hour_L2]
    (try dsimp only)
    have hn : n ≤ 20 := by have := hI.1.1.2.1; have := hI.2.1; omega
    exact ag_L2 k (j + 1) _ _ (ag_weather h (by omega)) (hrI_weather (by omega) hI) (by omega)
theorem ag_hour {n m : Nat} {c : Nat → Nat} {tmp sn : Int32} {P P' : Nat → Int32} (h : Ag n m c P P') (hI : hrI n m c P') : Ag n m c (fP_X7_hour P tmp sn) (fP_X7_hour P' tmp sn) := by
  have e : ns P = n := by rw [← hI.2.1]; exact ns_c (ag_c h (by decide) (by decide))
  unfold fP_X7_hour
  rw [e, hI.2.1]
  exact ag_L2 _ _ _ _ h hI (by omega)
