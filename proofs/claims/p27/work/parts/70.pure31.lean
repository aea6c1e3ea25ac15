/-! .. and its answer, the credits of the hour, is one. -/
theorem ag_R53 {n m : Nat} {c : Nat → Nat} {tmp sn : Int32} : ∀ (k : Nat) (acc : Int32) (j : Nat) (P P' : Nat → Int32), Ag n m c P P' → hrI n m c P' → j + k ≤ n → fR_X7_hour_L53 tmp sn k acc j P = fR_X7_hour_L53 tmp sn k acc j P'
  | 0, acc, j, P, P', h, _, _ => by rw [fR_X7_hour_L53, fR_X7_hour_L53]
  | k + 1, acc, j, P, P', h, hI, hk => by
    have hn : n ≤ 20 := by have := hI.1.1.2.1; have := hI.2.1; omega
    have ha := ag_waits h (show j < n by omega) (by omega) (hI.1.2.1 j (by rw [hI.2.1]; omega))
    rw [fR_X7_hour_L53, fR_X7_hour_L53]
    (try dsimp only)
    rw [ha.1]
    exact ag_R53 k _ _ _ _ ha.2 (hrI_waits (by omega) hI) (by omega)
theorem ag_R27 {n m : Nat} {c : Nat → Nat} {tmp sn : Int32} : ∀ (k j : Nat) (P P' : Nat → Int32), Ag n m c P P' → hrI n m c P' → j + k = m → fR_X7_hour_L27 tmp sn k j P = fR_X7_hour_L27 tmp sn k j P'
  | 0, j, P, P', h, hI, _ => by
    rw [fR_X7_hour_L27, fR_X7_hour_L27]
    have e : ns P = n := by rw [← hI.2.1]; exact ns_c (ag_c h (by decide) (by decide))
    rw [e, hI.2.1]
    exact ag_R53 _ _ _ _ _ h hI (by omega)
  | k + 1, j, P, P', h, hI, hk => by
    rw [fR_X7_hour_L27, fR_X7_hour_L27]
    (try dsimp only)
    have hj : j < m := by omega
    exact ag_R27 k (j + 1) _ _ (ag_plows hj h (hI.2.2.2 j hj)) (hrI_plows hj hI) (by omega)
theorem ag_R2 {n m : Nat} {c : Nat → Nat} {tmp sn : Int32} : ∀ (k j : Nat) (P P' : Nat → Int32), Ag n m c P P' → hrI n m c P' → j + k = n → fR_X7_hour_L2 tmp sn k j P = fR_X7_hour_L2 tmp sn k j P'
  | 0, j, P, P', h, hI, _ => by
    rw [fR_X7_hour_L2, fR_X7_hour_L2]
    have e : np P = m := by rw [← hI.2.2.1]; exact np_c (ag_c h (by decide) (by decide))
    rw [e, hI.2.2.1]
    exact ag_R27 _ _ _ _ h hI (by omega)
  | k + 1, j, P, P', h, hI, hk => by
    rw [fR_X7_hour_L2, fR_X7_hour_L2]
    (try dsimp only)
    have hn : n ≤ 20 := by have := hI.1.1.2.1; have := hI.2.1; omega
    exact ag_R2 k (j + 1) _ _ (ag_weather h (by omega)) (hrI_weather (by omega) hI) (by omega)
theorem ag_Rhour {n m : Nat} {c : Nat → Nat} {tmp sn : Int32} {P P' : Nat → Int32} (h : Ag n m c P P') (hI : hrI n m c P') : fR_X7_hour P tmp sn = fR_X7_hour P' tmp sn := by
  have e : ns P = n := by rw [← hI.2.1]; exact ns_c (ag_c h (by decide) (by decide))
  unfold fR_X7_hour
  rw [e, hI.2.1]
  exact ag_R2 _ _ _ _ h hI (by omega)
