/-! Hours under agreement. -/
theorem ag_hoursL {n m : Nat} {c : Nat → Nat} {tmp sn : Int32} {many : Nat} : ∀ (k : Nat) (acc : Int32) (j : Nat) (P P' : Nat → Int32), Ag n m c P P' → hrI n m c P' → Ag n m c (fP_X7_hours_L6 tmp sn many k acc j P) (fP_X7_hours_L6 tmp sn many k acc j P') ∧ fR_X7_hours_L6 tmp sn many k acc j P = fR_X7_hours_L6 tmp sn many k acc j P'
  | 0, acc, j, P, P', h, _ => by
    rw [fP_X7_hours_L6, fP_X7_hours_L6, fR_X7_hours_L6, fR_X7_hours_L6]
    exact ⟨h, rfl⟩
  | k + 1, acc, j, P, P', h, hI => by
    rw [fP_X7_hours_L6, fP_X7_hours_L6, fR_X7_hours_L6, fR_X7_hours_L6]
    (try dsimp only)
    rw [ag_Rhour h hI]
    exact ag_hoursL k _ _ _ _ (ag_hour h hI) (hrI_hour hI)
theorem ag_hours {n m : Nat} {c : Nat → Nat} {tmp sn : Int32} {many : Nat} {P P' : Nat → Int32} (h : Ag n m c P P') (hI : hrI n m c P') : Ag n m c (fP_X7_hours P tmp sn many) (fP_X7_hours P' tmp sn many) ∧ fR_X7_hours P tmp sn many = fR_X7_hours P' tmp sn many := ag_hoursL _ _ _ _ _ h hI
