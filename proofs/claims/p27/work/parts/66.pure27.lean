/-! The end of the class's hour against the reference's: all but word 5. -/
def limP (P : Nat → Int32) : Prop := ∀ r, r < 3 → 0 ≤ P (229 + 4 * r + 1)
theorem limP_c {P P1 : Nat → Int32} (h : ∀ r, r < 3 → P1 (229 + 4 * r + 1) = P (229 + 4 * r + 1)) (hl : limP P) : limP P1 := fun r hr => by rw [h r hr]; exact hl r hr
theorem cl_L67 {tmp sn : Int32} : ∀ (k j : Nat) (acc : Int32) (P P' : Nat → Int32), cR acc P P' → WF P' → limP P' → j + k ≤ ns P' → ∀ x, x ≠ 5 → fP_X0_passHour_L67 tmp sn k j P x = fP_X7_hour_L53 tmp sn k acc j P' x
  | 0, j, acc, P, P', h, _, _, _, x, h5 => by
    rw [fP_X0_passHour_L67, fP_X7_hour_L53]
    (try dsimp only)
    have h0 := h.2 0 (by decide) (by decide)
    by_cases h6 : x = 6
    · rw [h6]
      simp [upd, h.1]
    · have hx := h.2 x h5 h6
      simp [upd, h0, h6, hx]
  | k + 1, j, acc, P, P', h, hw, hl, hk, x, h5 => by
    have hn := hw.1.2.1
    have hr := hw.2.1 j (by omega)
    rw [fP_X0_passHour_L67, fP_X7_hour_L53]
    (try dsimp only)
    exact cl_L67 k (j + 1) _ _ _ (cl_waits (by omega) h (hl _ hr.2)) (WF_waits (by omega) hw) (limP_c (fun r _ => fr_waits (by omega) (by omega) (by omega)) hl) (by rw [ns_c ns_waits.1]; omega) x h5
