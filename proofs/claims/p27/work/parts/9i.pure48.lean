/-! The digest: class against reference. -/
theorem value_eq {C P : Nat → Int32} {w : Nat} (h : Cg C P) (l2 : w ≤ 9) : fR_X0_number C w = fR_X7_valueOf P w := by
  have cg : ∀ k, k < 9 → k ≠ 5 → C k = P k := fun k a b => ag_c h.1 a b
  rcases (show w = 0 ∨ w = 1 ∨ w = 2 ∨ w = 3 ∨ w = 4 ∨ w = 5 ∨ w = 6 ∨ w = 7 ∨ w = 8 ∨ w = 9 by omega) with rfl | rfl | rfl | rfl | rfl | rfl | rfl | rfl | rfl | rfl
  · exact cg 0 (by omega) (by omega)
  · exact cg 1 (by omega) (by omega)
  · exact cg 2 (by omega) (by omega)
  · exact cg 3 (by omega) (by omega)
  · exact cg 4 (by omega) (by omega)
  · show fR_X0_complaints C = P 5
    rw [compl_eq, h.2.1]
    exact cs_c (ag_t h.1 (r := 0) (by omega) 3 (by omega)) (ag_t h.1 (r := 1) (by omega) 3 (by omega)) (ag_t h.1 (r := 2) (by omega) 3 (by omega))
  · exact cg 6 (by omega) (by omega)
  · show fR_X0_dueStreets_L4 C (ns C) 0 0 = fR_X7_due_L4 P (ns P) 0 0
    rw [ns_ag h.1]
    exact due_eq h _ _ _ (by omega)
  · exact cg 7 (by omega) (by omega)
  · exact cg 8 (by omega) (by omega)
theorem street_eq {C P : Nat → Int32} {i w : Nat} (h : Cg C P) (k1 : i < ns P) (l2 : w ≤ 8) : fR_X0_numberOfStreet C i w = fR_X7_ofStreet P i w := by
  have cg : ∀ k, k < 8 → C (9 + 8 * i + k) = P (9 + 8 * i + k) := fun k a => ag_s h.1 k1 k a
  rcases (show w = 0 ∨ w = 1 ∨ w = 2 ∨ w = 3 ∨ w = 4 ∨ w = 5 ∨ w = 6 ∨ w = 7 ∨ w = 8 by omega) with rfl | rfl | rfl | rfl | rfl | rfl | rfl | rfl | rfl
  · exact cg 0 (by omega)
  · exact cg 1 (by omega)
  · exact cg 2 (by omega)
  · exact cg 3 (by omega)
  · exact cg 4 (by omega)
  · exact cg 5 (by omega)
  · show (if fR_X7_isDue C i = 0 then (0 : Int32) else 1) = if fR_X7_isDue P i = 0 then 0 else 1
    rw [ag_isDue h.1 k1 (h.2.2.oR k1)]
  · exact cg 6 (by omega)
  · exact cg 7 (by omega)