/-! .. and its waiting and its plows. -/
theorem waits_f {P : Nat → Int32} {i : Nat} (hi : i < 20) : fR_X7_waits P i = (if fR_X7_isDue P i = 0 then (if P (229 + 4 * pr P i + 1) < 0 then P (229 + 4 * pr P i + 2) else 0) else (if P (229 + 4 * pr P i + 1) < P (9 + 8 * i + 5) + 1 then P (229 + 4 * pr P i + 2) else 0))
    ∧ fP_X7_waits P i = (if fR_X7_isDue P i = 0 then (if P (229 + 4 * pr P i + 1) < 0 then upd (upd (upd P (9 + 8 * i + 5) 0) 5 (P 5 + 1)) (229 + 4 * pr P i + 3) (P (229 + 4 * pr P i + 3) + 1) else upd P (9 + 8 * i + 5) 0) else (if P (229 + 4 * pr P i + 1) < P (9 + 8 * i + 5) + 1 then upd (upd (upd P (9 + 8 * i + 5) (P (9 + 8 * i + 5) + 1)) 5 (P 5 + 1)) (229 + 4 * pr P i + 3) (P (229 + 4 * pr P i + 3) + 1) else upd P (9 + 8 * i + 5) (P (9 + 8 * i + 5) + 1))) := by
  have e2 : ∀ x, pr (upd P (9 + 8 * i + 5) x) i = pr P i := fun x => by unfold pr; rw [upd_n (by omega)]
  have e3 : ∀ x y z, pr (upd (upd (upd P (9 + 8 * i + 5) x) 5 y) (229 + 4 * pr P i + 3) z) i = pr P i := fun x y z => by unfold pr; rw [upd_n (by omega), upd_n (by omega), upd_n (by omega)]
  have t1 : ∀ x, upd P (9 + 8 * i + 5) x (229 + 4 * pr P i + 1) = P (229 + 4 * pr P i + 1) := fun x => upd_n (by omega)
  have t2 : ∀ x y z, upd (upd (upd P (9 + 8 * i + 5) x) 5 y) (229 + 4 * pr P i + 3) z (229 + 4 * pr P i + 2) = P (229 + 4 * pr P i + 2) := fun x y z => by rw [upd_n (by omega), upd_n (by omega), upd_n (by omega)]
  have t3 : ∀ x y, upd (upd P (9 + 8 * i + 5) x) 5 y (229 + 4 * pr P i + 3) = P (229 + 4 * pr P i + 3) := fun x y => by rw [upd_n (by omega), upd_n (by omega)]
  have w5 : ∀ x, upd P (9 + 8 * i + 5) x 5 = P 5 := fun x => upd_n (by omega)
  have ws : ∀ x, upd P (9 + 8 * i + 5) x (9 + 8 * i + 5) = x := fun x => upd_s
  constructor
  · unfold fR_X7_waits fR_X7_term
    (try dsimp only)
    simp only [e2, e3, t1, t2, t3, w5, ws]
  · unfold fP_X7_waits fR_X7_term
    (try dsimp only)
    simp only [e2, e3, t1, t2, t3, w5, ws]
section AG
variable {n m : Nat} {c : Nat → Nat} {P P' : Nat → Int32}
theorem ag_5 {x y : Int32} (h : Ag n m c P P') : Ag n m c (upd P 5 x) (upd P' 5 y) := fun j hj => by
  have h5 : j ≠ 5 := by
    rcases hj with h | ⟨i, k, _, _, rfl⟩ | ⟨i, k, _, _, rfl⟩ | ⟨k, _, rfl⟩
    · exact h.2
    all_goals omega
  rw [upd_n h5, upd_n h5]
  exact h j hj
theorem ag_waits (h : Ag n m c P P') {i : Nat} (hi : i < n) (h20 : i < 20) (hr : okR P' i) : fR_X7_waits P i = fR_X7_waits P' i ∧ Ag n m c (fP_X7_waits P i) (fP_X7_waits P' i) := by
  have s5 := ag_s h hi 5 (by decide)
  have t1 := ag_t h hr.2 1 (by decide)
  have t2 := ag_t h hr.2 2 (by decide)
  have t3 := ag_t h hr.2 3 (by decide)
  rw [(waits_f (P := P) h20).1, (waits_f (P := P') h20).1, (waits_f (P := P) h20).2, (waits_f (P := P') h20).2]
  simp only [ag_isDue h hi hr, ag_pr h hi, s5, t1, t2, t3]
  refine ⟨trivial, ?_⟩
  repeat' (first | rfl | exact h | apply ag_5 | apply ag_u | split)
theorem ag_of (h : Ag n m c P P') {i : Nat} (hi : i < n) : fR_X7_of P i 0 = fR_X7_of P' i 0 := ag_s h hi 0 (by decide)
end AG
