/-! Waiting, on the class's page: the credits are added at once, word 5 stands. -/
def cR (acc : Int32) (P P' : Nat → Int32) : Prop := P 6 = P' 6 + acc ∧ ∀ x, x ≠ 5 → x ≠ 6 → P x = P' x
theorem cl_waits {P P' : Nat → Int32} {acc : Int32} {i : Nat} (hi : i < 20) (h : cR acc P P') (hl : 0 ≤ P' (229 + 4 * pr P' i + 1)) : cR (acc + fR_X7_waits P' i) (fP_X0_letWait P i) (fP_X7_waits P' i) := by
  have epr : pr P i = pr P' i := by unfold pr; rw [h.2 _ (by omega) (by omega)]
  have s2 := h.2 (9 + 8 * i + 2) (by omega) (by omega)
  have s5 := h.2 (9 + 8 * i + 5) (by omega) (by omega)
  have t0 := h.2 (229 + 4 * pr P' i + 0) (by omega) (by omega)
  have t1 := h.2 (229 + 4 * pr P' i + 1) (by omega) (by omega)
  have t2 := h.2 (229 + 4 * pr P' i + 2) (by omega) (by omega)
  have t3 := h.2 (229 + 4 * pr P' i + 3) (by omega) (by omega)
  have eD : fR_X7_isDue P i = fR_X7_isDue P' i := by
    unfold fR_X7_isDue fR_X7_of fR_X7_term
    rw [epr, s2, t0]
  have eR : fR_X7_waits P i = fR_X7_waits P' i := by
    rw [(waits_f (P := P) hi).1, (waits_f (P := P') hi).1]
    simp only [eD, epr, s5, t1, t2]
  rw [letWait_eq hi (by rw [epr, t1]; exact hl)]
  refine ⟨?_, fun x h5 h6 => ?_⟩
  · show (if (6 : Nat) = 5 then P 5 else if (6 : Nat) = 6 then P 6 + fR_X7_waits P i else fP_X7_waits P i 6) = _
    rw [if_neg (by decide), if_pos rfl, fr_waits (by omega) (by omega) (by omega), h.1, eR, Int32.add_assoc]
  · show (if x = 5 then P 5 else if x = 6 then P 6 + fR_X7_waits P i else fP_X7_waits P i x) = _
    have hx := h.2 x h5 h6
    rw [if_neg h5, if_neg h6, (waits_f (P := P) hi).2, (waits_f (P := P') hi).2]
    simp only [eD, epr, s5, t1, t3]
    split <;> split
    all_goals simp only [upd, if_neg h5, hx]
