/-! The class's hour of a plow is the reference's. -/
theorem lwL {q : Nat} : ∀ (k : Nat) (mt mo : Int32) (j : Nat) (P : Nat → Int32), okW P q → fP_X0_letWork_L22 q k mt mo j P = fP_X7_plows_L114 q k mo mt P
  | 0, mt, mo, j, P, hW => by rw [fP_X0_letWork_L22, fP_X7_plows_L114, ite_self]
  | k + 1, mt, mo, j, P, hW => by
    have hs20 := (hW.2.2.2.2 _ hW.2.2.2.1).2.1
    rw [fP_X0_letWork_L22, fP_X7_plows_L114]
    dsimp only
    by_cases h1 : mo = 0
    · rw [if_pos h1, if_pos h1]
    rw [if_neg h1, if_neg h1]
    by_cases h2 : mt ≤ 0
    · rw [if_pos h2, if_pos h2]
    rw [if_neg h2, if_neg h2]
    simp only [plowOn_eq, plowOnR_eq, goOn_eq, goOnR_eq, isDue_eq, fR_of_eq, clear_eq hs20]
    have hW2 : ∀ x y, okW (upd (upd P (169 + 20 * q + 5) x) (169 + 20 * q + 7) y) q := fun _ _ => okW_u2 hW
    by_cases h3 : P (169 + 20 * q + 5) = 0
    · rw [if_pos h3, if_pos h3]
      by_cases h4 : fR_X7_isDue P (rt P q (pa P q)) = 0
      · rw [if_pos h4, if_pos h4]
        exact lwL k _ _ _ _ (go_W hW)
      · rw [if_neg h4, if_neg h4]
        split
        · rename_i h5; exact (lwL k _ _ _ _ (go_W (okW_clears hs20 (hW2 _ _)))).trans (if_pos h5).symm
        · rename_i h5; exact (lwL k _ _ _ _ (hW2 _ _)).trans (if_neg h5).symm
    · rw [if_neg h3, if_neg h3]
      split
      · rename_i h5; exact (lwL k _ _ _ _ (go_W (okW_clears hs20 (hW2 _ _)))).trans (if_pos h5).symm
      · rename_i h5; exact (lwL k _ _ _ _ (hW2 _ _)).trans (if_neg h5).symm
theorem letWork_eq {P : Nat → Int32} {q : Nat} (h : ¬ P (169 + 20 * q + 3) ≤ 0) (hW : okW P q) : fP_X0_letWork P q = fP_X7_plows P q := by
  unfold fP_X0_letWork fP_X7_plows fR_X1_isAtStart
  dsimp only
  rw [if_neg h]
  by_cases h4 : P (169 + 20 * q + 4) = 0
  · rw [if_pos h4, if_pos h4]
    by_cases h5 : P (169 + 20 * q + 5) = 0
    · rw [if_pos h5, if_pos h5, if_neg (by decide), lwL _ _ _ _ _ (okW_fill hW), fill_eq]
    · rw [if_neg h5, if_neg h5, if_pos rfl, lwL _ _ _ _ _ hW]
  · rw [if_neg h4, if_neg h4, if_pos rfl, lwL _ _ _ _ _ hW]
theorem fr_letWait {P : Nat → Int32} {i j : Nat} (h1 : j ≠ 9 + 8 * i + 5) (h2 : j ≠ 6) (h3 : j ≠ 229 + 4 * pr P i + 3) : fP_X0_letWait P i j = P j := by
  unfold fP_X0_letWait
  dsimp only
  repeat' split
  all_goals simp only [upd_n h1, upd_n h2, upd_n h3]
theorem WF_letWait {P : Nat → Int32} {i : Nat} (hi : i < 20) (h : WF P) : WF (fP_X0_letWait P i) := WF_c (fun j hj => by
  rcases hj with rfl | rfl | ⟨k, hk, rfl⟩ | ⟨q, hq, rfl | rfl | ⟨r, hr, rfl⟩⟩ <;> exact fr_letWait (by omega) (by omega) (by omega)) h
theorem ns_letWait {P : Nat → Int32} {i : Nat} : fP_X0_letWait P i 1 = P 1 ∧ fP_X0_letWait P i 2 = P 2 := ⟨fr_letWait (by omega) (by omega) (by omega), fr_letWait (by omega) (by omega) (by omega)⟩
theorem WF_letWork {P : Nat → Int32} {q : Nat} (hq : q < np P) (h3 : ¬ P (169 + 20 * q + 3) ≤ 0) (h : WF P) : WF (fP_X0_letWork P q) := letWork_eq h3 (h.2.2 q hq h3) ▸ WF_plows hq h
theorem ns_letWork {P : Nat → Int32} {q : Nat} (hq : q < np P) (h3 : ¬ P (169 + 20 * q + 3) ≤ 0) (h : WF P) : fP_X0_letWork P q 1 = P 1 ∧ fP_X0_letWork P q 2 = P 2 := letWork_eq h3 (h.2.2 q hq h3) ▸ ns_plows hq h
