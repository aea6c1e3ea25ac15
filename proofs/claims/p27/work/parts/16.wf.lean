/-! Pages on which the methods can walk (indices are indices), and that the reference's hour keeps them so. -/
def WF (P : Nat → Int32) : Prop := okN P ∧ (∀ i, i < ns P → okR P i) ∧ ∀ q, q < np P → ¬ P (169 + 20 * q + 3) ≤ 0 → okW P q
/-- what a plow's hour leaves alone -/
def stat (q j : Nat) : Prop := (∀ i, i < 20 → j ≠ 9 + 8 * i + 2 ∧ j ≠ 9 + 8 * i + 4 ∧ j ≠ 9 + 8 * i + 6 ∧ j ≠ 9 + 8 * i + 7) ∧ j ≠ 169 + 20 * q + 2 ∧ j ≠ 169 + 20 * q + 4 ∧ j ≠ 169 + 20 * q + 5 ∧ j ≠ 169 + 20 * q + 6 ∧ j ≠ 169 + 20 * q + 7 ∧ j ≠ 3 ∧ j ≠ 8
theorem okW_u2 {P : Nat → Int32} {q : Nat} {x y : Int32} (h : okW P q) : okW (upd (upd P (169 + 20 * q + 5) x) (169 + 20 * q + 7) y) q := okW_u (by omega) (by omega) (by intros; omega) (by intros; omega) (okW_u (by omega) (by omega) (by intros; omega) (by intros; omega) h)
theorem plL {q : Nat} : ∀ (k : Nat) (mo mt : Int32) (P : Nat → Int32), (mo = 0 ∨ mt ≤ 0 ∨ (okW P q ∧ nc P q - pa P q ≤ k)) → okW P q → okW (fP_X7_plows_L114 q k mo mt P) q ∧ ∀ j, stat q j → fP_X7_plows_L114 q k mo mt P j = P j
  | 0, mo, mt, P, _, hW => by
    rw [fP_X7_plows_L114, ite_self]
    exact ⟨hW, fun _ _ => rfl⟩
  | k + 1, mo, mt, P, hI, hW => by
    rw [fP_X7_plows_L114]
    by_cases h1 : mo = 0
    · rw [if_pos h1]; exact ⟨hW, fun _ _ => rfl⟩
    rw [if_neg h1]
    by_cases h2 : mt ≤ 0
    · rw [if_pos h2]; exact ⟨hW, fun _ _ => rfl⟩
    rw [if_neg h2]
    have hk := plows_w hI h1 h2
    have hs20 := (hW.2.2.2.2 _ hW.2.2.2.1).2.1
    by_cases h3 : P (169 + 20 * q + 5) = 0
    · rw [if_pos h3]
      by_cases h4 : fR_X7_isDue P (rt P q (pa P q)) = 0
      · rw [if_pos h4]
        obtain ⟨a, b⟩ := plL k _ mt _ (go_inv hk) (go_W hW)
        exact ⟨a, fun j hj => (b j hj).trans (fr_goesOn hj.2.2.1 hj.2.2.2.1 hj.2.2.2.2.1)⟩
      · rw [if_neg h4]
        dsimp only
        by_cases h5 : upd (upd P (169 + 20 * q + 5) (P (169 + 20 * q + 5) + fR_X7_lesser mt (fR_X7_of P (rt P q (pa P q)) 0 - P (169 + 20 * q + 5)))) (169 + 20 * q + 7) (upd P (169 + 20 * q + 5) (P (169 + 20 * q + 5) + fR_X7_lesser mt (fR_X7_of P (rt P q (pa P q)) 0 - P (169 + 20 * q + 5))) (169 + 20 * q + 7) + fR_X7_lesser mt (fR_X7_of P (rt P q (pa P q)) 0 - P (169 + 20 * q + 5))) (169 + 20 * q + 5) = fR_X7_of (upd (upd P (169 + 20 * q + 5) (P (169 + 20 * q + 5) + fR_X7_lesser mt (fR_X7_of P (rt P q (pa P q)) 0 - P (169 + 20 * q + 5)))) (169 + 20 * q + 7) (upd P (169 + 20 * q + 5) (P (169 + 20 * q + 5) + fR_X7_lesser mt (fR_X7_of P (rt P q (pa P q)) 0 - P (169 + 20 * q + 5))) (169 + 20 * q + 7) + fR_X7_lesser mt (fR_X7_of P (rt P q (pa P q)) 0 - P (169 + 20 * q + 5)))) (rt P q (pa P q)) 0
        · rw [if_pos h5]
          obtain ⟨a, b⟩ := plL k _ _ _ (go_inv2 hk hs20) (go_W (okW_clears hs20 (okW_u2 hW)))
          exact ⟨a, fun j hj => by rw [b j hj, fr_goesOn hj.2.2.1 hj.2.2.2.1 hj.2.2.2.2.1, fr_clears (hj.1 _ hs20).1 (hj.1 _ hs20).2.1 (hj.1 _ hs20).2.2.1 (hj.1 _ hs20).2.2.2 hj.2.1 hj.2.2.2.2.2.2.2, upd_n hj.2.2.2.2.2.1, upd_n hj.2.2.2.1]⟩
        · rw [if_neg h5]
          obtain ⟨a, b⟩ := plL k mo _ _ (Or.inr (Or.inl (left1 h5 hs20 rfl))) (okW_u2 hW)
          exact ⟨a, fun j hj => by rw [b j hj, upd_n hj.2.2.2.2.2.1, upd_n hj.2.2.2.1]⟩
    · rw [if_neg h3]
      dsimp only
      by_cases h5 : upd (upd P (169 + 20 * q + 5) (P (169 + 20 * q + 5) + fR_X7_lesser mt (fR_X7_of P (rt P q (pa P q)) 0 - P (169 + 20 * q + 5)))) (169 + 20 * q + 7) (upd P (169 + 20 * q + 5) (P (169 + 20 * q + 5) + fR_X7_lesser mt (fR_X7_of P (rt P q (pa P q)) 0 - P (169 + 20 * q + 5))) (169 + 20 * q + 7) + fR_X7_lesser mt (fR_X7_of P (rt P q (pa P q)) 0 - P (169 + 20 * q + 5))) (169 + 20 * q + 5) = fR_X7_of (upd (upd P (169 + 20 * q + 5) (P (169 + 20 * q + 5) + fR_X7_lesser mt (fR_X7_of P (rt P q (pa P q)) 0 - P (169 + 20 * q + 5)))) (169 + 20 * q + 7) (upd P (169 + 20 * q + 5) (P (169 + 20 * q + 5) + fR_X7_lesser mt (fR_X7_of P (rt P q (pa P q)) 0 - P (169 + 20 * q + 5))) (169 + 20 * q + 7) + fR_X7_lesser mt (fR_X7_of P (rt P q (pa P q)) 0 - P (169 + 20 * q + 5)))) (rt P q (pa P q)) 0
      · rw [if_pos h5]
        obtain ⟨a, b⟩ := plL k _ _ _ (go_inv2 hk hs20) (go_W (okW_clears hs20 (okW_u2 hW)))
        exact ⟨a, fun j hj => by rw [b j hj, fr_goesOn hj.2.2.1 hj.2.2.2.1 hj.2.2.2.2.1, fr_clears (hj.1 _ hs20).1 (hj.1 _ hs20).2.1 (hj.1 _ hs20).2.2.1 (hj.1 _ hs20).2.2.2 hj.2.1 hj.2.2.2.2.2.2.2, upd_n hj.2.2.2.2.2.1, upd_n hj.2.2.2.1]⟩
      · rw [if_neg h5]
        obtain ⟨a, b⟩ := plL k mo _ _ (Or.inr (Or.inl (left1 h5 hs20 rfl))) (okW_u2 hW)
        exact ⟨a, fun j hj => by rw [b j hj, upd_n hj.2.2.2.2.2.1, upd_n hj.2.2.2.1]⟩
theorem plL0 {q k : Nat} {mt : Int32} {P : Nat → Int32} : fP_X7_plows_L114 q k 0 mt P = P := by
  cases k <;> rw [fP_X7_plows_L114, if_pos rfl]
theorem plows_W {P : Nat → Int32} {q : Nat} (hW0 : ¬ P (169 + 20 * q + 3) ≤ 0 → okW P q) : (¬ P (169 + 20 * q + 3) ≤ 0 → okW (fP_X7_plows P q) q) ∧ ∀ j, stat q j → fP_X7_plows P q j = P j := by
  unfold fP_X7_plows
  by_cases h1 : P (169 + 20 * q + 3) ≤ 0
  · rw [if_pos h1]
    dsimp only
    rw [plL0]
    exact ⟨fun h => absurd h1 h, fun _ _ => rfl⟩
  rw [if_neg h1]
  have hW := hW0 h1
  by_cases h2 : P (169 + 20 * q + 4) = 0
  · rw [if_pos h2]
    by_cases h3 : P (169 + 20 * q + 5) = 0
    · rw [if_pos h3]
      dsimp only
      obtain ⟨a, b⟩ := plL 12 1 _ _ (Or.inr (Or.inr (plows_j hW))) (plows_j hW).1
      exact ⟨fun _ => a, fun j hj => by rw [b j hj, upd_n hj.2.2.2.2.2.2.1, upd_n hj.2.1]⟩
    · rw [if_neg h3]
      obtain ⟨a, b⟩ := plL 12 1 (P (169 + 20 * q + 0)) _ (Or.inr (Or.inr (plows_i hW))) hW
      exact ⟨fun _ => a, b⟩
  · rw [if_neg h2]
    obtain ⟨a, b⟩ := plL 12 1 (P (169 + 20 * q + 0)) _ (Or.inr (Or.inr (plows_i hW))) hW
    exact ⟨fun _ => a, b⟩
/-- the places of a page that say what is an index -/
def ixp (j : Nat) : Prop := j = 1 ∨ j = 2 ∨ (∃ i, i < 20 ∧ j = 9 + 8 * i + 1) ∨ ∃ q, q < 3 ∧ (j = 169 + 20 * q + 3 ∨ j = 169 + 20 * q + 4 ∨ ∃ r, r < 12 ∧ j = 169 + 20 * q + 8 + r)
theorem WF_c {P P' : Nat → Int32} (h : ∀ j, ixp j → P' j = P j) (hw : WF P) : WF P' := by
  obtain ⟨a1, a2, a3⟩ := hw
  have e1 : P' 1 = P 1 := h 1 (Or.inl rfl)
  have e2 : P' 2 = P 2 := h 2 (Or.inr (Or.inl rfl))
  have n1 := a1.2.1
  have n2 := a1.2.2.2
  refine ⟨okN_c e1 e2 a1, fun i hi => ?_, fun q hq hc => ?_⟩
  · rw [ns_c e1] at hi
    exact okR_c (h _ (Or.inr (Or.inr (Or.inl ⟨i, by omega, rfl⟩)))) (a2 i hi)
  · rw [np_c e2] at hq
    have e3 := h (169 + 20 * q + 3) (Or.inr (Or.inr (Or.inr ⟨q, by omega, Or.inl rfl⟩)))
    rw [e3] at hc
    exact okW_k e3 (h _ (Or.inr (Or.inr (Or.inr ⟨q, by omega, Or.inr (Or.inl rfl)⟩)))) (fun j hj => h _ (Or.inr (Or.inr (Or.inr ⟨q, by omega, Or.inr (Or.inr ⟨j, hj, rfl⟩)⟩)))) (fun i hi => h _ (Or.inr (Or.inr (Or.inl ⟨i, hi, rfl⟩)))) (a3 q hq hc)
theorem fr_weather {P : Nat → Int32} {i j : Nat} {tmp sn : Int32} (h2 : j ≠ 9 + 8 * i + 2) (h3 : j ≠ 9 + 8 * i + 3) (h4 : j ≠ 9 + 8 * i + 4) : fP_X7_weather P i tmp sn j = P j := by
  unfold fP_X7_weather
  dsimp only
  repeat' split
  all_goals simp [upd, h2, h3, h4]
theorem fr_waits {P : Nat → Int32} {i j : Nat} (h1 : j ≠ 9 + 8 * i + 5) (h2 : j ≠ 5) (h3 : j ≠ 229 + 4 * pr P i + 3) : fP_X7_waits P i j = P j := by
  unfold fP_X7_waits
  dsimp only
  repeat' split
  all_goals simp [upd, h1, h2, h3]
theorem ix_lt {j : Nat} (h : ixp j) : j < 229 := by
  rcases h with rfl | rfl | ⟨i, hi, rfl⟩ | ⟨q, hq, rfl | rfl | ⟨r, hr, rfl⟩⟩ <;> omega
theorem WF_weather {P : Nat → Int32} {i : Nat} {tmp sn : Int32} (hi : i < 20) (h : WF P) : WF (fP_X7_weather P i tmp sn) := WF_c (fun j hj => by
  have h2 : j ≠ 9 + 8 * i + 2 ∧ j ≠ 9 + 8 * i + 3 ∧ j ≠ 9 + 8 * i + 4 := by
    rcases hj with rfl | rfl | ⟨i, hi, rfl⟩ | ⟨q, hq, rfl | rfl | ⟨r, hr, rfl⟩⟩ <;> omega
  exact fr_weather h2.1 h2.2.1 h2.2.2) h
theorem WF_waits {P : Nat → Int32} {i : Nat} (hi : i < 20) (h : WF P) : WF (fP_X7_waits P i) := WF_c (fun j hj => by
  have h2 : j ≠ 9 + 8 * i + 5 ∧ j ≠ 5 ∧ j < 229 := by
    refine ⟨?_, ?_, ix_lt hj⟩
    · rcases hj with rfl | rfl | ⟨i, hi, rfl⟩ | ⟨q, hq, rfl | rfl | ⟨r, hr, rfl⟩⟩ <;> omega
    · rcases hj with rfl | rfl | ⟨i, hi, rfl⟩ | ⟨q, hq, rfl | rfl | ⟨r, hr, rfl⟩⟩ <;> omega
  exact fr_waits h2.1 h2.2.1 (by omega)) h
theorem WF_u {P : Nat → Int32} {a : Nat} {x : Int32} (ha : a = 0 ∨ (2 < a ∧ a < 9)) (h : WF P) : WF (upd P a x) := WF_c (fun j hj => upd_n (by
  rcases hj with rfl | rfl | ⟨i, hi, rfl⟩ | ⟨q, hq, rfl | rfl | ⟨r, hr, rfl⟩⟩ <;> omega)) h
theorem ix_plows {P : Nat → Int32} {q j : Nat} (hW0 : ¬ P (169 + 20 * q + 3) ≤ 0 → okW P q) (hq : q < 3) (hj : ixp j) (h4 : j ≠ 169 + 20 * q + 4) : fP_X7_plows P q j = P j := by
  refine (plows_W hW0).2 j ⟨fun i hi => ?_, ?_, h4, ?_, ?_, ?_, ?_, ?_⟩
  all_goals rcases hj with rfl | rfl | ⟨i, hi, rfl⟩ | ⟨q, hq, rfl | rfl | ⟨r, hr, rfl⟩⟩ <;> omega
theorem WF_plows {P : Nat → Int32} {q : Nat} (hq : q < np P) (h : WF P) : WF (fP_X7_plows P q) := by
  obtain ⟨a1, a2, a3⟩ := id h
  have n1 := a1.2.1
  have n2 := a1.2.2.2
  have hW0 := a3 q hq
  have e1 : fP_X7_plows P q 1 = P 1 := ix_plows hW0 (by omega) (Or.inl rfl) (by omega)
  have e2 : fP_X7_plows P q 2 = P 2 := ix_plows hW0 (by omega) (Or.inr (Or.inl rfl)) (by omega)
  refine ⟨okN_c e1 e2 a1, fun i hi => ?_, fun q' hq' hc => ?_⟩
  · rw [ns_c e1] at hi
    exact okR_c (ix_plows hW0 (by omega) (Or.inr (Or.inr (Or.inl ⟨i, by omega, rfl⟩))) (by omega)) (a2 i hi)
  · rw [np_c e2] at hq'
    have e3 := ix_plows hW0 (j := 169 + 20 * q' + 3) (by omega) (Or.inr (Or.inr (Or.inr ⟨q', by omega, Or.inl rfl⟩))) (by omega)
    rw [e3] at hc
    by_cases e : q' = q
    · subst e
      exact (plows_W hW0).1 hc
    · exact okW_k e3 (ix_plows hW0 (by omega) (Or.inr (Or.inr (Or.inr ⟨q', by omega, Or.inr (Or.inl rfl)⟩))) (by omega)) (fun j hj => ix_plows hW0 (by omega) (Or.inr (Or.inr (Or.inr ⟨q', by omega, Or.inr (Or.inr ⟨j, hj, rfl⟩)⟩))) (by omega)) (fun i hi => ix_plows hW0 (by omega) (Or.inr (Or.inr (Or.inl ⟨i, hi, rfl⟩))) (by omega)) (a3 q' hq' hc)
theorem ns_weather {P : Nat → Int32} {i : Nat} {tmp sn : Int32} : fP_X7_weather P i tmp sn 1 = P 1 ∧ fP_X7_weather P i tmp sn 2 = P 2 := ⟨fr_weather (by omega) (by omega) (by omega), fr_weather (by omega) (by omega) (by omega)⟩
theorem ns_waits {P : Nat → Int32} {i : Nat} : fP_X7_waits P i 1 = P 1 ∧ fP_X7_waits P i 2 = P 2 := ⟨fr_waits (by omega) (by omega) (by omega), fr_waits (by omega) (by omega) (by omega)⟩
theorem ns_plows {P : Nat → Int32} {q : Nat} (hq : q < np P) (h : WF P) : fP_X7_plows P q 1 = P 1 ∧ fP_X7_plows P q 2 = P 2 := by
  have n2 := h.1.2.2.2
  exact ⟨ix_plows (h.2.2 q hq) (by omega) (Or.inl rfl) (by omega), ix_plows (h.2.2 q hq) (by omega) (Or.inr (Or.inl rfl)) (by omega)⟩
