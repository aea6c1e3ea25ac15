/-! Ranges that weather keeps. -/
theorem less_n {a b : Nat} (ha : a < 2 ^ 31) (hb : b < 2 ^ 31) : fR_X7_lesser (nI a) (nI b) = nI (min a b) := by
  unfold fR_X7_lesser
  by_cases h : b ≤ a
  · rw [if_pos ((nI_leI hb ha).mpr h), Nat.min_eq_right h]
  · rw [if_neg (fun x => h ((nI_leI hb ha).mp x)), Nat.min_eq_left (by omega)]
theorem div10 : ∀ t : Fin 301, nI t.1 / 10 + 1 = nI (t.1 / 10 + 1) := by decide +kernel
theorem neg_le0 : ∀ t : Fin 301, -(nI t.1) ≤ 0 ∧ (0 ≤ -(nI t.1) → t.1 = 0) := by decide +kernel
theorem weather_r {P : Nat → Int32} {i d w a s : Nat} {tmp : Int32} (h2 : P (9 + 8 * i + 2) = nI d) (h3 : P (9 + 8 * i + 3) = nI w) (h4 : P (9 + 8 * i + 4) = nI a) (hd : d ≤ 300000) (hw : w ≤ 100) (ha : a ≤ 100) (hs : s ≤ 100) (ht : (∃ t, 0 < t ∧ t ≤ 300 ∧ tmp = nI t) ∨ ∃ t, t ≤ 300 ∧ tmp = -(nI t)) : ∃ d' w' a', d' ≤ d + s ∧ w' ≤ 100 ∧ a' ≤ 100 ∧ fP_X7_weather P i tmp (nI s) (9 + 8 * i + 2) = nI d' ∧ fP_X7_weather P i tmp (nI s) (9 + 8 * i + 3) = nI w' ∧ fP_X7_weather P i tmp (nI s) (9 + 8 * i + 4) = nI a' := by
  have n32 : (9 + 8 * i + 3 : Nat) ≠ 9 + 8 * i + 2 := by omega
  have n42 : (9 + 8 * i + 4 : Nat) ≠ 9 + 8 * i + 2 := by omega
  have n43 : (9 + 8 * i + 4 : Nat) ≠ 9 + 8 * i + 3 := by omega
  have n23 := n32.symm
  have n24 := n42.symm
  have n34 := n43.symm
  rcases ht with ⟨t, ht0, ht1, rfl⟩ | ⟨t, ht1, rfl⟩
  · have hp : ¬ nI t ≤ 0 := fun h => by
      have := (nI_leI (a := t) (b := 0) (by omega) (by omega)).mp h
      omega
    refine ⟨d + s - min (d + s) (t / 5), min (w + 2 * min (d + s) (t / 5)) 100, a - min a (t / 5), by omega, by omega, by omega, ?_⟩
    have e1 : nI d + nI s = nI (d + s) := nI_add _ _
    have l1 := less_n (a := d + s) (b := t / 5) (by omega) (by omega)
    have m2 : (2 : Int32) * nI (min (d + s) (t / 5)) = nI (2 * min (d + s) (t / 5)) := pk_mul 2 _
    have l2 := less_n (a := w + 2 * min (d + s) (t / 5)) (b := 100) (by omega) (by omega)
    have l3 := less_n (a := a) (b := t / 5) (by omega) (by omega)
    have q5 := div5 ⟨t, by omega⟩
    simp only at q5
    unfold fP_X7_weather
    (try dsimp only)
    rw [if_neg hp, if_pos (Int32.le_of_lt (Int32.not_le.1 hp))]
    simp only [upd, n32, n42, n43, n23, n24, n34, if_true, if_false, h2, h3, h4, e1, q5, l1, m2, l3, nI_add]
    refine ⟨pk_sub (by omega), ?_, pk_sub (by omega)⟩
    exact l2
  · obtain ⟨hp, hz⟩ := neg_le0 ⟨t, by omega⟩
    have e1 : nI d + nI s = nI (d + s) := nI_add _ _
    unfold fP_X7_weather
    (try dsimp only)
    rw [if_pos hp]
    by_cases h0 : 0 ≤ -(nI t)
    · rw [if_pos h0]
      refine ⟨d + s, w, a, by omega, hw, ha, ?_⟩
      simp only [upd, n32, n42, n43, n23, n24, n34, if_true, if_false, h2, h3, h4, e1]
      exact ⟨trivial, trivial, trivial⟩
    · rw [if_neg h0]
      have q10 := div10 ⟨t, by omega⟩
      simp only at q10
      have l1 := less_n (a := w) (b := t / 10 + 1) (by omega) (by omega)
      have l2 := less_n (a := a + min w (t / 10 + 1)) (b := 100) (by omega) (by omega)
      refine ⟨d + s, w - min w (t / 10 + 1), min (a + min w (t / 10 + 1)) 100, by omega, by omega, by omega, ?_⟩
      simp only [upd, n32, n42, n43, n23, n24, n34, if_true, if_false, h2, h3, h4, e1, Int32.neg_neg, q10, l1, nI_add]
      exact ⟨trivial, pk_sub (by omega), l2⟩
