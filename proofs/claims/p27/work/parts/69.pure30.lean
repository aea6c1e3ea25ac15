/-! Ranges that clearing keeps. -/
theorem clears_r {P : Nat → Int32} {q i a b L S : Nat} (hi : i < 20) (h0 : P (9 + 8 * i + 0) = nI L) (hS : P 4 = nI S) (h4 : P (9 + 8 * i + 4) = nI a) (hq2 : P (169 + 20 * q + 2) = nI b) (hL : L ≤ 2000) (hS2 : S ≤ 50) (ha : a ≤ 100) (hb : b ≤ 100000) : ∃ a' b', a' ≤ a ∧ b' ≤ b ∧ fP_X7_clears P q i (9 + 8 * i + 2) = 0 ∧ fP_X7_clears P q i (9 + 8 * i + 4) = nI a' ∧ fP_X7_clears P q i (169 + 20 * q + 2) = nI b' := by
  have hLS : L * S ≤ 2000 * 50 := Nat.mul_le_mul hL hS2
  have e1 : (nI L * nI S + 999) / 1000 = nI ((L * S + 999) / 1000) := by
    rw [pk_mul, show (999 : Int32) = nI 999 from rfl, nI_add, show (1000 : Int32) = nI 1000 from rfl, pk_div (by omega) (by omega) (by omega)]
  generalize hn : (L * S + 999) / 1000 = nd at e1
  have hnd : nd ≤ 200 := by omega
  have l1 := less_n (a := nd) (b := b) (by omega) (by omega)
  have hm1 : min nd b ≤ nd := Nat.min_le_left _ _
  have hm2 : min nd b ≤ b := Nat.min_le_right _ _
  have e2 : (9 + 8 * i + 2 : Nat) ≠ 9 + 8 * i + 4 := by omega
  have e3 : (9 + 8 * i + 2 : Nat) ≠ 9 + 8 * i + 6 := by omega
  have e4 : (9 + 8 * i + 2 : Nat) ≠ 9 + 8 * i + 7 := by omega
  have e5 : (9 + 8 * i + 2 : Nat) ≠ 169 + 20 * q + 2 := by omega
  have e6 : (9 + 8 * i + 2 : Nat) ≠ 8 := by omega
  have f3 : (9 + 8 * i + 4 : Nat) ≠ 9 + 8 * i + 6 := by omega
  have f4 : (9 + 8 * i + 4 : Nat) ≠ 9 + 8 * i + 7 := by omega
  have f5 : (9 + 8 * i + 4 : Nat) ≠ 169 + 20 * q + 2 := by omega
  have f6 : (9 + 8 * i + 4 : Nat) ≠ 8 := by omega
  have g3 : (169 + 20 * q + 2 : Nat) ≠ 9 + 8 * i + 6 := by omega
  have g4 : (169 + 20 * q + 2 : Nat) ≠ 9 + 8 * i + 7 := by omega
  have g6 : (169 + 20 * q + 2 : Nat) ≠ 8 := by omega
  unfold fP_X7_clears fR_X7_ofPlow
  (try dsimp only)
  rw [h0, hS, e1, hq2, l1]
  by_cases hz : nI nd ≤ 0
  · rw [if_pos hz]
    refine ⟨a, b - min nd b, Nat.le_refl _, Nat.sub_le _ _, ?_⟩
    simp only [upd, e2, e3, e4, e5, e6, f3, f4, f5, f6, g3, g4, g6, e2.symm, e5.symm, f5.symm, if_true, if_false, h4, hq2, Int32.sub_zero]
    exact ⟨trivial, trivial, pk_sub hm2⟩
  · rw [if_neg hz]
    have hpos : 0 < nd := by
      rcases Nat.eq_zero_or_pos nd with h | h
      · rw [h] at hz
        exact absurd (Int32.le_refl 0) hz
      · exact h
    have ham : a * min nd b ≤ a * nd := Nat.mul_le_mul (Nat.le_refl _) hm1
    have ha2 : a * nd ≤ 100 * 200 := Nat.mul_le_mul ha hnd
    have hle : a * min nd b / nd ≤ a := by
      have := Nat.div_le_div_right (c := nd) ham
      rwa [Nat.mul_div_cancel _ hpos] at this
    refine ⟨a - a * min nd b / nd, b - min nd b, Nat.sub_le _ _, Nat.sub_le _ _, ?_⟩
    simp only [upd, e2, e3, e4, e5, e6, f3, f4, f5, f6, g3, g4, g6, e2.symm, e5.symm, f5.symm, if_true, if_false, h4, hq2, pk_mul]
    rw [pk_div (by omega) hpos (by omega)]
    exact ⟨trivial, pk_sub hle, pk_sub hm2⟩
