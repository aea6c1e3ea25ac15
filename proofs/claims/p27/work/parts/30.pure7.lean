theorem num_0 {T F : Nat → Int32} {lo hi : Int32} {fr : Nat} (hX : okX F) (hf : fr ≤ ta F) (G : Nat → Int32) (r : Int32)
    (hG : (G = F ∧ (r = 0 ∨ (r = 1 ∧ ¬ ta F = fr ∧ ¬ fR_X7_in (F 8) lo hi = 0))) ∨ (G = upd F 7 (nI fr) ∧ r = 0)) :
    okX G ∧ tl G = tl F ∧ (∀ j, j ≠ 7 → j ≠ 8 → G j = F j) ∧ (r = 0 ∨ (r = 1 ∧ fr < ta G ∧ ¬ fR_X7_in (G 8) lo hi = 0)) ∧ fr ≤ ta G := by
  have h2 := hX.1.2
  have h3 := hX.2.2
  rcases hG with ⟨rfl, h | ⟨h, a, b⟩⟩ | ⟨rfl, h⟩
  · exact ⟨hX, rfl, fun _ _ _ => rfl, Or.inl h, hf⟩
  · exact ⟨hX, rfl, fun _ _ _ => rfl, Or.inr ⟨h, by omega, b⟩, hf⟩
  · have e := ta_7 (F := F) (n := fr) (by omega)
    exact ⟨okX_7 hX.1 (by omega), tl_c (upd_n (by decide)), fun j h7 _ => upd_n h7, Or.inl h, by rw [e]; omega⟩
theorem num_L {T : Nat → Int32} {d : Nat} {lo hi : Int32} : ∀ (k fr : Nat) (F : Nat → Int32), okX F → fr ≤ ta F →
    okX (fF_X7_readNumber_L11 T d lo hi k fr F) ∧ tl (fF_X7_readNumber_L11 T d lo hi k fr F) = tl F ∧ (∀ j, j ≠ 7 → j ≠ 8 → fF_X7_readNumber_L11 T d lo hi k fr F j = F j) ∧ (fR_X7_readNumber_L11 T d lo hi k fr F = 0 ∨ (fR_X7_readNumber_L11 T d lo hi k fr F = 1 ∧ fr < ta (fF_X7_readNumber_L11 T d lo hi k fr F) ∧ ¬ fR_X7_in (fF_X7_readNumber_L11 T d lo hi k fr F 8) lo hi = 0)) ∧ fr ≤ ta (fF_X7_readNumber_L11 T d lo hi k fr F)
  | 0, fr, F, hX, hf => by
    refine num_0 (T := T) hX hf _ _ ?_
    rw [fF_X7_readNumber_L11, fR_X7_readNumber_L11]
    (try dsimp only)
    by_cases h1 : ta F = fr
    · rw [if_pos h1, if_pos h1]; exact Or.inl ⟨rfl, Or.inl rfl⟩
    · rw [if_neg h1, if_neg h1]
      by_cases h2 : fR_X7_isDigit T F = 0
      · rw [if_pos h2, if_pos h2]
        by_cases h3 : fR_X7_in (F 8) lo hi = 0
        · rw [if_pos h3, if_pos h3]; exact Or.inr ⟨rfl, rfl⟩
        · rw [if_neg h3, if_neg h3]; exact Or.inl ⟨rfl, Or.inr ⟨rfl, h1, h3⟩⟩
      · rw [if_neg h2, if_neg h2]; exact Or.inl ⟨rfl, Or.inl rfl⟩
  | k + 1, fr, F, hX, hf => by
    by_cases h2 : fR_X7_isDigit T F = 0
    · refine num_0 (T := T) hX hf _ _ ?_
      rw [fF_X7_readNumber_L11, fR_X7_readNumber_L11]
      (try dsimp only)
      rw [if_pos h2, if_pos h2]
      by_cases h1 : ta F = fr
      · rw [if_pos h1, if_pos h1]; exact Or.inl ⟨rfl, Or.inl rfl⟩
      · rw [if_neg h1, if_neg h1]
        by_cases h3 : fR_X7_in (F 8) lo hi = 0
        · rw [if_pos h3, if_pos h3]; exact Or.inr ⟨rfl, rfl⟩
        · rw [if_neg h3, if_neg h3]; exact Or.inl ⟨rfl, Or.inr ⟨rfl, h1, h3⟩⟩
    · rw [fF_X7_readNumber_L11, fR_X7_readNumber_L11]
      (try dsimp only)
      rw [if_neg h2, if_neg h2]
      obtain ⟨a, b, c⟩ := okX_d (x := 10 * F 8 + fR_X7_here T F - 48) (digit_lt h2) hX
      obtain ⟨g1, g2, g3, g4, g5⟩ := num_L (T := T) (d := d) (lo := lo) (hi := hi) k fr _ a (by rw [b]; omega)
      exact ⟨g1, g2.trans c, fun j h7 h8 => by rw [g3 j h7 h8, upd_n h7, upd_n h8], g4, g5⟩
theorem num_X {T F : Nat → Int32} {d : Nat} {lo hi : Int32} (hX : okX F) :
    okX (fF_X7_readNumber T F d lo hi) ∧ tl (fF_X7_readNumber T F d lo hi) = tl F ∧ (∀ j, j ≠ 7 → j ≠ 8 → fF_X7_readNumber T F d lo hi j = F j) ∧ (fR_X7_readNumber T F d lo hi = 0 ∨ (fR_X7_readNumber T F d lo hi = 1 ∧ ta F < ta (fF_X7_readNumber T F d lo hi) ∧ ¬ fR_X7_in (fF_X7_readNumber T F d lo hi 8) lo hi = 0)) ∧ ta F ≤ ta (fF_X7_readNumber T F d lo hi) := by
  have h0 : okX (upd F 8 0) := okX_u (by decide) hX
  have e1 : ta (upd F 8 0) = ta F := ta_c (upd_n (by decide))
  have e2 : tl (upd F 8 0) = tl F := tl_c (upd_n (by decide))
  obtain ⟨g1, g2, g3, g4, g5⟩ := num_L (T := T) (d := d) (lo := lo) (hi := hi) d (ta F) _ h0 (by rw [e1]; exact Nat.le_refl _)
  unfold fF_X7_readNumber fR_X7_readNumber
  (try dsimp only)
  exact ⟨g1, g2.trans e2, fun j h7 h8 => by rw [g3 j h7 h8, upd_n h8], g4, g5⟩
theorem okX_num {T F : Nat → Int32} {d : Nat} {lo hi : Int32} (hX : okX F) : okX (fF_X7_readNumber T F d lo hi) := (num_X hX).1
theorem takes_b {T F : Nat → Int32} {x : Int32} : fR_X7_takes T F x = 0 ∨ fR_X7_takes T F x = 1 := by
  unfold fR_X7_takes
  (try dsimp only)
  split
  · exact Or.inr rfl
  · exact Or.inl rfl
