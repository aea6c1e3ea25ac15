/-! What reading a number and a sign leaves of the text's fields. -/
theorem fail5 {F : Nat → Int32} {x : Int32} {j : Nat} (h : j ≠ 7) : fF_X5_fail F x j = F j := by
  unfold fF_X5_fail
  (try dsimp only)
  split
  · exact upd_n h
  · rfl
theorem okX5_fail {F : Nat → Int32} {x : Int32} (hX : okX5 F) : okX5 (fF_X5_fail F x) := okX5_c (fail5 (by decide)) (fail5 (by decide)) hX
theorem exp5 {Y F : Nat → Int32} {cc : Int32} (hX : okX5 F) (hc : ¬ cc = -1) : okX5 (fF_X5_expect Y F cc) ∧ ∀ j, j ≠ 6 → j ≠ 7 → fF_X5_expect Y F cc j = F j := by
  unfold fF_X5_expect
  (try dsimp only)
  split
  · rename_i h
    exact ⟨okX5_i hX (here_lt5 h hc) rfl, fun j h6 _ => upd_n h6⟩
  · exact ⟨okX5_fail hX, fun j _ h7 => fail5 h7⟩
theorem numL5 {Y : Nat → Int32} {d : Nat} {lo hi : Int32} : ∀ (k fr : Nat) (num : Int32) (j : Nat) (F : Nat → Int32), okX5 F → okX5 (fF_X5_readNumber_L12 Y d lo hi k fr num j F) ∧ ∀ i, i ≠ 6 → i ≠ 7 → fF_X5_readNumber_L12 Y d lo hi k fr num j F i = F i
  | 0, fr, num, j, F, hX => by
    rw [fF_X5_readNumber_L12]
    (try dsimp only)
    repeat' split
    all_goals first | exact ⟨okX5_fail hX, fun i _ h7 => fail5 h7⟩ | exact ⟨hX, fun i _ _ => rfl⟩
  | k + 1, fr, num, j, F, hX => by
    rw [fF_X5_readNumber_L12]
    (try dsimp only)
    by_cases h : fR_X5_isDigitHere Y F = 0
    · rw [if_pos h]
      repeat' split
      all_goals first | exact ⟨okX5_fail hX, fun i _ h7 => fail5 h7⟩ | exact ⟨hX, fun i _ _ => rfl⟩
    · rw [if_neg h]
      obtain ⟨a, b⟩ := numL5 (Y := Y) (d := d) (lo := lo) (hi := hi) k fr (10 * num + fR_X5_here Y F - 48) (j + 1) _ (okX5_i hX (digit_lt5 h) rfl)
      exact ⟨a, fun i h6 h7 => (b i h6 h7).trans (upd_n h6)⟩
theorem num5 {Y F : Nat → Int32} {d : Nat} {lo hi : Int32} (hX : okX5 F) : okX5 (fF_X5_readNumber Y F d lo hi) ∧ ∀ i, i ≠ 6 → i ≠ 7 → fF_X5_readNumber Y F d lo hi i = F i := numL5 _ _ _ _ _ hX
