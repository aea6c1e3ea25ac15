/-! A byte that is read is one. -/
theorem here_lt5 {Y F : Nat → Int32} {cc : Int32} (h : fR_X5_here Y F = cc) (hc : ¬ cc = -1) : ta5 F < tl5 F := by
  by_cases hle : tl5 F ≤ ta5 F
  · exfalso
    apply hc
    rw [← h]
    unfold fR_X5_here
    rw [if_pos hle]
  · omega
theorem digit_lt5 {Y F : Nat → Int32} (h : ¬ fR_X5_isDigitHere Y F = 0) : ta5 F < tl5 F := by
  by_cases hle : tl5 F ≤ ta5 F
  · exfalso
    apply h
    unfold fR_X5_isDigitHere fR_X5_here
    rw [if_pos hle, if_pos (by decide)]
  · omega
