/-! What reading a temperature leaves. -/
theorem temp5 {Y F : Nat → Int32} (hX : okX5 F) : okX5 (fF_X5_readTemperature Y F) ∧ ∀ i, i ≠ 6 → i ≠ 7 → fF_X5_readTemperature Y F i = F i := by
  unfold fF_X5_readTemperature
  (try dsimp only)
  split
  · rename_i h
    obtain ⟨a, b⟩ := num5 (Y := Y) (d := 3) (lo := 0) (hi := 300) (okX5_i hX (here_lt5 h (by decide)) rfl)
    exact ⟨a, fun i h6 h7 => (b i h6 h7).trans (upd_n h6)⟩
  · exact num5 hX
