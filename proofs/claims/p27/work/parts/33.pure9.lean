theorem k150 {F : Nat → Int32} (hX : okX F) : tl F - ta F ≤ 150 := by
  have := hX.1.2
  omega
theorem item_1 {T F : Nat → Int32} (hX : okX F) (h : ¬ fR_X7_readItem T F = 0) : fR_X7_readItem T F = 1 := by
  rcases (item_K (T := T) hX).1.2.2.2.2 with h1 | h1
  · exact absurd h1 h
  · exact h1
theorem item_k {T F : Nat → Int32} {k : Nat} (hX : okX F) (h : ¬ fR_X7_readItem T F = 0) (hk : tl F - ta F ≤ k + 1) : tl (fF_X7_readItem T F) - ta (fF_X7_readItem T F) ≤ k := by
  obtain ⟨⟨a1, a2, a3, a4, a5⟩, a6⟩ := item_K (T := T) hX
  have := (a6 (item_1 hX h)).1
  omega
theorem item_h {T F : Nat → Int32} (hX : okX F) (h : ¬ fR_X7_readItem T F = 0) : fF_X7_readItem T F 11 = nI (fF_X7_readItem T F 11).toNatClampNeg ∧ (fF_X7_readItem T F 11).toNatClampNeg ≤ 99 := by
  obtain ⟨-, a6⟩ := item_K (T := T) hX
  exact in_nat (n := 99) (by decide) rfl (by decide) (a6 (item_1 hX h)).2.2.2
