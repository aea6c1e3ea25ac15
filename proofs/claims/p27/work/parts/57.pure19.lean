/-! What reading an item leaves; the text before the first. -/
theorem item5 {Y X U Z F : Nat → Int32} (hX : okX5 F) : okX5 (fF_X5_readItem Y X U Z F) ∧ ∀ i, i ≠ 6 → i ≠ 7 → fF_X5_readItem Y X U Z F i = F i := by
  have a1 := temp5 (Y := Y) hX
  have a2 := exp5 (Y := Y) (cc := 44) a1.1 (by decide)
  have a3 := num5 (Y := Y) (d := 3) (lo := 0) (hi := 100) a2.1
  unfold fF_X5_readItem
  (try dsimp only)
  split
  · rename_i h
    have a5 := num5 (Y := Y) (d := 2) (lo := 1) (hi := 99) (okX5_i a3.1 (here_lt5 h (by decide)) rfl)
    have a6 := exp5 (Y := Y) (cc := 59) a5.1 (by decide)
    exact ⟨a6.1, fun i h6 h7 => by rw [a6.2 i h6 h7, a5.2 i h6 h7, upd_n h6, a3.2 i h6 h7, a2.2 i h6 h7, a1.2 i h6 h7]⟩
  · have a6 := exp5 (Y := Y) (cc := 59) a3.1 (by decide)
    exact ⟨a6.1, fun i h6 h7 => by rw [a6.2 i h6 h7, a3.2 i h6 h7, a2.2 i h6 h7, a1.2 i h6 h7]⟩
theorem ti5_u {F : Nat → Int32} {n : Nat} (h : n < 1000) : ti5 (upd F 5 (nI n)) = n := by
  unfold ti5
  rw [upd_s, nI_clamp (by omega)]
theorem start5 {F : Nat → Int32} (h : okT5 F) : okX5 (upd (upd (upd F 5 0) 6 0) 7 (-1)) ∧ upd (upd (upd F 5 0) 6 0) 7 (-1) 5 = nI (ti5 (upd (upd (upd F 5 0) 6 0) 7 (-1))) ∧ ti5 (upd (upd (upd F 5 0) 6 0) 7 (-1)) = 0 := by
  have e5 : upd (upd (upd F 5 0) 6 0) 7 (-1) 5 = 0 := by rw [upd_n (by decide), upd_n (by decide), upd_s]
  have e6 : upd (upd (upd F 5 0) 6 0) 7 (-1) 6 = 0 := by rw [upd_n (by decide), upd_s]
  have e1 : upd (upd (upd F 5 0) 6 0) 7 (-1) 1 = F 1 := by rw [upd_n (by decide), upd_n (by decide), upd_n (by decide)]
  have z5 : ti5 (upd (upd (upd F 5 0) 6 0) 7 (-1)) = 0 := by unfold ti5; rw [e5]; rfl
  have z6 : ta5 (upd (upd (upd F 5 0) 6 0) 7 (-1)) = 0 := by unfold ta5; rw [e6]; rfl
  exact ⟨⟨okT5_c e1 h, by rw [z6, e6]; rfl, by rw [z6]; exact Nat.zero_le _⟩, by rw [z5, e5]; rfl, z5⟩
