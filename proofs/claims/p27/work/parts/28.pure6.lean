theorem here_lt {T F : Nat → Int32} (h : ¬ fR_X7_here T F = -1) : ta F < tl F := by
  unfold fR_X7_here at h
  by_cases h1 : tl F ≤ ta F
  · rw [if_pos h1] at h; exact absurd rfl h
  · omega
theorem digit_lt {T F : Nat → Int32} (h : ¬ fR_X7_isDigit T F = 0) : ta F < tl F := by
  refine here_lt (T := T) (fun h1 => h ?_)
  unfold fR_X7_isDigit
  rw [h1]
  decide
theorem takes_v {T F : Nat → Int32} {x : Int32} (hx : ¬ x = -1) : (fR_X7_takes T F x = 1 ∧ ta F < tl F ∧ fF_X7_takes T F x = upd F 7 (nI (ta F + 1))) ∨ (fR_X7_takes T F x = 0 ∧ fF_X7_takes T F x = upd F 7 (nI (ta F + 0))) := by
  unfold fR_X7_takes fF_X7_takes
  (try dsimp only)
  by_cases h1 : fR_X7_here T F = x
  · rw [if_pos h1, if_pos h1]
    exact Or.inl ⟨rfl, here_lt (by rw [h1]; exact hx), rfl⟩
  · rw [if_neg h1, if_neg h1]
    exact Or.inr ⟨rfl, rfl⟩
theorem takes_X {T F : Nat → Int32} {x : Int32} (hx : ¬ x = -1) (hX : okX F) : okX (fF_X7_takes T F x) ∧ tl (fF_X7_takes T F x) = tl F ∧ (ta (fF_X7_takes T F x) = ta F ∨ ta (fF_X7_takes T F x) = ta F + 1) := by
  have h2 := hX.1.2
  have h3 := hX.2.2
  rcases takes_v (T := T) (F := F) hx with ⟨-, h, e⟩ | ⟨-, e⟩
  · rw [e]
    exact ⟨okX_7 hX.1 (by omega), tl_c (upd_n (by decide)), Or.inr (ta_7 (by omega))⟩
  · rw [e]
    exact ⟨okX_7 hX.1 (by omega), tl_c (upd_n (by decide)), Or.inl (ta_7 (by omega))⟩
theorem okX_takes {T F : Nat → Int32} {x : Int32} (hx : ¬ x = -1) (hX : okX F) : okX (fF_X7_takes T F x) := (takes_X hx hX).1
/-- a digit read -/
theorem okX_d {F : Nat → Int32} {x : Int32} (h : ta F < tl F) (hX : okX F) : okX (upd (upd F 8 x) 7 (nI (ta F + 1))) ∧ ta (upd (upd F 8 x) 7 (nI (ta F + 1))) = ta F + 1 ∧ tl (upd (upd F 8 x) 7 (nI (ta F + 1))) = tl F := by
  have h2 := hX.1.2
  have e : tl (upd F 8 x) = tl F := tl_c (upd_n (by decide))
  exact ⟨okX_7 (okT_c (upd_n (by decide)) hX.1) (by rw [e]; omega), ta_7 (by omega), by rw [tl_c (upd_n (by decide)), e]⟩
