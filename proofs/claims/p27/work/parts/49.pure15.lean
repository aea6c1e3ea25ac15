/-! The class's text: its length and place as numbers. -/
def tl5 (F : Nat → Int32) : Nat := (F 1).toNatClampNeg
def ta5 (F : Nat → Int32) : Nat := (F 6).toNatClampNeg
def ti5 (F : Nat → Int32) : Nat := (F 5).toNatClampNeg
def okT5 (F : Nat → Int32) : Prop := F 1 = nI (tl5 F) ∧ tl5 F ≤ 150
def okX5 (F : Nat → Int32) : Prop := okT5 F ∧ F 6 = nI (ta5 F) ∧ ta5 F ≤ tl5 F
def okI5 (F : Nat → Int32) : Prop := F 5 = nI (ti5 F) ∧ ti5 F ≤ 38
theorem tl5_c {F F' : Nat → Int32} (h : F' 1 = F 1) : tl5 F' = tl5 F := by unfold tl5; rw [h]
theorem ta5_c {F F' : Nat → Int32} (h : F' 6 = F 6) : ta5 F' = ta5 F := by unfold ta5; rw [h]
theorem ti5_c {F F' : Nat → Int32} (h : F' 5 = F 5) : ti5 F' = ti5 F := by unfold ti5; rw [h]
theorem okT5_c {F F' : Nat → Int32} (h : F' 1 = F 1) (hT : okT5 F) : okT5 F' := by unfold okT5; rw [tl5_c h, h]; exact hT
theorem okI5_c {F F' : Nat → Int32} (h : F' 5 = F 5) (hI : okI5 F) : okI5 F' := by unfold okI5; rw [ti5_c h, h]; exact hI
theorem okX5_c {F F' : Nat → Int32} (h : F' 1 = F 1) (h6 : F' 6 = F 6) (hX : okX5 F) : okX5 F' := ⟨okT5_c h hX.1, by rw [ta5_c h6, h6]; exact hX.2.1, by rw [ta5_c h6, tl5_c h]; exact hX.2.2⟩
theorem okX5_i {F : Nat → Int32} {x : Int32} (hX : okX5 F) (h : ta5 F < tl5 F) (e : x = nI (ta5 F + 1)) : okX5 (upd F 6 x) := by
  have h6 : (upd F 6 x) 6 = nI (ta5 F + 1) := by rw [upd_s, e]
  have ha : ta5 (upd F 6 x) = ta5 F + 1 := by
    unfold ta5
    rw [h6, nI_clamp (by have := hX.1.2; omega)]
    rfl
  exact ⟨okT5_c (upd_n (by decide)) hX.1, by rw [ha, h6], by rw [ha, tl5_c (upd_n (by decide))]; omega⟩
