/-- the text's length, and where reading stands, as numbers -/
def tl (F : Nat → Int32) : Nat := (F 5).toNatClampNeg
def ta (F : Nat → Int32) : Nat := (F 7).toNatClampNeg
def okT (F : Nat → Int32) : Prop := F 5 = nI (tl F) ∧ tl F ≤ 150
def okX (F : Nat → Int32) : Prop := okT F ∧ F 7 = nI (ta F) ∧ ta F ≤ tl F
theorem tl_c {F F' : Nat → Int32} (h : F' 5 = F 5) : tl F' = tl F := by unfold tl; rw [h]
theorem ta_c {F F' : Nat → Int32} (h : F' 7 = F 7) : ta F' = ta F := by unfold ta; rw [h]
theorem okT_c {F F' : Nat → Int32} (h : F' 5 = F 5) (hT : okT F) : okT F' := by unfold okT; rw [tl_c h, h]; exact hT
theorem okX_c {F F' : Nat → Int32} (h5 : F' 5 = F 5) (h7 : F' 7 = F 7) (hX : okX F) : okX F' := ⟨okT_c h5 hX.1, by rw [ta_c h7, h7]; exact hX.2.1, by rw [ta_c h7, tl_c h5]; exact hX.2.2⟩
theorem okX_u {F : Nat → Int32} {k : Nat} {x : Int32} (hk : 5 ≠ k ∧ 7 ≠ k) (hX : okX F) : okX (upd F k x) := okX_c (upd_n hk.1) (upd_n hk.2) hX
theorem okX_7 {F : Nat → Int32} {n : Nat} (hX : okT F) (hn : n ≤ tl F) : okX (upd F 7 (nI n)) := by
  have h5 : upd F 7 (nI n) 5 = F 5 := upd_n (by decide)
  have h1 := hX.2
  have e : ta (upd F 7 (nI n)) = n := by unfold ta; rw [upd_s]; exact nI_clamp (by omega)
  exact ⟨okT_c h5 hX, by rw [e, upd_s], by rw [e, tl_c h5]; exact hn⟩
theorem ta_7 {F : Nat → Int32} {n : Nat} (hn : n < 2 ^ 31) : ta (upd F 7 (nI n)) = n := by unfold ta; rw [upd_s]; exact nI_clamp hn
