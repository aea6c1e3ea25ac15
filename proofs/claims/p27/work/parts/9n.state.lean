/-! The class's world, said by pages that agree with it: P now, Q saved, n of them; the text is empty. -/
def ans (e : Nat) (v : Int32) : Int32 := if e = 0 then v else if e = 1 then -90100 else if e = 2 then -90200 else -90300
theorem ans_0 {v : Int32} : ans 0 v = v := rfl
theorem ans_1 {v : Int32} : ans 1 v = -90100 := rfl
theorem ans_2 {v : Int32} : ans 2 v = -90200 := rfl
theorem ans_3 {v : Int32} : ans 3 v = -90300 := rfl
def Sd (C : Nat → Int32) (G : Nat → Nat → Int32) (n : Nat) (P : Nat → Int32) (Q : Nat → Nat → Int32) : Prop := Cg C P ∧ n ≤ 4 ∧ ∀ i, i < n → Cg (G i) (Q i)
def St (D : va_G) (r : Nat) (P : Nat → Int32) (Q : Nat → Nat → Int32) (n : Nat) (H : Heap) : Prop := ∃ (C J : Nat → Int32) (G : Nat → Nat → Int32) (Y X U Z F : Nat → Int32), Sn D r C J G n Y X U Z F H ∧ Sd C G n P Q ∧ F 1 = 0
theorem St.kept {D : va_G} {r : Nat} {P : Nat → Int32} {Q : Nat → Nat → Int32} {n : Nat} {H H1 : Heap} (h : St D r P Q n H) (hq : ∀ q, q < H.size → H1[q]? = H[q]?) : St D r P Q n H1 := by
  obtain ⟨C, J, G, Y, X, U, Z, F, h1, h2⟩ := h
  exact ⟨C, J, G, Y, X, U, Z, F, h1.kept (fun q hq1 => hq q (h1.lt hq1)), h2⟩
theorem St.lt {D : va_G} {r : Nat} {P : Nat → Int32} {Q : Nat → Nat → Int32} {n : Nat} {H : Heap} (h : St D r P Q n H) : r + 206 ≤ H.size := by
  obtain ⟨C, J, G, Y, X, U, Z, F, h1, h2⟩ := h
  have := h1.lt (q := r + 205) ⟨by omega, by omega⟩
  omega
theorem okT5_0 {F : Nat → Int32} (h : F 1 = 0) : okT5 F := by
  have h0 : tl5 F = 0 := by unfold tl5; rw [h]; rfl
  exact ⟨by rw [h0, h]; rfl, by omega⟩
theorem Sd.wf {C P : Nat → Int32} {G Q : Nat → Nat → Int32} {n : Nat} (h : Sd C G n P Q) : WF C := h.1.good.1.1
theorem Sd.oG {C P : Nat → Int32} {G Q : Nat → Nat → Int32} {n : Nat} (h : Sd C G n P Q) : ∀ i, i < n → okN (G i) := fun i hi => (h.2.2 i hi).okN
