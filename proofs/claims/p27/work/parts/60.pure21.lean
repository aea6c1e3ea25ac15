/-! Two pages that agree where a contract lives (n streets, m plows, c q places of plow q): the reference's steps keep it so. -/
def lv (n m : Nat) (c : Nat → Nat) (j : Nat) : Prop := (j < 9 ∧ j ≠ 5) ∨ (∃ i k, i < n ∧ k < 8 ∧ j = 9 + 8 * i + k) ∨ (∃ q k, q < m ∧ k < 8 + c q ∧ j = 169 + 20 * q + k) ∨ ∃ k, k < 12 ∧ j = 229 + k
def Ag (n m : Nat) (c : Nat → Nat) (P P' : Nat → Int32) : Prop := ∀ j, lv n m c j → P j = P' j
section AG
variable {n m : Nat} {c : Nat → Nat} {P P' : Nat → Int32}
theorem ag_u {k : Nat} {x y : Int32} (h : Ag n m c P P') (e : x = y) : Ag n m c (upd P k x) (upd P' k y) := fun j hj => by
  unfold upd
  split
  · exact e
  · exact h j hj
theorem ag_c (h : Ag n m c P P') {k : Nat} (hk : k < 9) (h5 : k ≠ 5) : P k = P' k := h k (Or.inl ⟨hk, h5⟩)
theorem ag_s (h : Ag n m c P P') {i : Nat} (hi : i < n) (k : Nat) (hk : k < 8) : P (9 + 8 * i + k) = P' (9 + 8 * i + k) := h _ (Or.inr (Or.inl ⟨i, k, hi, hk, rfl⟩))
theorem ag_p (h : Ag n m c P P') {q : Nat} (hq : q < m) (k : Nat) (hk : k < 8 + c q) : P (169 + 20 * q + k) = P' (169 + 20 * q + k) := h _ (Or.inr (Or.inr (Or.inl ⟨q, k, hq, hk, rfl⟩)))
theorem ag_t (h : Ag n m c P P') {r : Nat} (hr : r < 3) (k : Nat) (hk : k < 4) : P (229 + 4 * r + k) = P' (229 + 4 * r + k) := h _ (Or.inr (Or.inr (Or.inr ⟨4 * r + k, by omega, by omega⟩)))
theorem ag_pr (h : Ag n m c P P') {i : Nat} (hi : i < n) : pr P i = pr P' i := by unfold pr; rw [ag_s h hi 1 (by decide)]
theorem ag_isDue (h : Ag n m c P P') {i : Nat} (hi : i < n) (hr : okR P' i) : fR_X7_isDue P i = fR_X7_isDue P' i := by
  unfold fR_X7_isDue fR_X7_of fR_X7_term
  rw [ag_pr h hi, ag_s h hi 2 (by decide), ag_t h hr.2 0 (by decide)]
theorem ag_weather (h : Ag n m c P P') {i : Nat} (hi : i < n) {tmp sn : Int32} : Ag n m c (fP_X7_weather P i tmp sn) (fP_X7_weather P' i tmp sn) := by
  have r2 := ag_s h hi 2 (by decide)
  have r3 := ag_s h hi 3 (by decide)
  have r4 := ag_s h hi 4 (by decide)
  unfold fP_X7_weather
  simp only [upd, r2, r3, r4]
  repeat' (first | rfl | exact h | apply ag_u | split)
theorem ag_goesOn (h : Ag n m c P P') {q : Nat} (hq : q < m) : fR_X7_goesOn P q = fR_X7_goesOn P' q ∧ Ag n m c (fP_X7_goesOn P q) (fP_X7_goesOn P' q) := by
  have r3 := ag_p h hq 3 (by omega)
  have r4 := ag_p h hq 4 (by omega)
  have r5 := ag_p h hq 5 (by omega)
  have r6 := ag_p h hq 6 (by omega)
  refine ⟨?_, ?_⟩
  · unfold fR_X7_goesOn
    simp only [upd, r3, r4, r5, r6]
  · unfold fP_X7_goesOn
    simp only [upd, r3, r4, r5, r6]
    repeat' (first | rfl | exact h | apply ag_u | split)
theorem ag_clears (h : Ag n m c P P') {q i : Nat} (hq : q < m) (hi : i < n) : Ag n m c (fP_X7_clears P q i) (fP_X7_clears P' q i) := by
  have s0 := ag_s h hi 0 (by decide)
  have s2 := ag_s h hi 2 (by decide)
  have s4 := ag_s h hi 4 (by decide)
  have s6 := ag_s h hi 6 (by decide)
  have s7 := ag_s h hi 7 (by decide)
  have q2 := ag_p h hq 2 (by omega)
  have c4 := ag_c h (k := 4) (by decide) (by decide)
  have c0 := ag_c h (k := 0) (by decide) (by decide)
  have c8 := ag_c h (k := 8) (by decide) (by decide)
  unfold fP_X7_clears fR_X7_ofPlow
  simp only [upd, s0, s2, s4, s6, s7, q2, c4, c0, c8]
  repeat' (first | rfl | exact h | apply ag_u | split)
end AG
