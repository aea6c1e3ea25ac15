/-! plain facts of the reference's leaves -/
theorem fr_goesOn {P : Nat → Int32} {q j : Nat} (h4 : j ≠ 169 + 20 * q + 4) (h5 : j ≠ 169 + 20 * q + 5) (h6 : j ≠ 169 + 20 * q + 6) : fP_X7_goesOn P q j = P j := by
  unfold fP_X7_goesOn
  dsimp only
  split <;> simp [upd, h4, h5, h6]
theorem fr_clears {P : Nat → Int32} {q i j : Nat} (h2 : j ≠ 9 + 8 * i + 2) (h4 : j ≠ 9 + 8 * i + 4) (h6 : j ≠ 9 + 8 * i + 6) (h7 : j ≠ 9 + 8 * i + 7) (h8 : j ≠ 169 + 20 * q + 2) (h9 : j ≠ 8) : fP_X7_clears P q i j = P j := by
  unfold fP_X7_clears
  dsimp only
  split <;> simp [upd, h2, h4, h6, h7, h8, h9]
theorem left0 {x mt len : Int32} (h : ¬ x + fR_X7_lesser mt (len - x) = len) : mt - fR_X7_lesser mt (len - x) ≤ 0 := by
  unfold fR_X7_lesser at h ⊢
  by_cases hc : len - x ≤ mt
  · rw [if_pos hc] at h
    exact absurd (by rw [Int32.add_comm, Int32.sub_add_cancel]) h
  · rw [if_neg hc, Int32.sub_self]
    exact Int32.le_refl 0
theorem fR_of_eq {P : Nat → Int32} {i k : Nat} : fR_X7_of P i k = P (9 + 8 * i + k) := rfl
theorem left1 {P : Nat → Int32} {q i : Nat} {mt u w : Int32} (hc : ¬ upd (upd P (169 + 20 * q + 5) (P (169 + 20 * q + 5) + u)) (169 + 20 * q + 7) w (169 + 20 * q + 5) = fR_X7_of (upd (upd P (169 + 20 * q + 5) (P (169 + 20 * q + 5) + u)) (169 + 20 * q + 7) w) i 0) (hi : i < 20) (hu : u = fR_X7_lesser mt (fR_X7_of P i 0 - P (169 + 20 * q + 5))) : mt - u ≤ 0 := by
  rw [fR_of_eq, upd_n (by omega), upd_s, upd_n (by omega), upd_n (by omega)] at hc
  rw [fR_of_eq] at hu
  subst hu
  exact left0 hc
theorem plows_w {P : Nat → Int32} {q k : Nat} {mo mt : Int32} (hI : mo = 0 ∨ mt ≤ 0 ∨ (okW P q ∧ nc P q - pa P q ≤ k)) (h1 : ¬ mo = 0) (h2 : ¬ mt ≤ 0) : okW P q ∧ nc P q - pa P q ≤ k := by
  rcases hI with h | h | h
  · exact absurd h h1
  · exact absurd h h2
  · exact h
theorem plows_z {P : Nat → Int32} {q : Nat} {mo mt : Int32} {A : Prop} (hI : mo = 0 ∨ mt ≤ 0 ∨ (okW P q ∧ nc P q - pa P q ≤ 0)) (h1 : ¬ mo = 0) (h2 : ¬ mt ≤ 0) : A := by
  have h := plows_w hI h1 h2
  have h3 := h.1.2.2.2.1
  exact absurd h.2 (by omega)
theorem plows_i {P : Nat → Int32} {q : Nat} (h : okW P q) : okW P q ∧ nc P q - pa P q ≤ 12 := ⟨h, by have := h.2.1; omega⟩
theorem okW_u {P : Nat → Int32} {q a : Nat} {x : Int32} (h3 : a ≠ 169 + 20 * q + 3) (h4 : a ≠ 169 + 20 * q + 4) (hr : ∀ j, j < 12 → a ≠ 169 + 20 * q + 8 + j) (hs : ∀ i, i < 20 → a ≠ 9 + 8 * i + 1) (h : okW P q) : okW (upd P a x) q := okW_k (upd_n (Ne.symm h3)) (upd_n (Ne.symm h4)) (fun j hj => upd_n (Ne.symm (hr j hj))) (fun i hi => upd_n (Ne.symm (hs i hi))) h
theorem plows_j {P : Nat → Int32} {q : Nat} {x y : Int32} (h : okW P q) : okW (upd (upd P (169 + 20 * q + 2) x) 3 y) q ∧ nc (upd (upd P (169 + 20 * q + 2) x) 3 y) q - pa (upd (upd P (169 + 20 * q + 2) x) 3 y) q ≤ 12 :=
  plows_i (okW_u (by omega) (by omega) (by intros; omega) (by intros; omega) (okW_u (by omega) (by omega) (by intros; omega) (by intros; omega) h))
theorem go_v {P : Nat → Int32} {q : Nat} (h : okW P q) : (fR_X7_goesOn P q = 1 ∧ pa P q + 1 < nc P q ∧ fP_X7_goesOn P q (169 + 20 * q + 4) = nI (pa P q + 1)) ∨ (fR_X7_goesOn P q = 0 ∧ pa P q + 1 = nc P q ∧ fP_X7_goesOn P q (169 + 20 * q + 4) = nI 0) := by
  obtain ⟨a1, a2, a3, a4, -⟩ := h
  have e3 : upd (upd P (169 + 20 * q + 5) 0) (169 + 20 * q + 4) (upd P (169 + 20 * q + 5) 0 (169 + 20 * q + 4) + 1) (169 + 20 * q + 3) = nI (nc P q) := by
    rw [upd_n (by omega), upd_n (by omega)]; exact a1
  have e4 : upd (upd P (169 + 20 * q + 5) 0) (169 + 20 * q + 4) (upd P (169 + 20 * q + 5) 0 (169 + 20 * q + 4) + 1) (169 + 20 * q + 4) = nI (pa P q + 1) := by
    rw [upd_s, upd_n (by omega), a3]; exact nI_1 _
  unfold fR_X7_goesOn fP_X7_goesOn
  dsimp only
  rw [e3, e4]
  by_cases hc : nc P q ≤ pa P q + 1
  · refine Or.inr ⟨?_, by omega, ?_⟩
    · rw [if_pos (nI_le hc (by omega))]
    · rw [if_pos (nI_le hc (by omega)), upd_n (by omega), upd_s]; rfl
  · have hn : ¬ nI (nc P q) ≤ nI (pa P q + 1) := nI_ge (by omega) (by omega)
    refine Or.inl ⟨?_, by omega, ?_⟩
    · rw [if_neg hn]
    · rw [if_neg hn, upd_n (by omega), upd_s]
theorem go_W {P : Nat → Int32} {q : Nat} (h : okW P q) : okW (fP_X7_goesOn P q) q := by
  have h3 : fP_X7_goesOn P q (169 + 20 * q + 3) = P (169 + 20 * q + 3) := fr_goesOn (by omega) (by omega) (by omega)
  have hr : ∀ j, j < 12 → fP_X7_goesOn P q (169 + 20 * q + 8 + j) = P (169 + 20 * q + 8 + j) := fun j _ => fr_goesOn (by omega) (by omega) (by omega)
  have hs : ∀ i, i < 20 → fP_X7_goesOn P q (9 + 8 * i + 1) = P (9 + 8 * i + 1) := fun i _ => fr_goesOn (by omega) (by omega) (by omega)
  have h2 := h.2.1
  rcases go_v h with ⟨-, b1, b2⟩ | ⟨-, b1, b2⟩
  · have hp : pa (fP_X7_goesOn P q) q = pa P q + 1 := by unfold pa; rw [b2]; exact nI_clamp (by omega)
    exact okW_c h3 hr hs (by rw [hp]; exact b2) (by rw [hp]; exact b1) h
  · have hp : pa (fP_X7_goesOn P q) q = 0 := by unfold pa; rw [b2]; exact nI_clamp (by decide)
    exact okW_c h3 hr hs (by rw [hp]; exact b2) (by rw [hp]; omega) h
theorem go_inv {P : Nat → Int32} {q k : Nat} {mt : Int32} (hW : okW P q ∧ nc P q - pa P q ≤ k + 1) : fR_X7_goesOn P q = 0 ∨ mt ≤ 0 ∨ (okW (fP_X7_goesOn P q) q ∧ nc (fP_X7_goesOn P q) q - pa (fP_X7_goesOn P q) q ≤ k) := by
  obtain ⟨h, hk⟩ := hW
  have h2 := h.2.1
  rcases go_v h with ⟨-, b1, b2⟩ | ⟨b0, -, -⟩
  · have hp : pa (fP_X7_goesOn P q) q = pa P q + 1 := by unfold pa; rw [b2]; exact nI_clamp (by omega)
    have hn : nc (fP_X7_goesOn P q) q = nc P q := nc_c (fr_goesOn (by omega) (by omega) (by omega))
    exact Or.inr (Or.inr ⟨go_W h, by rw [hp, hn]; omega⟩)
  · exact Or.inl b0
theorem okW_clears {P : Nat → Int32} {q i : Nat} (hi : i < 20) (h : okW P q) : okW (fP_X7_clears P q i) q := okW_k (fr_clears (by omega) (by omega) (by omega) (by omega) (by omega) (by omega)) (fr_clears (by omega) (by omega) (by omega) (by omega) (by omega) (by omega)) (fun j hj => fr_clears (by omega) (by omega) (by omega) (by omega) (by omega) (by omega)) (fun j hj => fr_clears (by omega) (by omega) (by omega) (by omega) (by omega) (by omega)) h
theorem go_inv2 {P : Nat → Int32} {q i k : Nat} {mt x y : Int32} (hW : okW P q ∧ nc P q - pa P q ≤ k + 1) (hi : i < 20) : fR_X7_goesOn (fP_X7_clears (upd (upd P (169 + 20 * q + 5) x) (169 + 20 * q + 7) y) q i) q = 0 ∨ mt ≤ 0 ∨ (okW (fP_X7_goesOn (fP_X7_clears (upd (upd P (169 + 20 * q + 5) x) (169 + 20 * q + 7) y) q i) q) q ∧ nc (fP_X7_goesOn (fP_X7_clears (upd (upd P (169 + 20 * q + 5) x) (169 + 20 * q + 7) y) q i) q) q - pa (fP_X7_goesOn (fP_X7_clears (upd (upd P (169 + 20 * q + 5) x) (169 + 20 * q + 7) y) q i) q) q ≤ k) := by
  have h1 : okW (upd (upd P (169 + 20 * q + 5) x) (169 + 20 * q + 7) y) q := okW_u (by omega) (by omega) (by intros; omega) (by intros; omega) (okW_u (by omega) (by omega) (by intros; omega) (by intros; omega) hW.1)
  refine go_inv ⟨okW_clears hi h1, ?_⟩
  have e1 : nc (fP_X7_clears (upd (upd P (169 + 20 * q + 5) x) (169 + 20 * q + 7) y) q i) q = nc P q := nc_c (by rw [fr_clears (by omega) (by omega) (by omega) (by omega) (by omega) (by omega), upd_n (by omega), upd_n (by omega)])
  have e2 : pa (fP_X7_clears (upd (upd P (169 + 20 * q + 5) x) (169 + 20 * q + 7) y) q i) q = pa P q := pa_c (by rw [fr_clears (by omega) (by omega) (by omega) (by omega) (by omega) (by omega), upd_n (by omega), upd_n (by omega)])
  rw [e1, e2]
  exact hW.2
