/-! The hours of the text: class against reference. -/
theorem runL_F {T : Nat → Int32} : ∀ (k : Nat) (acc : Int32) (P V M : Nat → Int32), okX M → ∀ j, j ≠ 7 → j ≠ 8 → j ≠ 9 → j ≠ 10 → j ≠ 11 → fF_X7_runText_L75 T k acc P V M j = M j
  | 0, acc, P, V, M, _, j, _, _, _, _, _ => by rw [fF_X7_runText_L75]
  | k + 1, acc, P, V, M, hX, j, h7, h8, h9, h10, h11 => by
    obtain ⟨a1, a2, a3, a4, a5⟩ := (item_K (T := T) hX).1
    rw [fF_X7_runText_L75]
    (try dsimp only)
    split
    · rfl
    split
    · exact a4 j h7 h8 h9 h10 h11
    · rw [runL_F k _ _ _ _ a1 j h7 h8 h9 h10 h11]
      exact a4 j h7 h8 h9 h10 h11
theorem runL_V {T : Nat → Int32} : ∀ (k : Nat) (acc : Int32) (P V M : Nat → Int32), fV_X7_runText_L75 T k acc P V M = V
  | 0, acc, P, V, M => by rw [fV_X7_runText_L75]
  | k + 1, acc, P, V, M => by
    rw [fV_X7_runText_L75]
    (try dsimp only)
    rw [runL_V k, ite_self, ite_self]
theorem rtG {Y : Nat → Int32} : ∀ (k : Nat) (acc : Int32) (j : Nat) (C : Nat → Int32) (G : Nat → Nat → Int32) (nl : Nat) (X U Z F : Nat → Int32), fG_X6_runText_L44 Y k acc j C G nl X U Z F = G ∧ fn_X6_runText_L44 Y k acc j C G nl X U Z F = nl ∧ fF_X6_runText_L44 Y k acc j C G nl X U Z F = F ∧ fE_X6_runText_L44 Y k acc j C G nl X U Z F = 0
  | 0, acc, j, C, G, nl, X, U, Z, F => by
    rw [fG_X6_runText_L44, fn_X6_runText_L44, fF_X6_runText_L44, fE_X6_runText_L44]
    exact ⟨rfl, rfl, rfl, rfl⟩
  | k + 1, acc, j, C, G, nl, X, U, Z, F => by
    rw [fG_X6_runText_L44, fn_X6_runText_L44, fF_X6_runText_L44, fE_X6_runText_L44]
    (try dsimp only)
    exact rtG k _ _ _ _ _ _ _ _ _
theorem Sy0 {C : Nat → Int32} {G : Nat → Nat → Int32} {n : Nat} {Y F P V T Fm M : Nat → Int32} (h : Rel C G n Y F P V T Fm) (h5 : M 5 = Fm 5) (h7 : M 7 = 0) : Sy Y T (upd (upd (upd F 5 0) 6 0) 7 (-1)) M := by
  obtain ⟨a1, a2, a3, a4, a5, a6, a7, a8⟩ := h
  have e := tl_c h5
  refine ⟨(start5 a5).1, ⟨okT_c h5 a6, ?_, ?_⟩, ?_, ?_, upd_s, fun j hj => a8 j (by omega)⟩
  · have e0 : ta M = 0 := by
      unfold ta
      rw [h7]
      rfl
    rw [e0, h7]
    rfl
  · have e0 : ta M = 0 := by
      unfold ta
      rw [h7]
      rfl
    omega
  · rw [upd_n (by decide), upd_n (by decide), upd_n (by decide), a7, h5]
  · rw [upd_n (by decide), upd_s, h7]
theorem M_runText {C X U Z : Nat → Int32} {G : Nat → Nat → Int32} {n : Nat} {Y F P V T Fm : Nat → Int32} (h : Rel C G n Y F P V T Fm) : Out 2 (fE_X6_runText C G n Y X U Z F) (fR_X6_runText C G n Y X U Z F) (fR_X7_runText P V T Fm) (fF_X7_runText P V T Fm) (Rel (fC_X6_runText C G n Y X U Z F) (fG_X6_runText C G n Y X U Z F) (fn_X6_runText C G n Y X U Z F) Y (fF_X6_runText C G n Y X U Z F) (fP_X7_runText P V T Fm) (fV_X7_runText P V T Fm) T (fF_X7_runText P V T Fm)) := by
  obtain ⟨a1, a2, a3, a4, a5, a6, a7, a8⟩ := id h
  obtain ⟨r1, r2, r3⟩ := read5 (Y := Y) (X := X) (U := U) (Z := Z) a5
  have hT1 : okT5 (fF_X5_readItems Y X U Z F) := okT5_c r1 a5
  -- what the text's first reading comes to
  have hA : ∀ j, j ≠ 7 → j ≠ 8 → j ≠ 9 → j ≠ 10 → j ≠ 11 → fF_X7_allHours T Fm j = Fm j := fun j h7 h8 h9 h10 h11 => allHours_f a6 h7 h8 h9 h10 h11
  have eR : fR_X5_readItems Y X U Z F = fF_X5_readItems Y X U Z F 7 := R_is7 _ _ _ _ _
  have t0 : ti5 (upd (upd (upd F 5 0) 6 0) 7 (-1)) = 0 := (start5 a5).2.2
  have b1 := both (Y := Y) (T := T) 38 X U Z (upd (upd (upd F 5 0) 6 0) 7 (-1)) (upd Fm 7 0) (Sy0 h (upd_n (by decide)) upd_s) (start5 a5).2.1 (by omega) (by omega)
  have ta0 : ta (upd Fm 7 0) = 0 := by
    unfold ta
    rw [upd_s]
    rfl
  obtain ⟨-, b1⟩ := b1
  unfold fE_X6_runText fR_X6_runText fR_X7_runText fF_X7_runText fC_X6_runText fG_X6_runText fn_X6_runText fF_X6_runText fP_X7_runText fV_X7_runText
  simp only [eR]
  rcases b1 with b1 | b1
  · unfold bothE at b1
    obtain ⟨e, e2, e3, e4⟩ := b1
    obtain ⟨q1, q2⟩ := e4 150 0 (by omega)
    have c1 : fF_X5_readItems Y X U Z F 7 = nI e := e3
    have c2 : fR_X7_allHours T Fm = -1 := q1
    have c3 : fF_X7_allHours T Fm 7 = nI e := q2
    have n1 : ¬ nI e = -1 := fun a => by
      have h2 := nI_pos (n := e) (by omega)
      rw [a] at h2
      exact h2 (by decide)
    simp only [c1, c2, if_neg n1, if_true]
    refine ⟨by rw [upd_s]; rfl, fun _ => by rw [upd_n (by decide), c3], ?_⟩
    have e5 : upd (fF_X7_allHours T Fm) 6 0 5 = Fm 5 := by rw [upd_n (by decide), hA 5 (by decide) (by decide) (by decide) (by decide) (by decide)]
    have e3' : upd (fF_X7_allHours T Fm) 6 0 3 = Fm 3 := by rw [upd_n (by decide), hA 3 (by decide) (by decide) (by decide) (by decide) (by decide)]
    exact Rel_txt (t := tl Fm) h e3' (by rw [r1, a7]; exact a6.1) (by rw [e5]; exact a6.1) a6.2 a8
  · unfold bothO at b1
    rw [t0] at b1
    obtain ⟨c1, m, m1, m2, m3, m4, -⟩ := b1
    have c1' : fF_X5_readItems Y X U Z F 7 = -1 := c1
    have m1' : fF_X5_readItems Y X U Z F 5 = nI (0 + m) := m1
    have em : ti5 (fF_X5_readItems Y X U Z F) = m := by
      unfold ti5
      rw [m1', Nat.zero_add]
      exact nI_t (by omega)
    have hz : ∀ i, 0 ≤ i → i < 0 + m → ∃ z, z ≤ 99 ∧ fZ_X5_readItems Y X U Z F i = nI z := fun i h1 h2 => (m3 i h1 h2).2.2
    have hb := hsum_b m 0 hz
    have c2 : fR_X7_allHours T Fm = nI (hsum (fZ_X5_readItems Y X U Z F) m 0) := by
      have := m4 150 0 (by omega)
      rw [Int32.zero_add] at this
      exact this
    have c4 : fR_X5_hoursOfItems (fZ_X5_readItems Y X U Z F) (fF_X5_readItems Y X U Z F) = nI (hsum (fZ_X5_readItems Y X U Z F) m 0) := by
      unfold fR_X5_hoursOfItems
      rw [em, hoursL m 0 0 hz, Int32.zero_add]
    have n1 : ¬ nI (hsum (fZ_X5_readItems Y X U Z F) m 0) = -1 := fun a => by
      have h2 := nI_pos (n := hsum (fZ_X5_readItems Y X U Z F) m 0) (by omega)
      rw [a] at h2
      exact h2 (by decide)
    have e0 : C 0 = P 0 := ag_c a1.1 (by decide) (by decide)
    simp only [c1', c2, c4, if_neg n1, if_true, em]
    have e5 : ∀ x, upd (fF_X7_allHours T Fm) 6 x 5 = Fm 5 := fun x => by rw [upd_n (by decide), hA 5 (by decide) (by decide) (by decide) (by decide) (by decide)]
    have e3' : ∀ x, upd (fF_X7_allHours T Fm) 6 x 3 = Fm 3 := fun x => by rw [upd_n (by decide), hA 3 (by decide) (by decide) (by decide) (by decide) (by decide)]
    have hR : ∀ x, Rel C G n Y (fF_X5_readItems Y X U Z F) P V T (upd (fF_X7_allHours T Fm) 6 x) := fun x => Rel_txt (t := tl Fm) h (e3' x) (by rw [r1, a7]; exact a6.1) (by rw [e5]; exact a6.1) a6.2 a8
    by_cases h3 : P 0 + nI (hsum (fZ_X5_readItems Y X U Z F) m 0) ≤ 2000
    · simp only [cH_q (show C 0 + nI (hsum (fZ_X5_readItems Y X U Z F) m 0) ≤ 2000 by rw [e0]; exact h3), if_pos h3, if_true]
      obtain ⟨k, k1, k2⟩ := a1.h0
      have h5 : k + hsum (fZ_X5_readItems Y X U Z F) m 0 ≤ 2000 := by
        rw [k2, nI_add] at h3
        exact (nI_leI (b := 2000) (by omega) (by omega)).mp h3
      -- the second reading
      have hc6 : okC (upd (fF_X7_allHours T Fm) 6 0) := (hR 0).2.1
      have hK : ∀ j, j ≠ 3 → j ≠ 7 → upd (fF_X7_keep P V (upd (fF_X7_allHours T Fm) 6 0)) 7 0 j = upd (fF_X7_allHours T Fm) 6 0 j := fun j h3 h7 => by rw [upd_n h7, (keep_F hc6).1 j h3]
      have hS2 : Sy Y T (upd (upd (upd F 5 0) 6 0) 7 (-1)) (upd (fF_X7_keep P V (upd (fF_X7_allHours T Fm) 6 0)) 7 0) := Sy0 h (by rw [hK 5 (by decide) (by decide), e5]) upd_s
      have b2 := both (Y := Y) (T := T) 38 X U Z (upd (upd (upd F 5 0) 6 0) 7 (-1)) (upd (fF_X7_keep P V (upd (fF_X7_allHours T Fm) 6 0)) 7 0) hS2 (start5 a5).2.1 (by omega) (by omega)
      obtain ⟨-, b2⟩ := b2
      have ta1 : ta (upd (fF_X7_keep P V (upd (fF_X7_allHours T Fm) 6 0)) 7 0) = 0 := by
        unfold ta
        rw [upd_s]
        rfl
      rcases b2 with b2 | b2
      · unfold bothE at b2
        obtain ⟨e, e2, e3, -⟩ := b2
        rw [c1] at e3
        exact absurd e3.symm (fun a => by
          have h2 := nI_pos (n := e) (by omega)
          rw [a] at h2
          exact h2 (by decide))
      unfold bothO at b2
      rw [t0] at b2
      obtain ⟨-, m', m1'', m2', -, -, m5⟩ := b2
      have emm : m' = m := by
        rw [m1] at m1''
        have := (nI_eq (by omega) (by omega)).mp m1''
        omega
      rw [emm] at m5
      obtain ⟨f1, f2⟩ := m5 150 0 C P (fV_X7_keep P V (upd (fF_X7_allHours T Fm) 6 0)) k (fG_X2_save C G n) (fn_X2_save C G n) (fF_X5_readItems Y X U Z F) (by omega) a1 k2 h5
      obtain ⟨g1, g2, g3, g4⟩ := rtG (Y := Y) m 0 0 C (fG_X2_save C G n) (fn_X2_save C G n) (fX_X5_readItems Y X U Z F) (fU_X5_readItems Y X U Z F) (fZ_X5_readItems Y X U Z F) (fF_X5_readItems Y X U Z F)
      have hF := runL_F (T := T) 150 0 P (fV_X7_keep P V (upd (fF_X7_allHours T Fm) 6 0)) _ hS2.2.1
      obtain ⟨s1, s2⟩ := Rel_save (V := V) (Fm := upd (fF_X7_allHours T Fm) 6 0) a1 hc6 (hR 0).2.2.1 a4
      have w3 : fF_X7_runText_L75 T 150 0 P (fV_X7_keep P V (upd (fF_X7_allHours T Fm) 6 0)) (upd (fF_X7_keep P V (upd (fF_X7_allHours T Fm) 6 0)) 7 0) 3 = fF_X7_keep P V (upd (fF_X7_allHours T Fm) 6 0) 3 := by rw [hF 3 (by decide) (by decide) (by decide) (by decide) (by decide), upd_n (by decide)]
      have w5 : fF_X7_runText_L75 T 150 0 P (fV_X7_keep P V (upd (fF_X7_allHours T Fm) 6 0)) (upd (fF_X7_keep P V (upd (fF_X7_allHours T Fm) 6 0)) 7 0) 5 = Fm 5 := by rw [hF 5 (by decide) (by decide) (by decide) (by decide) (by decide), hK 5 (by decide) (by decide), e5]
      have w6 : fF_X7_runText_L75 T 150 0 P (fV_X7_keep P V (upd (fF_X7_allHours T Fm) 6 0)) (upd (fF_X7_keep P V (upd (fF_X7_allHours T Fm) 6 0)) 7 0) 6 = 0 := by rw [hF 6 (by decide) (by decide) (by decide) (by decide) (by decide), hK 6 (by decide) (by decide), upd_s]
      rw [g1, g2, g3, g4, runL_V]
      exact ⟨by rw [w6]; rfl, fun _ => f2, f1, okC_c w3 (keep_C hc6).1, by rw [sc_c w3]; exact s1, s2, hT1, okT_c w5 a6, by rw [w5, r1]; exact a7, fun j hj => a8 j (by rw [tl_c w5] at hj; exact hj)⟩
    · simp only [cH_p (show ¬ C 0 + nI (hsum (fZ_X5_readItems Y X U Z F) m 0) ≤ 2000 by rw [e0]; exact h3), if_neg h3, if_neg two0]
      exact ⟨by rw [upd_s]; rfl, fun e => absurd e (by decide), hR 1⟩
