/-! A plow's turn: meters, rounds, progress, salt, streets that are cleared. -/
theorem go_5 {P : Nat → Int32} {q : Nat} : fP_X7_goesOn P q (169 + 20 * q + 5) = 0 := by
  unfold fP_X7_goesOn
  (try dsimp only)
  split
  · rw [upd_n (by omega), upd_n (by omega), upd_n (by omega), upd_s]
  · rw [upd_n (by omega), upd_n (by omega), upd_n (by omega), upd_s]
theorem go_6 {P : Nat → Int32} {q : Nat} : (fR_X7_goesOn P q = 1 ∧ fP_X7_goesOn P q (169 + 20 * q + 6) = P (169 + 20 * q + 6)) ∨ (fR_X7_goesOn P q = 0 ∧ fP_X7_goesOn P q (169 + 20 * q + 6) = P (169 + 20 * q + 6) + 1) := by
  unfold fR_X7_goesOn fP_X7_goesOn
  (try dsimp only)
  split
  · refine Or.inr ⟨rfl, ?_⟩
    rw [upd_s, upd_n (by omega), upd_n (by omega), upd_n (by omega)]
  · refine Or.inl ⟨rfl, ?_⟩
    rw [upd_s, upd_n (by omega), upd_n (by omega), upd_n (by omega), Int32.add_zero]
theorem clr_v {P : Nat → Int32} {q i : Nat} (hi : i < 20) : fP_X7_clears P q i (9 + 8 * i + 6) = P (9 + 8 * i + 6) + 1 ∧ fP_X7_clears P q i (9 + 8 * i + 7) = P 0 ∧ fP_X7_clears P q i 8 + fP_X7_clears P q i (169 + 20 * q + 2) = P 8 + P (169 + 20 * q + 2) := by
  have e1 : 169 + 20 * q + 2 ≠ 8 := by omega
  have e2 : 169 + 20 * q + 2 ≠ 9 + 8 * i + 2 := by omega
  have e3 : 169 + 20 * q + 2 ≠ 9 + 8 * i + 4 := by omega
  have e4 : 169 + 20 * q + 2 ≠ 9 + 8 * i + 6 := by omega
  have e5 : 169 + 20 * q + 2 ≠ 9 + 8 * i + 7 := by omega
  have e6 : 8 ≠ 9 + 8 * i + 2 := by omega
  have e7 : 8 ≠ 9 + 8 * i + 4 := by omega
  have e8 : 8 ≠ 9 + 8 * i + 6 := by omega
  have e9 : 8 ≠ 9 + 8 * i + 7 := by omega
  have f2 : 9 + 8 * i + 6 ≠ 9 + 8 * i + 2 := by omega
  have f4 : 9 + 8 * i + 6 ≠ 9 + 8 * i + 4 := by omega
  have f6 : 9 + 8 * i + 6 ≠ 9 + 8 * i + 7 := by omega
  have z2 : 0 ≠ 9 + 8 * i + 2 := by omega
  have z3 : 0 ≠ 9 + 8 * i + 4 := by omega
  have z4 : 0 ≠ 9 + 8 * i + 6 := by omega
  have s : ∀ a b x : Int32, a + x + (b - x) = a + b := fun a b x => by
    rw [Int32.add_assoc, Int32.add_comm x, Int32.sub_add_cancel]
  unfold fP_X7_clears
  (try dsimp only)
  generalize fR_X7_lesser _ (fR_X7_ofPlow P q 2) = x2
  generalize (P (9 + 8 * i + 0) * P 4 + 999) / 1000 = x1
  split
  · simp only [upd, e1, e2, e3, e4, e5, e6, e7, e8, e9, f2, f4, f6, z2, z3, z4, e1.symm, e4.symm, e5.symm, e8.symm, e9.symm, f6.symm, if_false, if_true]
    exact ⟨trivial, trivial, s _ _ _⟩
  · simp only [upd, e1, e2, e3, e4, e5, e6, e7, e8, e9, f2, f4, f6, z2, z3, z4, e1.symm, e4.symm, e5.symm, e8.symm, e9.symm, f6.symm, if_false, if_true]
    exact ⟨trivial, trivial, s _ _ _⟩
/-- the progress of a plow is below the length of its street -/
def Pg (X : Nat → Int32) (q : Nat) : Prop := ∃ g, g ≤ 2000 ∧ X (169 + 20 * q + 5) = nI g ∧ (0 < g → 0 < nc X q ∧ ∃ L, L ≤ 2000 ∧ X (9 + 8 * rt X q (pa X q) + 0) = nI L ∧ g < L)
theorem Pg_0 {X : Nat → Int32} {q : Nat} (h : X (169 + 20 * q + 5) = 0) : Pg X q := ⟨0, by omega, h, fun h => absurd h (by omega)⟩
/-- what a plow's turn does, from X to R: up to t meters, up to k streets -/
def PT (q t k : Nat) (mo : Int32) (X R : Nat → Int32) : Prop := (∃ a, a ≤ t ∧ R (169 + 20 * q + 7) = X (169 + 20 * q + 7) + nI a) ∧ (∃ b, b ≤ 1 ∧ (mo = 0 → b = 0) ∧ R (169 + 20 * q + 6) = X (169 + 20 * q + 6) + nI b) ∧ Pg R q ∧ R 8 + R 3 + R (169 + 20 * q + 2) = X 8 + X 3 + X (169 + 20 * q + 2) ∧ ∀ i, i < 20 → ∃ a, a ≤ k ∧ R (9 + 8 * i + 6) = X (9 + 8 * i + 6) + nI a ∧ (a = 0 → R (9 + 8 * i + 7) = X (9 + 8 * i + 7)) ∧ (0 < a → R (9 + 8 * i + 7) = X 0)
theorem PT_r {q t k : Nat} {mo : Int32} {X : Nat → Int32} (h : Pg X q) : PT q t k mo X X := ⟨⟨0, by omega, (Int32.add_zero _).symm⟩, ⟨0, by omega, fun _ => rfl, (Int32.add_zero _).symm⟩, h, rfl, fun i _ => ⟨0, by omega, (Int32.add_zero _).symm, fun _ => rfl, fun h => absurd h (by omega)⟩⟩
theorem nI_add3 (x : Int32) (a b : Nat) : x + nI a + nI b = x + nI (a + b) := by rw [Int32.add_assoc, nI_add]
theorem plI {n q : Nat} {c : Nat → Nat} (hn : n ≤ 20) : ∀ (k : Nat) (mo mt : Int32) (X : Nat → Int32) (t : Nat), rtL n c q X → mt = nI t → t ≤ 5000 → (∀ i, i < n → ∃ L, L ≤ 2000 ∧ X (9 + 8 * i + 0) = nI L) → Pg X q → PT q t k mo X (fP_X7_plows_L114 q k mo mt X)
  | 0, mo, mt, X, t, hR, ht, ht5, hL, hg => by
    rw [fP_X7_plows_L114, ite_self]
    exact PT_r hg
  | k + 1, mo, mt, X, t, hR, ht, ht5, hL, hg => by
    have hpa : pa X q < c q := by rw [← hR.2.1]; exact hR.1.2.2.2.1
    have hi := hR.2.2 _ hpa
    have hi20 := (hR.1.2.2.2.2 _ hR.1.2.2.2.1).2.1
    have hnc : 0 < nc X q := by have := hR.1.2.2.2.1; omega
    obtain ⟨g, g1, g2, g3⟩ := hg
    obtain ⟨L, l1, l2⟩ := hL _ hi
    have gL : g ≤ L ∨ g = 0 := by
      by_cases h0 : 0 < g
      · obtain ⟨-, L', b0, b1, b2⟩ := g3 h0
        rw [l2] at b1
        have := (nI_eq (a := L) (b := L') (by omega) (by omega)).mp b1
        omega
      · omega
    have gL : g ≤ L := by omega
    rw [fP_X7_plows_L114]
    (try dsimp only)
    by_cases h1 : mo = 0
    · rw [if_pos h1]; exact PT_r ⟨g, g1, g2, g3⟩
    rw [if_neg h1]
    by_cases h2 : mt ≤ 0
    · rw [if_pos h2]; exact PT_r ⟨g, g1, g2, g3⟩
    rw [if_neg h2]
    have hwork : PT q t (k + 1) mo X (if upd (upd X (169 + 20 * q + 5) (X (169 + 20 * q + 5) + fR_X7_lesser mt (fR_X7_of X (rt X q (pa X q)) 0 - X (169 + 20 * q + 5)))) (169 + 20 * q + 7) (upd X (169 + 20 * q + 5) (X (169 + 20 * q + 5) + fR_X7_lesser mt (fR_X7_of X (rt X q (pa X q)) 0 - X (169 + 20 * q + 5))) (169 + 20 * q + 7) + fR_X7_lesser mt (fR_X7_of X (rt X q (pa X q)) 0 - X (169 + 20 * q + 5))) (169 + 20 * q + 5) = fR_X7_of (upd (upd X (169 + 20 * q + 5) (X (169 + 20 * q + 5) + fR_X7_lesser mt (fR_X7_of X (rt X q (pa X q)) 0 - X (169 + 20 * q + 5)))) (169 + 20 * q + 7) (upd X (169 + 20 * q + 5) (X (169 + 20 * q + 5) + fR_X7_lesser mt (fR_X7_of X (rt X q (pa X q)) 0 - X (169 + 20 * q + 5))) (169 + 20 * q + 7) + fR_X7_lesser mt (fR_X7_of X (rt X q (pa X q)) 0 - X (169 + 20 * q + 5)))) (rt X q (pa X q)) 0 then fP_X7_plows_L114 q k (fR_X7_goesOn (fP_X7_clears (upd (upd X (169 + 20 * q + 5) (X (169 + 20 * q + 5) + fR_X7_lesser mt (fR_X7_of X (rt X q (pa X q)) 0 - X (169 + 20 * q + 5)))) (169 + 20 * q + 7) (upd X (169 + 20 * q + 5) (X (169 + 20 * q + 5) + fR_X7_lesser mt (fR_X7_of X (rt X q (pa X q)) 0 - X (169 + 20 * q + 5))) (169 + 20 * q + 7) + fR_X7_lesser mt (fR_X7_of X (rt X q (pa X q)) 0 - X (169 + 20 * q + 5)))) q (rt X q (pa X q))) q) (mt - fR_X7_lesser mt (fR_X7_of X (rt X q (pa X q)) 0 - X (169 + 20 * q + 5))) (fP_X7_goesOn (fP_X7_clears (upd (upd X (169 + 20 * q + 5) (X (169 + 20 * q + 5) + fR_X7_lesser mt (fR_X7_of X (rt X q (pa X q)) 0 - X (169 + 20 * q + 5)))) (169 + 20 * q + 7) (upd X (169 + 20 * q + 5) (X (169 + 20 * q + 5) + fR_X7_lesser mt (fR_X7_of X (rt X q (pa X q)) 0 - X (169 + 20 * q + 5))) (169 + 20 * q + 7) + fR_X7_lesser mt (fR_X7_of X (rt X q (pa X q)) 0 - X (169 + 20 * q + 5)))) q (rt X q (pa X q))) q) else fP_X7_plows_L114 q k mo (mt - fR_X7_lesser mt (fR_X7_of X (rt X q (pa X q)) 0 - X (169 + 20 * q + 5))) (upd (upd X (169 + 20 * q + 5) (X (169 + 20 * q + 5) + fR_X7_lesser mt (fR_X7_of X (rt X q (pa X q)) 0 - X (169 + 20 * q + 5)))) (169 + 20 * q + 7) (upd X (169 + 20 * q + 5) (X (169 + 20 * q + 5) + fR_X7_lesser mt (fR_X7_of X (rt X q (pa X q)) 0 - X (169 + 20 * q + 5))) (169 + 20 * q + 7) + fR_X7_lesser mt (fR_X7_of X (rt X q (pa X q)) 0 - X (169 + 20 * q + 5))))) := by
      have eL : fR_X7_of X (rt X q (pa X q)) 0 = nI L := l2
      have eu : fR_X7_lesser mt (fR_X7_of X (rt X q (pa X q)) 0 - X (169 + 20 * q + 5)) = nI (min t (L - g)) := by
        rw [eL, g2, ht, pk_sub gL]
        exact less_n (by omega) (by omega)
      rw [eu]
      generalize hu : min t (L - g) = u
      have ut : u ≤ t := by omega
      have ug : g + u ≤ L := by omega
      rw [g2, nI_add, upd_n (show 169 + 20 * q + 7 ≠ 169 + 20 * q + 5 by omega), ht, pk_sub ut]
      generalize hi' : rt X q (pa X q) = i at hi hi20 l2
      have w5 : upd (upd X (169 + 20 * q + 5) (nI (g + u))) (169 + 20 * q + 7) (X (169 + 20 * q + 7) + nI u) (169 + 20 * q + 5) = nI (g + u) := by rw [upd_n (by omega), upd_s]
      have w7 : upd (upd X (169 + 20 * q + 5) (nI (g + u))) (169 + 20 * q + 7) (X (169 + 20 * q + 7) + nI u) (169 + 20 * q + 7) = X (169 + 20 * q + 7) + nI u := upd_s
      have wf : ∀ x, x ≠ 169 + 20 * q + 5 → x ≠ 169 + 20 * q + 7 → upd (upd X (169 + 20 * q + 5) (nI (g + u))) (169 + 20 * q + 7) (X (169 + 20 * q + 7) + nI u) x = X x := fun x a b => by rw [upd_n b, upd_n a]
      have hRW : rtL n c q (upd (upd X (169 + 20 * q + 5) (nI (g + u))) (169 + 20 * q + 7) (X (169 + 20 * q + 7) + nI u)) := rtL_u2 hR
      generalize upd (upd X (169 + 20 * q + 5) (nI (g + u))) (169 + 20 * q + 7) (X (169 + 20 * q + 7) + nI u) = W at w5 w7 wf hRW ⊢
      have eW : fR_X7_of W i 0 = nI L := by
        show W (9 + 8 * i + 0) = _
        rw [wf _ (by omega) (by omega)]
        exact l2
      rw [w5, eW]
      by_cases h5 : nI (g + u) = nI L
      · rw [if_pos h5]
        have hgo : ∀ x, x ≠ 169 + 20 * q + 4 → x ≠ 169 + 20 * q + 5 → x ≠ 169 + 20 * q + 6 → x ≠ 9 + 8 * i + 2 → x ≠ 9 + 8 * i + 4 → x ≠ 9 + 8 * i + 6 → x ≠ 9 + 8 * i + 7 → x ≠ 169 + 20 * q + 2 → x ≠ 8 → x ≠ 169 + 20 * q + 7 → fP_X7_goesOn (fP_X7_clears W q i) q x = X x := fun x a1 a2 a3 a4 a5 a6 a7 a8 a9 a10 => by
          rw [fr_goesOn a1 a2 a3, fr_clears a4 a5 a6 a7 a8 a9, wf _ a2 a10]
        obtain ⟨v6, v7, v8⟩ := clr_v (P := W) (q := q) hi20
        obtain ⟨⟨a, a1, a2⟩, ⟨b, b1, b2, b3⟩, p1, s1, st⟩ := plI hn k (fR_X7_goesOn (fP_X7_clears W q i) q) (nI (t - u)) (fP_X7_goesOn (fP_X7_clears W q i) q) (t - u) (rtL_go (rtL_cl hi20 hRW)) rfl (by omega) (fun j hj => by
          obtain ⟨L', m1, m2⟩ := hL j hj
          refine ⟨L', m1, ?_⟩
          rw [fr_goesOn (by omega) (by omega) (by omega), fr_clears (by omega) (by omega) (by omega) (by omega) (by omega) (by omega), wf _ (by omega) (by omega)]
          exact m2) (Pg_0 go_5)
        refine ⟨⟨u + a, by omega, ?_⟩, ?_, p1, ?_, fun j hj => ?_⟩
        · rw [a2, fr_goesOn (by omega) (by omega) (by omega), fr_clears (by omega) (by omega) (by omega) (by omega) (by omega) (by omega), w7, nI_add3]
        · have e6 : fP_X7_clears W q i (169 + 20 * q + 6) = X (169 + 20 * q + 6) := by rw [fr_clears (by omega) (by omega) (by omega) (by omega) (by omega) (by omega), wf _ (by omega) (by omega)]
          rcases go_6 (P := fP_X7_clears W q i) (q := q) with ⟨-, r2⟩ | ⟨r1, r2⟩
          · exact ⟨b, b1, fun h => absurd h h1, by rw [b3, r2, e6]⟩
          · have b0 := b2 r1
            subst b0
            exact ⟨1, by omega, fun h => absurd h h1, by rw [b3, r2, e6, show nI 0 = 0 from rfl, Int32.add_zero]; rfl⟩
        · rw [s1, fr_goesOn (by omega) (by omega) (by omega), fr_goesOn (by omega) (by omega) (by omega), fr_goesOn (by omega) (by omega) (by omega), fr_clears (j := 3) (by omega) (by omega) (by omega) (by omega) (by omega) (by omega), wf 3 (by omega) (by omega)]
          have e8 : W 8 = X 8 := wf 8 (by omega) (by omega)
          have e2 : W (169 + 20 * q + 2) = X (169 + 20 * q + 2) := wf _ (by omega) (by omega)
          rw [e8, e2] at v8
          rw [Int32.add_assoc, Int32.add_comm (X 3), ← Int32.add_assoc, v8, Int32.add_assoc, Int32.add_comm _ (X 3), ← Int32.add_assoc]
        · obtain ⟨z, z1, z2, z3, z4⟩ := st j hj
          have e0 : fP_X7_goesOn (fP_X7_clears W q i) q 0 = X 0 := hgo 0 (by omega) (by omega) (by omega) (by omega) (by omega) (by omega) (by omega) (by omega) (by omega) (by omega)
          by_cases e : j = i
          · subst e
            have y6 : fP_X7_goesOn (fP_X7_clears W q j) q (9 + 8 * j + 6) = X (9 + 8 * j + 6) + nI 1 := by rw [fr_goesOn (by omega) (by omega) (by omega), v6, wf _ (by omega) (by omega)]; rfl
            have y7 : fP_X7_goesOn (fP_X7_clears W q j) q (9 + 8 * j + 7) = X 0 := by rw [fr_goesOn (by omega) (by omega) (by omega), v7, wf _ (by omega) (by omega)]
            refine ⟨1 + z, by omega, by rw [z2, y6, nI_add3], fun h => absurd h (by omega), fun _ => ?_⟩
            by_cases hz : 0 < z
            · rw [z4 hz, e0]
            · rw [z3 (by omega), y7]
          · have y6 : fP_X7_goesOn (fP_X7_clears W q i) q (9 + 8 * j + 6) = X (9 + 8 * j + 6) := hgo _ (by omega) (by omega) (by omega) (by omega) (by omega) (by omega) (by omega) (by omega) (by omega) (by omega)
            have y7 : fP_X7_goesOn (fP_X7_clears W q i) q (9 + 8 * j + 7) = X (9 + 8 * j + 7) := hgo _ (by omega) (by omega) (by omega) (by omega) (by omega) (by omega) (by omega) (by omega) (by omega) (by omega)
            exact ⟨z, by omega, by rw [z2, y6], fun h => by rw [z3 h, y7], fun h => by rw [z4 h, e0]⟩
      · rw [if_neg h5]
        have h6 : g + u ≠ L := fun h => h5 (by rw [h])
        have e3 : nc W q = nc X q := nc_c (wf _ (by omega) (by omega))
        have e4 : pa W q = pa X q := pa_c (wf _ (by omega) (by omega))
        have hW12 : nc X q ≤ 12 := hR.1.2.1
        have hpx := hR.1.2.2.2.1
        have e5 : rt W q (pa X q) = i := by
          rw [← hi']
          exact rt_c (wf _ (by omega) (by omega))
        obtain ⟨⟨a, a1, a2⟩, ⟨b, b1, b2, b3⟩, p1, s1, st⟩ := plI hn k mo (nI (t - u)) W (t - u) hRW rfl (by omega) (fun j hj => by
          obtain ⟨L', m1, m2⟩ := hL j hj
          exact ⟨L', m1, by rw [wf _ (by omega) (by omega)]; exact m2⟩) ⟨g + u, by omega, w5, fun _ => ⟨by omega, L, l1, by rw [e4, e5]; exact eW, by omega⟩⟩
        refine ⟨⟨u + a, by omega, by rw [a2, w7, nI_add3]⟩, ⟨b, b1, b2, by rw [b3, wf _ (by omega) (by omega)]⟩, p1, by rw [s1, wf 8 (by omega) (by omega), wf 3 (by omega) (by omega), wf (169 + 20 * q + 2) (by omega) (by omega)], fun j hj => ?_⟩
        obtain ⟨z, z1, z2, z3, z4⟩ := st j hj
        exact ⟨z, by omega, by rw [z2, wf _ (by omega) (by omega)], fun h => by rw [z3 h, wf _ (by omega) (by omega)], fun h => by rw [z4 h, wf 0 (by omega) (by omega)]⟩
    by_cases h3 : X (169 + 20 * q + 5) = 0
    · rw [if_pos h3]
      by_cases h4 : fR_X7_isDue X (rt X q (pa X q)) = 0
      · rw [if_pos h4]
        obtain ⟨⟨a, a1, a2⟩, ⟨b, b1, b2, b3⟩, p1, s1, st⟩ := plI hn k (fR_X7_goesOn X q) mt (fP_X7_goesOn X q) t (rtL_go hR) ht ht5 (fun j hj => by
          obtain ⟨L', m1, m2⟩ := hL j hj
          exact ⟨L', m1, by rw [fr_goesOn (by omega) (by omega) (by omega)]; exact m2⟩) (Pg_0 go_5)
        refine ⟨⟨a, a1, by rw [a2, fr_goesOn (by omega) (by omega) (by omega)]⟩, ?_, p1, by rw [s1, fr_goesOn (by omega) (by omega) (by omega), fr_goesOn (by omega) (by omega) (by omega), fr_goesOn (by omega) (by omega) (by omega)], fun j hj => ?_⟩
        · rcases go_6 (P := X) (q := q) with ⟨-, r2⟩ | ⟨r1, r2⟩
          · exact ⟨b, b1, fun h => absurd h h1, by rw [b3, r2]⟩
          · have b0 := b2 r1
            subst b0
            exact ⟨1, by omega, fun h => absurd h h1, by rw [b3, r2, show nI 0 = 0 from rfl, Int32.add_zero]; rfl⟩
        · obtain ⟨z, z1, z2, z3, z4⟩ := st j hj
          exact ⟨z, by omega, by rw [z2, fr_goesOn (by omega) (by omega) (by omega)], fun h => by rw [z3 h, fr_goesOn (by omega) (by omega) (by omega)], fun h => by rw [z4 h, fr_goesOn (by omega) (by omega) (by omega)]⟩
      · rw [if_neg h4]
        exact hwork
    · rw [if_neg h3]
      exact hwork
