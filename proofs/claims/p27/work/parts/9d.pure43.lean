/-! The next public methods, class against reference. -/
theorem Good_plow {P P1 : Nat → Int32} (h : Good P) (hi : np P < 3) (fr : ∀ x, x ≠ 2 → ¬ (169 + 20 * np P ≤ x ∧ x < 169 + 20 * np P + 20) → P1 x = P x) (h1 : P1 2 = nI (np P + 1)) (h3 : P1 (169 + 20 * np P + 3) = 0) (h4 : P1 (169 + 20 * np P + 4) = 0) (hl : rP P1 (np P)) : Good P1 := by
  have e1 : np P1 = np P + 1 := by
    unfold np at *
    rw [h1]
    exact nI_t (by omega)
  have h20 := h.n20
  have e2 : ns P1 = ns P := ns_c (fr 1 (by omega) (by omega))
  refine Good_mk ⟨by rw [e2, fr 1 (by omega) (by omega)]; exact h.oN.1, by omega, by rw [e1]; exact h1, by omega⟩ (fun i hi2 => okR_c (fr _ (by omega) (by omega)) (h.oR (by omega))) (fun q hq => ?_) ?_
  · rw [e2]
    by_cases e : q = np P
    · subst e
      have n0 : nc P1 (np P) = 0 := by
        unfold nc
        rw [h3]
        rfl
      exact ⟨⟨⟨by rw [n0, h3]; rfl, by omega⟩, fun _ => h4⟩, fun h0 => absurd h0 (by omega)⟩
    · exact gP_f (fr _ (by omega) (by omega)) (fr _ (by omega) (by omega)) (fun j hj => fr _ (by omega) (by omega)) (by omega) (h.gP (by omega))
  · obtain ⟨k, a, b, d1, d2, d3, d4, d5⟩ := h.2.2
    refine ⟨k, a, by rw [fr 0 (by omega) (by omega)]; exact b, fun i hi2 => ?_, fun q hq => ?_, by rw [fr 3 (by omega) (by omega)]; exact d3, by rw [fr 4 (by omega) (by omega)]; exact d4, limP_c (fun r hr => fr _ (by omega) (by omega)) d5⟩
    · exact rS_c (fr _ (by omega) (by omega)) (fr _ (by omega) (by omega)) (fr _ (by omega) (by omega)) (fr _ (by omega) (by omega)) (d1 i (by omega))
    · by_cases e : q = np P
      · subst e
        exact hl
      · exact rP_c (fr _ (by omega) (by omega)) (fr _ (by omega) (by omega)) (d2 q (by omega))
/-- streets, counts and the clock stay -/
theorem Good_mod {P P1 : Nat → Int32} (h : Good P) (ec : ∀ x, x < 3 → P1 x = P x) (es : ∀ i k, i < 20 → k < 8 → P1 (9 + 8 * i + k) = P (9 + 8 * i + k)) (hP : ∀ q, q < np P → gP (ns P) P1 q) (h12 : ∀ q, q < np P → P1 (169 + 20 * q + 1) = P (169 + 20 * q + 1) ∧ P1 (169 + 20 * q + 2) = P (169 + 20 * q + 2)) (h3 : ∃ S, S ≤ 100000 ∧ P1 3 = nI S) (h4 : ∃ s, s ≤ 50 ∧ P1 4 = nI s) (hl : limP P1) : Good P1 := by
  have e1 : ns P1 = ns P := ns_c (ec 1 (by omega))
  have e2 : np P1 = np P := np_c (ec 2 (by omega))
  have h20 := h.n20
  refine Good_mk (okN_c (ec 1 (by omega)) (ec 2 (by omega)) h.oN) (fun i hi => okR_c (es i 1 (by omega) (by omega)) (h.oR (by omega))) (fun q hq => by rw [e1]; exact hP q (by omega)) ?_
  obtain ⟨k, a, b, d1, d2, d3, d4, d5⟩ := h.2.2
  refine ⟨k, a, by rw [ec 0 (by omega)]; exact b, fun i hi => rS_c (es i 0 (by omega) (by omega)) (es i 2 (by omega) (by omega)) (es i 3 (by omega) (by omega)) (es i 4 (by omega) (by omega)) (d1 i (by omega)), fun q hq => rP_c (h12 q (by omega)).1 (h12 q (by omega)).2 (d2 q (by omega)), h3, h4, hl⟩
theorem Good.s3 {P : Nat → Int32} (h : Good P) : ∃ S, S ≤ 100000 ∧ P 3 = nI S := by
  obtain ⟨k, a, b, d1, d2, d3, d4, d5⟩ := h.2.2
  exact d3
theorem Good.s4 {P : Nat → Int32} (h : Good P) : ∃ s, s ≤ 50 ∧ P 4 = nI s := by
  obtain ⟨k, a, b, d1, d2, d3, d4, d5⟩ := h.2.2
  exact d4
theorem Good.lim {P : Nat → Int32} (h : Good P) : limP P := by
  obtain ⟨k, a, b, d1, d2, d3, d4, d5⟩ := h.2.2
  exact d5
theorem plL76 {spd cap : Int32} {a : Nat} (ha : 2 < a) : ∀ (k j : Nat) (P V F : Nat → Int32), 2 ≤ j → ∀ x, fP_X7_addPlow_L76 spd cap k a j P V F x = if a + j ≤ x ∧ x < a + j + k then 0 else if x = 2 then P 2 + 1 else P x
  | 0, j, P, V, F, _, x => by
    rw [fP_X7_addPlow_L76]
    (try dsimp only)
    rw [if_neg (by omega)]
    rfl
  | k + 1, j, P, V, F, hj, x => by
    rw [fP_X7_addPlow_L76]
    (try dsimp only)
    rw [if_neg (by omega), if_neg (by omega), plL76 ha k (j + 1) _ V F (by omega) x]
    by_cases h1 : a + (j + 1) ≤ x ∧ x < a + (j + 1) + k
    · rw [if_pos h1, if_pos (by omega)]
    rw [if_neg h1]
    by_cases h2 : x = a + j
    · rw [if_neg (by omega), h2, upd_s, if_pos (by omega)]
    have h5 : ¬ (a + j ≤ x ∧ x < a + j + (k + 1)) := by omega
    rw [if_neg h5]
    by_cases h6 : x = 2
    · rw [if_pos h6, if_pos h6, upd_n (by omega)]
    · rw [if_neg h6, if_neg h6, upd_n h2]
theorem plL76P {spd cap : Int32} {i : Nat} {P V F : Nat → Int32} (x : Nat) : fP_X7_addPlow_L76 spd cap 20 (169 + 20 * i) 0 P V F x = if 169 + 20 * i + 2 ≤ x ∧ x < 169 + 20 * i + 20 then 0 else if x = 2 then P 2 + 1 else if x = 169 + 20 * i + 1 then cap else if x = 169 + 20 * i then spd else P x := by
  rw [fP_X7_addPlow_L76]
  (try dsimp only)
  rw [if_pos rfl, fP_X7_addPlow_L76]
  (try dsimp only)
  rw [if_neg (by omega), if_pos rfl, plL76 (by omega) _ _ _ _ _ (by omega) x]
  simp only [upd]
  by_cases h1 : 169 + 20 * i + 2 ≤ x ∧ x < 169 + 20 * i + 20
  · rw [if_pos h1, if_pos (by omega)]
  have h5 : ¬ (169 + 20 * i + (0 + 1 + 1) ≤ x ∧ x < 169 + 20 * i + (0 + 1 + 1) + 18) := by omega
  rw [if_neg h1, if_neg h5]
  by_cases h6 : x = 2
  · rw [if_pos h6, if_pos h6, if_neg (by omega), if_neg (by omega)]
  · rw [if_neg h6, if_neg h6]
    rfl
theorem plL76R {spd cap : Int32} {a : Nat} (ha : 2 < a) : ∀ (k j : Nat) (P V F : Nat → Int32), fR_X7_addPlow_L76 spd cap k a j P V F = P 2
  | 0, j, P, V, F => by
    rw [fR_X7_addPlow_L76]
    (try dsimp only)
    rw [upd_s, Int32.add_sub_cancel]
  | k + 1, j, P, V, F => by
    rw [fR_X7_addPlow_L76]
    (try dsimp only)
    rw [plL76R ha, plL76R ha, plL76R ha, upd_n (by omega), upd_n (by omega), upd_n (by omega), ite_self, ite_self]
theorem plL76V {spd cap : Int32} {a : Nat} : ∀ (k j : Nat) (P V F : Nat → Int32), fV_X7_addPlow_L76 spd cap k a j P V F = V
  | 0, j, P, V, F => by rw [fV_X7_addPlow_L76]
  | k + 1, j, P, V, F => by
    rw [fV_X7_addPlow_L76]
    (try dsimp only)
    rw [plL76V, plL76V, plL76V, ite_self, ite_self]
theorem plL76F {spd cap : Int32} {a : Nat} : ∀ (k j : Nat) (P V F : Nat → Int32), fF_X7_addPlow_L76 spd cap k a j P V F = F
  | 0, j, P, V, F => by rw [fF_X7_addPlow_L76]
  | k + 1, j, P, V, F => by
    rw [fF_X7_addPlow_L76]
    (try dsimp only)
    rw [plL76F, plL76F, plL76F, ite_self, ite_self]
theorem begP_f {P : Nat → Int32} {i x : Nat} {spd cap : Int32} (h : ¬ (169 + 20 * i ≤ x ∧ x < 169 + 20 * i + 8)) : fP_X1_begin P i spd cap x = P x := by
  unfold fP_X1_begin
  rw [upd_n (by omega), upd_n (by omega), upd_n (by omega), upd_n (by omega), upd_n (by omega), upd_n (by omega), upd_n (by omega), upd_n (by omega)]
theorem begP_v {P : Nat → Int32} {i k : Nat} {spd cap : Int32} (hk : k < 8) : fP_X1_begin P i spd cap (169 + 20 * i + k) = if k = 0 then spd else if k = 1 then cap else 0 := by
  unfold fP_X1_begin
  rcases (show k = 0 ∨ k = 1 ∨ k = 2 ∨ k = 3 ∨ k = 4 ∨ k = 5 ∨ k = 6 ∨ k = 7 by omega) with rfl | rfl | rfl | rfl | rfl | rfl | rfl | rfl <;> (repeat first | rw [upd_s] | rw [upd_n (by omega)]) <;> rfl
theorem M_addPlow {C : Nat → Int32} {G : Nat → Nat → Int32} {n : Nat} {Y F P V T Fm : Nat → Int32} {spd cap : Int32} (h : Rel C G n Y F P V T Fm) : Out 1 (fE_X6_addPlow C G n spd cap) (fR_X6_addPlow C G n spd cap) (fR_X7_addPlow P V Fm spd cap) (fF_X7_addPlow P V Fm spd cap) (Rel (fC_X6_addPlow C G n spd cap) (fG_X6_addPlow C G n spd cap) (fn_X6_addPlow C G n spd cap) Y F (fP_X7_addPlow P V Fm spd cap) (fV_X7_addPlow P V Fm spd cap) T (fF_X7_addPlow P V Fm spd cap)) := by
  unfold fE_X6_addPlow fR_X6_addPlow fR_X7_addPlow fF_X7_addPlow fC_X6_addPlow fG_X6_addPlow fn_X6_addPlow fP_X7_addPlow fV_X7_addPlow
  by_cases h1 : fR_X7_in spd 100 5000 = 0
  · simp only [cA_p h1, if_pos h1, if_neg Nat.one_ne_zero]
    exact Out_err (by decide) rfl h
  simp only [cA_q h1, if_neg h1, if_true]
  by_cases h2 : fR_X7_in cap 0 5000 = 0
  · simp only [cA_p h2, if_pos h2, if_neg Nat.one_ne_zero]
    exact Out_err (by decide) rfl h
  simp only [cA_q h2, if_neg h2, if_true]
  have hg := h.1.2.2
  have h20 := hg.n20
  have hm := hg.m3
  by_cases h3 : np P = 3
  · simp only [h.np, if_pos h3, if_neg (show ¬ np P < 3 by omega)]
    exact Out_err (by decide) rfl h
  simp only [h.np, if_neg h3, if_pos (show np P < 3 by omega), plL76R (show 2 < 169 + 20 * np P by omega), plL76V, plL76F]
  have hq : ∀ x, fP_X7_addPlow_L76 spd cap 20 (169 + 20 * np P) 0 P (fV_X7_keep P V (upd Fm 6 0)) (fF_X7_keep P V (upd Fm 6 0)) x = if 169 + 20 * np P + 2 ≤ x ∧ x < 169 + 20 * np P + 20 then 0 else if x = 2 then P 2 + 1 else if x = 169 + 20 * np P + 1 then cap else if x = 169 + 20 * np P then spd else P x := plL76P
  generalize fP_X7_addPlow_L76 spd cap 20 (169 + 20 * np P) 0 P (fV_X7_keep P V (upd Fm 6 0)) (fF_X7_keep P V (upd Fm 6 0)) = P1 at hq ⊢
  have fr : ∀ x, x ≠ 2 → ¬ (169 + 20 * np P ≤ x ∧ x < 169 + 20 * np P + 20) → P1 x = P x := fun x hx1 hx2 => by rw [hq, if_neg (by omega), if_neg hx1, if_neg (by omega), if_neg (by omega)]
  have vl : ∀ k, k < 8 → P1 (169 + 20 * np P + k) = if k = 0 then spd else if k = 1 then cap else 0 := fun k hk => by
    rw [hq]
    by_cases a : k = 0
    · rw [if_pos a, if_neg (by omega), if_neg (by omega), if_neg (by omega), if_pos (by omega)]
    by_cases b : k = 1
    · rw [if_neg a, if_pos b, if_neg (by omega), if_neg (by omega), if_pos (by omega)]
    · rw [if_neg a, if_neg b, if_pos (by omega)]
  have p2 : P1 2 = nI (np P + 1) := by rw [hq, if_neg (by omega), if_pos rfl, hg.oN.2.2.1, nI_1]
  have e1 : np P1 = np P + 1 := by
    unfold np at p2 h3 hm ⊢
    rw [p2]
    exact nI_t (by omega)
  have fC : ∀ x, x ≠ 2 → ¬ (169 + 20 * np P ≤ x ∧ x < 169 + 20 * np P + 8) → upd (fP_X1_begin C (np P) spd cap) 2 (fP_X1_begin C (np P) spd cap 2 + 1) x = C x := fun x hx1 hx2 => by rw [upd_n hx1, begP_f hx2]
  have n0 : nc P1 (np P) = 0 := by
    unfold nc
    rw [vl 3 (by omega)]
    rfl
  refine Out_done h (by rw [upd_s, begP_f (by omega), Int32.add_sub_cancel, ag_c h.1.1 (by decide) (by decide)]) ⟨?_, ?_, ?_⟩
  · rw [e1, ns_c (fr 1 (by omega) (by omega))]
    refine ag_plw (c := nc P) (fun j hj => ?_) (fun q hq2 => nc_c (fr _ (by omega) (by omega))) (fun k hk => ?_)
    · by_cases e2 : j = 2
      · rw [e2, upd_s, begP_f (by omega), p2, ag_c h.1.1 (by decide) (by decide), hg.oN.2.2.1, nI_1]
      have hx : ¬ (169 + 20 * np P ≤ j ∧ j < 169 + 20 * np P + 20) := by
        rcases hj with a | ⟨i, k, a1, a2, rfl⟩ | ⟨q, k, a1, a2, rfl⟩ | ⟨k, a1, rfl⟩
        · omega
        · omega
        · have := (hg.2.1 q a1).1.2
          omega
        · omega
      rw [fC j e2 (by omega), fr j e2 hx]
      exact h.1.1 j hj
    · rw [n0] at hk
      rw [upd_n (by omega), begP_v (by omega), vl k (by omega)]
  · rw [fr 5 (by omega) (by omega), h.1.2.1]
    exact (cs_c (fr _ (by omega) (by omega)) (fr _ (by omega) (by omega)) (fr _ (by omega) (by omega))).symm
  · obtain ⟨l1, l2⟩ := in_nat (n := 5000) (by decide) rfl (by decide) h2
    exact Good_plow hg (by omega) fr p2 (vl 3 (by omega)) (vl 4 (by omega)) ⟨cap.toNatClampNeg, 0, l2, by omega, by rw [vl 1 (by omega)]; exact l1, vl 2 (by omega)⟩
