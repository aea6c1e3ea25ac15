/-! Exchanges, terms, spread, deliveries, hours: class against reference. -/
theorem busy_eq {P : Nat → Int32} {q k p : Nat} (hk : k < 100) (hp : p < 100) (e4 : P (169 + 20 * q + 4) = nI p) : fR_X1_isBusyAtPair P q (nI k) = fR_X7_isBusy P q (nI k) := by
  unfold fR_X1_isBusyAtPair fR_X7_isBusy fR_X7_ofPlow fR_X7_in
  rw [e4, nI_1]
  by_cases h5 : P (169 + 20 * q + 5) ≤ 0
  · rw [if_pos h5, if_pos h5]
  rw [if_neg h5, if_neg h5]
  by_cases a : p = k
  · rw [if_pos (by rw [a]), if_neg (nI_nlt (by omega) (by omega)), if_neg (nI_nlt (by omega) (by omega))]
    rfl
  rw [if_neg (fun e => a ((nI_eq (by omega) (by omega)).mp e))]
  by_cases b : p = k + 1
  · rw [if_pos (by rw [b]), if_neg (nI_nlt (by omega) (by omega)), if_neg (nI_nlt (by omega) (by omega))]
    rfl
  rw [if_neg (fun e => b ((nI_eq (by omega) (by omega)).mp e))]
  by_cases d : p < k
  · rw [if_pos (nI_lt d (by omega))]
    rfl
  · rw [if_neg (nI_nlt (by omega) (by omega)), if_pos (nI_lt (by omega) (by omega))]
    rfl
theorem busy_ag {n m : Nat} {c : Nat → Nat} {C P : Nat → Int32} {q : Nat} {x : Int32} (h : Ag n m c C P) (hq : q < m) : fR_X1_isBusyAtPair C q x = fR_X1_isBusyAtPair P q x := by
  unfold fR_X1_isBusyAtPair
  rw [ag_p h hq 5 (by omega), ag_p h hq 4 (by omega)]
theorem swapR_eq {P : Nat → Int32} {q k : Nat} : fR_X7_exchanges P q k = fP_X7_exchanges P q k (169 + 20 * q + 8 + k) := rfl
theorem exg_v {P : Nat → Int32} {q k j : Nat} : fP_X7_exchanges P q k (169 + 20 * q + 8 + j) = if j = k + 1 then P (169 + 20 * q + 8 + k) else if j = k then P (169 + 20 * q + 8 + (k + 1)) else P (169 + 20 * q + 8 + j) := by
  unfold fP_X7_exchanges
  by_cases a : j = k + 1
  · rw [if_pos a, a, show 169 + 20 * q + 8 + (k + 1) = 169 + 20 * q + 8 + k + 1 by omega, upd_s]
  rw [if_neg a, upd_n (by omega)]
  by_cases b : j = k
  · rw [if_pos b, b, upd_s, show 169 + 20 * q + 8 + (k + 1) = 169 + 20 * q + 8 + k + 1 by omega]
  · rw [if_neg b, upd_n (by omega)]
theorem exg_f {P : Nat → Int32} {q k x : Nat} (h1 : x ≠ 169 + 20 * q + 8 + k) (h2 : x ≠ 169 + 20 * q + 8 + k + 1) : fP_X7_exchanges P q k x = P x := by
  unfold fP_X7_exchanges
  rw [upd_n h2, upd_n h1]
theorem exg_ag {n m : Nat} {c : Nat → Nat} {C P : Nat → Int32} {q k : Nat} (h : Ag n m c C P) (hq : q < m) (hk : k + 1 < c q) : Ag n m c (fP_X7_exchanges C q k) (fP_X7_exchanges P q k) := by
  have e1 := ag_p h hq (8 + k) (by omega)
  have e2 := ag_p h hq (8 + k + 1) (by omega)
  rw [show 169 + 20 * q + (8 + k) = 169 + 20 * q + 8 + k by omega] at e1
  rw [show 169 + 20 * q + (8 + k + 1) = 169 + 20 * q + 8 + k + 1 by omega] at e2
  exact ag_u (ag_u h e2) e1
/-- two places of a route change places -/
theorem Good_exg {P : Nat → Int32} {q k : Nat} (h : Good P) (hq : q < np P) (hk : k + 1 < nc P q) : Good (fP_X7_exchanges P q k) := by
  have hg := h.gP hq
  have h12 := hg.1.1.2
  have e3 : fP_X7_exchanges P q k (169 + 20 * q + 3) = P (169 + 20 * q + 3) := exg_f (by omega) (by omega)
  have e4 : fP_X7_exchanges P q k (169 + 20 * q + 4) = P (169 + 20 * q + 4) := exg_f (by omega) (by omega)
  have e := nc_c e3
  refine Good_pl h hq (fun x hx => exg_f (by omega) (by omega)) ⟨okE_f e3 (fun _ => e4) hg.1, fun h0 => ?_⟩
  obtain ⟨a, b, d⟩ := hg.2 (by omega)
  rw [e, pa_c e4, e4]
  refine ⟨a, b, fun j hj => ?_⟩
  show fP_X7_exchanges P q k (169 + 20 * q + 8 + j) = nI (fP_X7_exchanges P q k (169 + 20 * q + 8 + j)).toNatClampNeg ∧ (fP_X7_exchanges P q k (169 + 20 * q + 8 + j)).toNatClampNeg < ns P
  rw [exg_v]
  split
  · exact d k (by omega)
  split
  · exact d (k + 1) (by omega)
  · exact d j hj
theorem Cg_exg {C P : Nat → Int32} {q k : Nat} (h : Cg C P) (hq : q < np P) (hk : k + 1 < nc P q) : Cg (fP_X1_swapWithNext C q k) (fP_X7_exchanges P q k) := by
  have hm := h.2.2.m3
  have h12 := (h.2.2.gP hq).1.1.2
  rw [swap_eq]
  refine ⟨?_, ?_, Good_exg h.2.2 hq hk⟩
  · rw [ns_c (exg_f (by omega) (by omega)), np_c (exg_f (by omega) (by omega))]
    refine ag_cc (fun q' hq' => nc_c (exg_f (by omega) (by omega))) (exg_ag h.1 hq hk)
  · rw [exg_f (by omega) (by omega), h.2.1]
    exact (cs_c (exg_f (by omega) (by omega)) (exg_f (by omega) (by omega)) (exg_f (by omega) (by omega))).symm
theorem pair_ag {n m : Nat} {c : Nat → Nat} {C P : Nat → Int32} {q : Nat} {x : Int32} (h : Ag n m c C P) (hq : q < m) : fR_X7_isPair C q x = fR_X7_isPair P q x := by
  unfold fR_X7_isPair fR_X7_ofPlow
  rw [ag_p h hq 3 (by omega)]
theorem M_exchange {C : Nat → Int32} {G : Nat → Nat → Int32} {n : Nat} {Y F P V T Fm : Nat → Int32} {pl x : Int32} (h : Rel C G n Y F P V T Fm) : Out 3 (fE_X6_exchange C G n pl x) (fR_X6_exchange C G n pl x) (fR_X7_exchange P V Fm pl x) (fF_X7_exchange P V Fm pl x) (Rel (fC_X6_exchange C G n pl x) (fG_X6_exchange C G n pl x) (fn_X6_exchange C G n pl x) Y F (fP_X7_exchange P V Fm pl x) (fV_X7_exchange P V Fm pl x) T (fF_X7_exchange P V Fm pl x)) := by
  unfold fE_X6_exchange fR_X6_exchange fR_X7_exchange fF_X7_exchange fC_X6_exchange fG_X6_exchange fn_X6_exchange fP_X7_exchange fV_X7_exchange
  by_cases h1 : fR_X7_isPlow P pl = 0
  · simp only [cP_p h.1 h1, if_pos h1, if_neg three0]
    exact Out_err (by decide) rfl h
  obtain ⟨c1, x1, k1⟩ := cP_q h.1 h1
  simp only [c1, if_neg h1, if_true]
  generalize pl.toNatClampNeg = q at k1 ⊢
  have hg := h.1.2.2
  have hgq := hg.gP k1
  have k1' : q < np C := by rw [np_ag h.1.1]; exact k1
  have hQ := h.1.okQ q k1'
  have h12 := hgq.1.1.2
  by_cases h2 : fR_X7_isPair P q x = 0
  · have c2 : fE_X6_checkIndex x (C (169 + 20 * q + 3) - 1) = 3 := by rw [cX_e hQ, pair_ag h.1.1 k1, if_pos h2]
    simp only [c2, if_pos h2, if_neg three0]
    exact Out_err (by decide) rfl h
  have c2 : fE_X6_checkIndex x (C (169 + 20 * q + 3) - 1) = 0 := by rw [cX_e hQ, pair_ag h.1.1 k1, if_neg h2]
  obtain ⟨x2, k2, -⟩ := cX_n hQ c2
  rw [nc_ag h.1.1 k1] at k2
  obtain ⟨g1, g2, -⟩ := hgq.2 (by omega)
  have eb : fR_X1_isBusyAtPair C q x = fR_X7_isBusy P q x := by
    rw [busy_ag h.1.1 k1, x2]
    exact busy_eq (by omega) (by omega) g1
  simp only [c2, if_neg h2, if_true, eb]
  generalize x.toNatClampNeg = k at k2 ⊢
  by_cases h3 : fR_X7_isBusy P q x = 0
  · simp only [if_pos h3]
    refine Out_done h ?_ (Cg_exg h.1 k1 k2)
    have e := ag_p (exg_ag h.1.1 k1 k2) k1 (8 + k) (by omega)
    rw [show 169 + 20 * q + (8 + k) = 169 + 20 * q + 8 + k by omega] at e
    rw [swapR_eq, swap_eq]
    exact e
  · simp only [if_neg h3]
    exact Out_err (by decide) rfl h
theorem cI3_e {x : Int32} : fE_X6_checkIndex x 3 = if fR_X7_in x 0 2 = 0 then 3 else 0 := cI_e (x := x) (n := 3) (by decide)
theorem cI3_p {x : Int32} (h : fR_X7_in x 0 2 = 0) : fE_X6_checkIndex x 3 = 3 := by rw [cI3_e, if_pos h]
theorem cI3_q {x : Int32} (h : ¬ fR_X7_in x 0 2 = 0) : fE_X6_checkIndex x 3 = 0 := by rw [cI3_e, if_neg h]
theorem M_setTerms {C : Nat → Int32} {G : Nat → Nat → Int32} {n : Nat} {Y F P V T Fm : Nat → Int32} {pri tr li cr : Int32} (h : Rel C G n Y F P V T Fm) : Out 3 (fE_X6_setTerms C G n pri tr li cr) (fR_X6_setTerms C G n pri tr li cr) (fR_X7_setTerms P V Fm pri tr li cr) (fF_X7_setTerms P V Fm pri tr li cr) (Rel (fC_X6_setTerms C G n pri tr li cr) (fG_X6_setTerms C G n pri tr li cr) (fn_X6_setTerms C G n pri tr li cr) Y F (fP_X7_setTerms P V Fm pri tr li cr) (fV_X7_setTerms P V Fm pri tr li cr) T (fF_X7_setTerms P V Fm pri tr li cr)) := by
  unfold fE_X6_setTerms fR_X6_setTerms fR_X7_setTerms fF_X7_setTerms fC_X6_setTerms fG_X6_setTerms fn_X6_setTerms fP_X7_setTerms fV_X7_setTerms
  by_cases h1 : fR_X7_in pri 0 2 = 0
  · simp only [cI3_p h1, if_pos h1, if_neg three0]
    exact Out_err (by decide) rfl h
  simp only [cI3_q h1, if_neg h1, if_true]
  by_cases h2 : fR_X7_in tr 1 200 = 0
  · simp only [cA_p h2, if_pos h2, if_neg Nat.one_ne_zero]
    exact Out_err (by decide) rfl h
  simp only [cA_q h2, if_neg h2, if_true]
  by_cases h3 : fR_X7_in li 1 48 = 0
  · simp only [cA_p h3, if_pos h3, if_neg Nat.one_ne_zero]
    exact Out_err (by decide) rfl h
  simp only [cA_q h3, if_neg h3, if_true]
  by_cases h4 : fR_X7_in cr 0 1000 = 0
  · simp only [cA_p h4, if_pos h4, if_neg Nat.one_ne_zero]
    exact Out_err (by decide) rfl h
  simp only [cA_q h4, if_neg h4, if_true]
  have hg := h.1.2.2
  have h20 := hg.n20
  have hm := hg.m3
  obtain ⟨-, hr⟩ := in_nat (n := 2) (by decide) rfl (by decide) h1
  obtain ⟨l1, l2⟩ := in_nat (n := 48) (by decide) rfl (by decide) h3
  generalize pri.toNatClampNeg = r at hr ⊢
  have ha : Ag (ns P) (np P) (nc P) (upd (upd (upd C (229 + 4 * r + 0) tr) (229 + 4 * r + 1) li) (229 + 4 * r + 2) cr) (fP_X7_layTerms P r tr li cr) := ag_u (ag_u (ag_u h.1.1 rfl) rfl) rfl
  have fr : ∀ x, ¬ (229 + 4 * r ≤ x ∧ x < 229 + 4 * r + 3) → fP_X7_layTerms P r tr li cr x = P x := fun x hx => by
    unfold fP_X7_layTerms
    rw [upd_n (by omega), upd_n (by omega), upd_n (by omega)]
  have v1 : fP_X7_layTerms P r tr li cr (229 + 4 * r + 1) = li := by
    unfold fP_X7_layTerms
    rw [upd_n (by omega), upd_s]
  refine Out_done h (ag_t h.1.1 (by omega) 0 (by omega)) ⟨?_, ?_, ?_⟩
  · rw [ns_c (fr 1 (by omega)), np_c (fr 2 (by omega))]
    exact ag_cc (fun q' hq' => nc_c (fr _ (by omega))) ha
  · rw [fr 5 (by omega), h.1.2.1]
    exact (cs_c (fr _ (by omega)) (fr _ (by omega)) (fr _ (by omega))).symm
  · refine Good_mod hg (fun x hx => fr x (by omega)) (fun i k hi hk => fr _ (by omega)) (fun q hq => gP_f (fr _ (by omega)) (fr _ (by omega)) (fun j hj => fr _ (by omega)) (Nat.le_refl _) (hg.gP hq)) (fun q hq => ⟨fr _ (by omega), fr _ (by omega)⟩) (by rw [fr 3 (by omega)]; exact hg.s3) (by rw [fr 4 (by omega)]; exact hg.s4) (fun r' hr' => ?_)
    by_cases e : r' = r
    · rw [e, v1, l1]
      exact nI_pos' (by omega)
    · rw [fr _ (by omega)]
      exact hg.lim r' hr'
theorem M_setSpread {C : Nat → Int32} {G : Nat → Nat → Int32} {n : Nat} {Y F P V T Fm : Nat → Int32} {sp : Int32} (h : Rel C G n Y F P V T Fm) : Out 1 (fE_X6_setSpread C G n sp) (fR_X6_setSpread C G n sp) (fR_X7_setSpread P V Fm sp) (fF_X7_setSpread P V Fm sp) (Rel (fC_X6_setSpread C G n sp) (fG_X6_setSpread C G n sp) (fn_X6_setSpread C G n sp) Y F (fP_X7_setSpread P V Fm sp) (fV_X7_setSpread P V Fm sp) T (fF_X7_setSpread P V Fm sp)) := by
  unfold fE_X6_setSpread fR_X6_setSpread fR_X7_setSpread fF_X7_setSpread fC_X6_setSpread fG_X6_setSpread fn_X6_setSpread fP_X7_setSpread fV_X7_setSpread
  by_cases h1 : fR_X7_in sp 0 50 = 0
  · simp only [cA_p h1, if_pos h1, if_neg Nat.one_ne_zero]
    exact Out_err (by decide) rfl h
  simp only [cA_q h1, if_neg h1, if_true]
  have hg := h.1.2.2
  have hm := hg.m3
  obtain ⟨l1, l2⟩ := in_nat (n := 50) (by decide) rfl (by decide) h1
  refine Out_done h (ag_c h.1.1 (by decide) (by decide)) ⟨?_, ?_, ?_⟩
  · rw [ns_c (upd_n (by omega)), np_c (upd_n (by omega))]
    exact ag_cc (fun q' hq' => nc_c (upd_n (by omega))) (ag_u h.1.1 rfl)
  · rw [upd_n (by omega), h.1.2.1]
    exact (cs_c (upd_n (by omega)) (upd_n (by omega)) (upd_n (by omega))).symm
  · exact Good_mod hg (fun x hx => upd_n (by omega)) (fun i k hi hk => upd_n (by omega)) (fun q hq => gP_f (upd_n (by omega)) (upd_n (by omega)) (fun j hj => upd_n (by omega)) (Nat.le_refl _) (hg.gP hq)) (fun q hq => ⟨upd_n (by omega), upd_n (by omega)⟩) (by rw [upd_n (by omega)]; exact hg.s3) ⟨_, l2, by rw [upd_s]; exact l1⟩ (limP_c (fun r hr => upd_n (by omega)) hg.lim)
theorem M_deliver {C : Nat → Int32} {G : Nat → Nat → Int32} {n : Nat} {Y F P V T Fm : Nat → Int32} {kg : Int32} (h : Rel C G n Y F P V T Fm) : Out 1 (fE_X6_deliver C G n kg) (fR_X6_deliver C G n kg) (fR_X7_deliver P V Fm kg) (fF_X7_deliver P V Fm kg) (Rel (fC_X6_deliver C G n kg) (fG_X6_deliver C G n kg) (fn_X6_deliver C G n kg) Y F (fP_X7_deliver P V Fm kg) (fV_X7_deliver P V Fm kg) T (fF_X7_deliver P V Fm kg)) := by
  unfold fE_X6_deliver fR_X6_deliver fR_X7_deliver fF_X7_deliver fC_X6_deliver fG_X6_deliver fn_X6_deliver fP_X7_deliver fV_X7_deliver
  have hg := h.1.2.2
  have hm := hg.m3
  have e3 : C 3 = P 3 := ag_c h.1.1 (by decide) (by decide)
  have e7 : C 7 = P 7 := ag_c h.1.1 (by decide) (by decide)
  by_cases h1 : fR_X7_in kg 0 100000 = 0
  · simp only [cA_p h1, if_pos h1, if_neg Nat.one_ne_zero]
    exact Out_err (by decide) rfl h
  simp only [cA_q h1, if_neg h1, if_true, e3]
  by_cases h2 : P 3 + kg ≤ 100000
  · simp only [if_pos h2]
    obtain ⟨l1, l2⟩ := in_nat (n := 100000) (by decide) rfl (by decide) h1
    obtain ⟨S, s1, s2⟩ := hg.s3
    have h5 : S + kg.toNatClampNeg ≤ 100000 := by
      rw [s2, l1, nI_add] at h2
      exact (nI_leI (b := 100000) (by omega) (by omega)).mp h2
    have fr : ∀ x, x ≠ 3 → x ≠ 7 → upd (upd P 3 (P 3 + kg)) 7 (upd P 3 (P 3 + kg) 7 + kg) x = P x := fun x a b => by rw [upd_n b, upd_n a]
    have v3 : upd (upd P 3 (P 3 + kg)) 7 (upd P 3 (P 3 + kg) 7 + kg) 3 = P 3 + kg := by rw [upd_n (by omega), upd_s]
    have ha : Ag (ns P) (np P) (nc P) (upd (upd C 3 (P 3 + kg)) 7 (upd C 3 (P 3 + kg) 7 + kg)) (upd (upd P 3 (P 3 + kg)) 7 (upd P 3 (P 3 + kg) 7 + kg)) := ag_u (ag_u h.1.1 rfl) (by rw [upd_n (by omega), upd_n (by omega), e7])
    refine Out_done h (ag_c ha (by decide) (by decide)) ⟨?_, ?_, ?_⟩
    · rw [ns_c (fr 1 (by omega) (by omega)), np_c (fr 2 (by omega) (by omega))]
      exact ag_cc (fun q' hq' => nc_c (fr _ (by omega) (by omega))) ha
    · rw [fr 5 (by omega) (by omega), h.1.2.1]
      exact (cs_c (fr _ (by omega) (by omega)) (fr _ (by omega) (by omega)) (fr _ (by omega) (by omega))).symm
    · exact Good_mod hg (fun x hx => fr x (by omega) (by omega)) (fun i k hi hk => fr _ (by omega) (by omega)) (fun q hq => gP_f (fr _ (by omega) (by omega)) (fr _ (by omega) (by omega)) (fun j hj => fr _ (by omega) (by omega)) (Nat.le_refl _) (hg.gP hq)) (fun q hq => ⟨fr _ (by omega) (by omega), fr _ (by omega) (by omega)⟩) ⟨S + kg.toNatClampNeg, h5, by rw [v3, s2, ← nI_add, ← l1]⟩ (by rw [fr 4 (by omega) (by omega)]; exact hg.s4) (limP_c (fun r hr => fr _ (by omega) (by omega)) hg.lim)
  · simp only [if_neg h2]
    exact Out_err (by decide) rfl h
