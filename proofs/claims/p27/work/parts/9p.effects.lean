/-! What each call does, in pages. -/
def svQ (Q : Nat → Nat → Int32) (n : Nat) (P : Nat → Int32) : Nat → Nat → Int32 := fun i => if i = svN n then P else if n < 4 then Q i else Q (i + 1)
theorem Sd_done {C C' P P' : Nat → Int32} {G Q : Nat → Nat → Int32} {n : Nat} (h : Sd C G n P Q) (hC : Cg C' P') : Sd C' (svL G n C) (svN n + 1) P' (svQ Q n P) := by
  obtain ⟨h1, h4, hG⟩ := h
  refine ⟨hC, by unfold svN; split <;> omega, fun i hi => ?_⟩
  unfold svL upN svQ
  by_cases h : i = svN n
  · rw [if_pos h, if_pos h]
    exact Cg.copy h1
  · rw [if_neg h, if_neg h]
    by_cases h5 : n < 4
    · rw [if_pos h5, if_pos h5]
      have e : svN n = n := by unfold svN; rw [if_pos h5]
      exact hG i (by omega)
    · rw [if_neg h5, if_neg h5]
      have e : svN n = 3 := by unfold svN; rw [if_neg h5]
      have h6 : rotL G i = G (i + 1) := by unfold rotL; rw [if_neg (by omega)]
      rw [h6]
      exact hG (i + 1) (by omega)
theorem svQ_top {Q : Nat → Nat → Int32} {n : Nat} {P : Nat → Int32} : svQ Q n P (svN n + 1 - 1) = P := by
  unfold svQ
  rw [if_pos (by omega)]
theorem svN_le {n : Nat} : svN n + 1 ≤ 4 := by unfold svN; split <;> omega
theorem dumR {C P : Nat → Int32} {G : Nat → Nat → Int32} (h : Cg C P) : Rel C G 0 (fun _ => 0) (fun _ => 0) P (fun _ => 0) (fun _ => 0) (fun _ => 0) := ⟨h, ⟨rfl, by decide⟩, rfl, fun i hi => absurd hi (by omega), ⟨rfl, by decide⟩, ⟨rfl, by decide⟩, rfl, fun _ _ => rfl⟩
theorem in_ok {x a b : Nat} {A B : Int32} (hA : A = nI a) (hB : B = nI b) (h1 : a ≤ x) (h2 : x ≤ b) (h3 : b < 2 ^ 31) : ¬ fR_X7_in (nI x) A B = 0 := by
  subst hA hB
  intro h
  rcases in_0 h with h4 | h4
  · exact nI_nlt h1 (by omega) h4
  · exact nI_nlt h2 (by omega) h4
theorem isPlow_ok {P : Nat → Int32} {q : Nat} (hN : okN P) (hq : q < np P) : ¬ fR_X7_isPlow P (nI q) = 0 := by
  have := hN.2.2.2
  unfold fR_X7_isPlow
  rw [hN.2.2.1]
  obtain ⟨m, hm⟩ : ∃ m, np P = m + 1 := ⟨np P - 1, by omega⟩
  rw [hm, nI_pred]
  exact in_ok rfl rfl (Nat.zero_le _) (by omega) (by omega)
theorem isStreet_ok {P : Nat → Int32} {q : Nat} (hN : okN P) (hq : q < ns P) : ¬ fR_X7_isStreet P (nI q) = 0 := by
  have := hN.2.1
  unfold fR_X7_isStreet
  rw [hN.1]
  obtain ⟨m, hm⟩ : ∃ m, ns P = m + 1 := ⟨ns P - 1, by omega⟩
  rw [hm, nI_pred]
  exact in_ok rfl rfl (Nat.zero_le _) (by omega) (by omega)
theorem addS_1 (n : Nat) : nI n + 1 - 1 = nI n := Int32.add_sub_cancel _ _
/-- addStreet -/
def sP_street (P : Nat → Int32) (L p : Nat) : Nat → Int32 := upd (fP_X3_begin P (ns P) (nI L) (nI p)) 1 (nI (ns P + 1))
theorem E_addStreet {C P : Nat → Int32} {G Q : Nat → Nat → Int32} {n L p : Nat} (hL : 10 ≤ L ∧ L ≤ 2000) (hp : p ≤ 2) (hs : ns P < 20) (h : Sd C G n P Q) : ans (fE_X6_addStreet C G n (nI L) (nI p)) (fR_X6_addStreet C G n (nI L) (nI p)) = nI (ns P) ∧ fn_X6_addStreet C G n (nI L) (nI p) = svN n + 1 ∧ Sd (fC_X6_addStreet C G n (nI L) (nI p)) (fG_X6_addStreet C G n (nI L) (nI p)) (svN n + 1) (sP_street P L p) (svQ Q n P) := by
  have i1 : ¬ fR_X7_in (nI L) 10 2000 = 0 := in_ok (a := 10) (b := 2000) rfl rfl hL.1 hL.2 (by decide)
  have i2 : ¬ fR_X7_in (nI p) 0 2 = 0 := in_ok (a := 0) (b := 2) rfl rfl (Nat.zero_le _) hp (by decide)
  have e := ns_ag h.1.1
  have hN := h.1.2.2.oN
  have K : Cg (fC_X6_addStreet C G 0 (nI L) (nI p)) (fP_X7_addStreet P (fun _ => 0) (fun _ => 0) (nI L) (nI p)) := (M_addStreet (dumR (G := G) h.1) (len := nI L) (pri := nI p)).2.2.1
  unfold fC_X6_addStreet fP_X7_addStreet at K
  simp only [cA_q i1, cA_q i2, if_neg i1, if_neg i2, if_true, e, if_pos hs, if_neg (show ¬ ns P = 20 by omega), stL74P] at K
  have e1 : fP_X3_begin P (ns P) (nI L) (nI p) 1 + 1 = nI (ns P + 1) := by rw [begS_f (by omega), hN.1, nI_1]
  rw [e1] at K
  unfold fE_X6_addStreet fR_X6_addStreet fC_X6_addStreet fG_X6_addStreet fn_X6_addStreet
  simp only [cA_q i1, cA_q i2, if_true, e, if_pos hs]
  refine ⟨?_, rfl, Sd_done h K⟩
  rw [ans_0, upd_s, begS_f (by omega), h.1.okN.1, e, addS_1]
theorem E_addStreet_f {C P : Nat → Int32} {G Q : Nat → Nat → Int32} {n L p : Nat} (hL : 10 ≤ L ∧ L ≤ 2000) (hp : p ≤ 2) (hs : ns P = 20) (h : Sd C G n P Q) : ans (fE_X6_addStreet C G n (nI L) (nI p)) (fR_X6_addStreet C G n (nI L) (nI p)) = -90200 ∧ fn_X6_addStreet C G n (nI L) (nI p) = n ∧ Sd (fC_X6_addStreet C G n (nI L) (nI p)) (fG_X6_addStreet C G n (nI L) (nI p)) n P Q := by
  have i1 : ¬ fR_X7_in (nI L) 10 2000 = 0 := in_ok (a := 10) (b := 2000) rfl rfl hL.1 hL.2 (by decide)
  have i2 : ¬ fR_X7_in (nI p) 0 2 = 0 := in_ok (a := 0) (b := 2) rfl rfl (Nat.zero_le _) hp (by decide)
  have e := ns_ag h.1.1
  unfold fE_X6_addStreet fR_X6_addStreet fC_X6_addStreet fG_X6_addStreet fn_X6_addStreet
  simp only [cA_q i1, cA_q i2, if_true, e, if_neg (show ¬ ns P < 20 by omega)]
  exact ⟨rfl, trivial, h⟩
/-- addPlow -/
theorem E_addPlow {C P : Nat → Int32} {G Q : Nat → Nat → Int32} {n s c : Nat} (hs : 100 ≤ s ∧ s ≤ 5000) (hc : c ≤ 5000) (hp : np P < 3) (h : Sd C G n P Q) : ans (fE_X6_addPlow C G n (nI s) (nI c)) (fR_X6_addPlow C G n (nI s) (nI c)) = nI (np P) ∧ fn_X6_addPlow C G n (nI s) (nI c) = svN n + 1 ∧ Sd (fC_X6_addPlow C G n (nI s) (nI c)) (fG_X6_addPlow C G n (nI s) (nI c)) (svN n + 1) (fP_X7_addPlow_L76 (nI s) (nI c) 20 (169 + 20 * np P) 0 P (fun _ => 0) (fun _ => 0)) (svQ Q n P) := by
  have i1 : ¬ fR_X7_in (nI s) 100 5000 = 0 := in_ok (a := 100) (b := 5000) rfl rfl hs.1 hs.2 (by decide)
  have i2 : ¬ fR_X7_in (nI c) 0 5000 = 0 := in_ok (a := 0) (b := 5000) rfl rfl (Nat.zero_le _) hc (by decide)
  have e := np_ag h.1.1
  have K : Cg (fC_X6_addPlow C G 0 (nI s) (nI c)) (fP_X7_addPlow P (fun _ => 0) (fun _ => 0) (nI s) (nI c)) := (M_addPlow (dumR (G := G) h.1) (spd := nI s) (cap := nI c)).2.2.1
  unfold fC_X6_addPlow fP_X7_addPlow at K
  simp only [cA_q i1, cA_q i2, if_neg i1, if_neg i2, if_true, e, if_pos hp, if_neg (show ¬ np P = 3 by omega)] at K
  have eP : ∀ V F V' F' : Nat → Int32, fP_X7_addPlow_L76 (nI s) (nI c) 20 (169 + 20 * np P) 0 P V F = fP_X7_addPlow_L76 (nI s) (nI c) 20 (169 + 20 * np P) 0 P V' F' := fun V F V' F' => funext (fun x => by rw [plL76P, plL76P])
  rw [eP _ _ (fun _ => 0) (fun _ => 0)] at K
  unfold fE_X6_addPlow fR_X6_addPlow fC_X6_addPlow fG_X6_addPlow fn_X6_addPlow
  simp only [cA_q i1, cA_q i2, if_true, e, if_pos hp]
  refine ⟨?_, rfl, Sd_done h K⟩
  rw [ans_0, upd_s, begP_f (by omega), h.1.okN.2.2.1, e, addS_1]
theorem E_addPlow_f {C P : Nat → Int32} {G Q : Nat → Nat → Int32} {n s c : Nat} (hs : 100 ≤ s ∧ s ≤ 5000) (hc : c ≤ 5000) (hp : np P = 3) (h : Sd C G n P Q) : ans (fE_X6_addPlow C G n (nI s) (nI c)) (fR_X6_addPlow C G n (nI s) (nI c)) = -90200 ∧ fn_X6_addPlow C G n (nI s) (nI c) = n ∧ Sd (fC_X6_addPlow C G n (nI s) (nI c)) (fG_X6_addPlow C G n (nI s) (nI c)) n P Q := by
  have i1 : ¬ fR_X7_in (nI s) 100 5000 = 0 := in_ok (a := 100) (b := 5000) rfl rfl hs.1 hs.2 (by decide)
  have i2 : ¬ fR_X7_in (nI c) 0 5000 = 0 := in_ok (a := 0) (b := 5000) rfl rfl (Nat.zero_le _) hc (by decide)
  have e := np_ag h.1.1
  unfold fE_X6_addPlow fR_X6_addPlow fC_X6_addPlow fG_X6_addPlow fn_X6_addPlow
  simp only [cA_q i1, cA_q i2, if_true, e, if_neg (show ¬ np P < 3 by omega)]
  exact ⟨rfl, trivial, h⟩
/-- addStop -/
def sP_stop (P : Nat → Int32) (q s : Nat) : Nat → Int32 := upd (upd P (169 + 20 * q + 8 + nc P q) (nI s)) (169 + 20 * q + 3) (nI (nc P q + 1))
theorem E_addStop {C P : Nat → Int32} {G Q : Nat → Nat → Int32} {n q s : Nat} (hq : q < np P) (hs : s < ns P) (hc : nc P q < 12) (h : Sd C G n P Q) : ans (fE_X6_addStop C G n (nI q) (nI s)) (fR_X6_addStop C G n (nI q) (nI s)) = nI (nc P q + 1) ∧ fn_X6_addStop C G n (nI q) (nI s) = svN n + 1 ∧ Sd (fC_X6_addStop C G n (nI q) (nI s)) (fG_X6_addStop C G n (nI q) (nI s)) (svN n + 1) (sP_stop P q s) (svQ Q n P) := by
  have hg := h.1.2.2
  have hN := hg.oN
  have hm := hg.m3
  have i1 := isPlow_ok hN hq
  have i2 := isStreet_ok hN hs
  obtain ⟨c1, -, -⟩ := cP_q h.1 i1
  obtain ⟨c2, -, -⟩ := cS_q h.1 i2
  have eq := nI_clamp (n := q) (by omega)
  have en := nc_ag h.1.1 hq
  have hQ := (hg.gP hq).1.1
  have h3 : ¬ fR_X7_ofPlow P q 3 = 12 := by
    unfold fR_X7_ofPlow
    rw [hQ.1]
    exact fun h2 => absurd ((nI_eq (a := nc P q) (b := 12) (by omega) (by decide)).mp h2) (by omega)
  have K : Cg (fC_X6_addStop C G 0 (nI q) (nI s)) (fP_X7_addStop P (fun _ => 0) (fun _ => 0) (nI q) (nI s)) := (M_addStop (dumR (G := G) h.1) (pl := nI q) (str := nI s)).2.2.1
  unfold fC_X6_addStop fP_X7_addStop at K
  simp only [c1, c2, if_neg i1, if_neg i2, if_true, eq, en, if_pos hc, if_neg h3] at K
  have e1 : upd P (169 + 20 * q + 8 + nc P q) (nI s) (169 + 20 * q + 3) + 1 = nI (nc P q + 1) := by rw [upd_n (by omega), hQ.1, nI_1]
  rw [e1] at K
  unfold fE_X6_addStop fR_X6_addStop fC_X6_addStop fG_X6_addStop fn_X6_addStop
  simp only [c1, c2, if_true, eq, en, if_pos hc]
  refine ⟨?_, rfl, Sd_done h K⟩
  rw [ans_0, upd_s, upd_n (by omega), ag_p h.1.1 hq 3 (by omega), hQ.1, nI_1]
theorem E_addStop_f {C P : Nat → Int32} {G Q : Nat → Nat → Int32} {n q s : Nat} (hq : q < np P) (hs : s < ns P) (hc : nc P q = 12) (h : Sd C G n P Q) : ans (fE_X6_addStop C G n (nI q) (nI s)) (fR_X6_addStop C G n (nI q) (nI s)) = -90200 ∧ fn_X6_addStop C G n (nI q) (nI s) = n ∧ Sd (fC_X6_addStop C G n (nI q) (nI s)) (fG_X6_addStop C G n (nI q) (nI s)) n P Q := by
  have hg := h.1.2.2
  have hN := hg.oN
  have hm := hg.m3
  have i1 := isPlow_ok hN hq
  have i2 := isStreet_ok hN hs
  obtain ⟨c1, -, -⟩ := cP_q h.1 i1
  obtain ⟨c2, -, -⟩ := cS_q h.1 i2
  have eq := nI_clamp (n := q) (by omega)
  have en := nc_ag h.1.1 hq
  unfold fE_X6_addStop fR_X6_addStop fC_X6_addStop fG_X6_addStop fn_X6_addStop
  simp only [c1, c2, if_true, eq, en, if_neg (show ¬ nc P q < 12 by omega)]
  exact ⟨rfl, trivial, h⟩
/-- clearRoute -/
def sP_clear (P : Nat → Int32) (q : Nat) : Nat → Int32 := upd (upd (upd P (169 + 20 * q + 3) 0) (169 + 20 * q + 4) 0) (169 + 20 * q + 5) 0
theorem E_clearRoute {C P : Nat → Int32} {G Q : Nat → Nat → Int32} {n q : Nat} (hq : q < np P) (h : Sd C G n P Q) : ans (fE_X6_clearRoute C G n (nI q)) (fR_X6_clearRoute C G n (nI q)) = nI (nc P q) ∧ fn_X6_clearRoute C G n (nI q) = svN n + 1 ∧ Sd (fC_X6_clearRoute C G n (nI q)) (fG_X6_clearRoute C G n (nI q)) (svN n + 1) (sP_clear P q) (svQ Q n P) := by
  have hg := h.1.2.2
  have hN := hg.oN
  have hm := hg.m3
  have i1 := isPlow_ok hN hq
  obtain ⟨c1, -, -⟩ := cP_q h.1 i1
  have eq := nI_clamp (n := q) (by omega)
  have hQ := (hg.gP hq).1.1
  have K : Cg (fC_X6_clearRoute C G 0 (nI q)) (fP_X7_clearRoute P (fun _ => 0) (fun _ => 0) (nI q)) := (M_clearRoute (dumR (G := G) h.1) (pl := nI q)).2.2.1
  unfold fC_X6_clearRoute fP_X7_clearRoute at K
  simp only [c1, if_neg i1, if_true, eq] at K
  unfold fE_X6_clearRoute fR_X6_clearRoute fC_X6_clearRoute fG_X6_clearRoute fn_X6_clearRoute
  simp only [c1, if_true, eq]
  refine ⟨?_, rfl, Sd_done h K⟩
  show C (169 + 20 * q + 3) = _
  rw [ag_p h.1.1 hq 3 (by omega), hQ.1]
/-- exchange -/
theorem isPair_ok {P : Nat → Int32} {q k : Nat} (hQ : okQ P q) (hk : k + 1 < nc P q) : ¬ fR_X7_isPair P q (nI k) = 0 := by
  have h12 := hQ.2
  unfold fR_X7_isPair fR_X7_ofPlow
  rw [hQ.1]
  obtain ⟨m, hm⟩ : ∃ m, nc P q = m + 2 := ⟨nc P q - 2, by omega⟩
  rw [hm, show nI (m + 2) - 2 = nI m from pk_sub (a := m + 2) (b := 2) (by omega)]
  exact in_ok rfl rfl (Nat.zero_le _) (by omega) (by omega)
theorem E_exchange {C P : Nat → Int32} {G Q : Nat → Nat → Int32} {n q k : Nat} (hq : q < np P) (hk : k + 1 < nc P q) (hb : fR_X7_isBusy P q (nI k) = 0) (h : Sd C G n P Q) : ans (fE_X6_exchange C G n (nI q) (nI k)) (fR_X6_exchange C G n (nI q) (nI k)) = P (169 + 20 * q + 8 + (k + 1)) ∧ fn_X6_exchange C G n (nI q) (nI k) = svN n + 1 ∧ Sd (fC_X6_exchange C G n (nI q) (nI k)) (fG_X6_exchange C G n (nI q) (nI k)) (svN n + 1) (fP_X7_exchanges P q k) (svQ Q n P) := by
  have hg := h.1.2.2
  have hN := hg.oN
  have hm := hg.m3
  have i1 := isPlow_ok hN hq
  obtain ⟨c1, -, -⟩ := cP_q h.1 i1
  have eq := nI_clamp (n := q) (by omega)
  have hgq := hg.gP hq
  have h12 := hgq.1.1.2
  have ek := nI_clamp (n := k) (by omega)
  have hq' : q < np C := by rw [np_ag h.1.1]; exact hq
  have c2 : fE_X6_checkIndex (nI k) (C (169 + 20 * q + 3) - 1) = 0 := by rw [cX_e (h.1.okQ q hq'), pair_ag h.1.1 hq, if_neg (isPair_ok hgq.1.1 hk)]
  obtain ⟨g1, g2, -⟩ := hgq.2 (by omega)
  have eb : fR_X1_isBusyAtPair C q (nI k) = 0 := by
    rw [busy_ag h.1.1 hq, busy_eq (by omega) (by omega) g1]
    exact hb
  unfold fE_X6_exchange fR_X6_exchange fC_X6_exchange fG_X6_exchange fn_X6_exchange
  simp only [c1, c2, eb, if_true, eq, ek]
  refine ⟨?_, rfl, Sd_done h (Cg_exg h.1 hq hk)⟩
  have e := ag_p (exg_ag h.1.1 hq hk) hq (8 + k) (by omega)
  rw [show 169 + 20 * q + (8 + k) = 169 + 20 * q + 8 + k by omega] at e
  rw [ans_0, swap_eq, e, exg_v, if_neg (by omega), if_pos rfl]
theorem E_exchange_i {C P : Nat → Int32} {G Q : Nat → Nat → Int32} {n q k : Nat} (hq : q < np P) (hk : nc P q ≤ k + 1) (hk2 : k < 100) (h : Sd C G n P Q) : ans (fE_X6_exchange C G n (nI q) (nI k)) (fR_X6_exchange C G n (nI q) (nI k)) = -90300 ∧ fn_X6_exchange C G n (nI q) (nI k) = n ∧ Sd (fC_X6_exchange C G n (nI q) (nI k)) (fG_X6_exchange C G n (nI q) (nI k)) n P Q := by
  have hg := h.1.2.2
  have hN := hg.oN
  have hm := hg.m3
  have i1 := isPlow_ok hN hq
  obtain ⟨c1, -, -⟩ := cP_q h.1 i1
  have eq := nI_clamp (n := q) (by omega)
  have hgq := hg.gP hq
  have hq' : q < np C := by rw [np_ag h.1.1]; exact hq
  have c2 : fE_X6_checkIndex (nI k) (C (169 + 20 * q + 3) - 1) = 3 := by
    rw [cX_e (h.1.okQ q hq'), pair_ag h.1.1 hq]
    refine if_pos ?_
    by_cases hp : fR_X7_isPair P q (nI k) = 0
    · exact hp
    · have := (isPair_nn (by omega) hgq.1.1 hp).1
      omega
  unfold fE_X6_exchange fR_X6_exchange fC_X6_exchange fG_X6_exchange fn_X6_exchange
  simp only [c1, c2, if_true, eq, if_neg three0]
  exact ⟨rfl, trivial, h⟩
theorem E_exchange_b {C P : Nat → Int32} {G Q : Nat → Nat → Int32} {n q k : Nat} (hq : q < np P) (hk : k + 1 < nc P q) (hb : ¬ fR_X7_isBusy P q (nI k) = 0) (h : Sd C G n P Q) : ans (fE_X6_exchange C G n (nI q) (nI k)) (fR_X6_exchange C G n (nI q) (nI k)) = -90200 ∧ fn_X6_exchange C G n (nI q) (nI k) = n ∧ Sd (fC_X6_exchange C G n (nI q) (nI k)) (fG_X6_exchange C G n (nI q) (nI k)) n P Q := by
  have hg := h.1.2.2
  have hN := hg.oN
  have hm := hg.m3
  have i1 := isPlow_ok hN hq
  obtain ⟨c1, -, -⟩ := cP_q h.1 i1
  have eq := nI_clamp (n := q) (by omega)
  have hgq := hg.gP hq
  have h12 := hgq.1.1.2
  have hq' : q < np C := by rw [np_ag h.1.1]; exact hq
  have c2 : fE_X6_checkIndex (nI k) (C (169 + 20 * q + 3) - 1) = 0 := by rw [cX_e (h.1.okQ q hq'), pair_ag h.1.1 hq, if_neg (isPair_ok hgq.1.1 hk)]
  obtain ⟨g1, g2, -⟩ := hgq.2 (by omega)
  have eb : ¬ fR_X1_isBusyAtPair C q (nI k) = 0 := by
    rw [busy_ag h.1.1 hq, busy_eq (by omega) (by omega) g1]
    exact hb
  unfold fE_X6_exchange fR_X6_exchange fC_X6_exchange fG_X6_exchange fn_X6_exchange
  simp only [c1, c2, if_neg eb, if_true, eq]
  exact ⟨rfl, trivial, h⟩
/-- setTerms, setSpread, deliver -/
theorem E_setTerms {C P : Nat → Int32} {G Q : Nat → Nat → Int32} {n t a b c : Nat} (ht : t ≤ 2) (ha : 1 ≤ a ∧ a ≤ 200) (hb : 1 ≤ b ∧ b ≤ 48) (hc : c ≤ 1000) (h : Sd C G n P Q) : ans (fE_X6_setTerms C G n (nI t) (nI a) (nI b) (nI c)) (fR_X6_setTerms C G n (nI t) (nI a) (nI b) (nI c)) = P (229 + 4 * t + 0) ∧ fn_X6_setTerms C G n (nI t) (nI a) (nI b) (nI c) = svN n + 1 ∧ Sd (fC_X6_setTerms C G n (nI t) (nI a) (nI b) (nI c)) (fG_X6_setTerms C G n (nI t) (nI a) (nI b) (nI c)) (svN n + 1) (fP_X7_layTerms P t (nI a) (nI b) (nI c)) (svQ Q n P) := by
  have i1 : ¬ fR_X7_in (nI t) 0 2 = 0 := in_ok (a := 0) (b := 2) rfl rfl (Nat.zero_le _) ht (by decide)
  have i2 : ¬ fR_X7_in (nI a) 1 200 = 0 := in_ok (a := 1) (b := 200) rfl rfl ha.1 ha.2 (by decide)
  have i3 : ¬ fR_X7_in (nI b) 1 48 = 0 := in_ok (a := 1) (b := 48) rfl rfl hb.1 hb.2 (by decide)
  have i4 : ¬ fR_X7_in (nI c) 0 1000 = 0 := in_ok (a := 0) (b := 1000) rfl rfl (Nat.zero_le _) hc (by decide)
  have et := nI_clamp (n := t) (by omega)
  have K : Cg (fC_X6_setTerms C G 0 (nI t) (nI a) (nI b) (nI c)) (fP_X7_setTerms P (fun _ => 0) (fun _ => 0) (nI t) (nI a) (nI b) (nI c)) := (M_setTerms (dumR (G := G) h.1) (pri := nI t) (tr := nI a) (li := nI b) (cr := nI c)).2.2.1
  unfold fC_X6_setTerms fP_X7_setTerms at K
  simp only [cI3_q i1, cA_q i2, cA_q i3, cA_q i4, if_neg i1, if_neg i2, if_neg i3, if_neg i4, if_true, et] at K
  unfold fE_X6_setTerms fR_X6_setTerms fC_X6_setTerms fG_X6_setTerms fn_X6_setTerms
  simp only [cI3_q i1, cA_q i2, cA_q i3, cA_q i4, if_true, et]
  refine ⟨?_, rfl, Sd_done h K⟩
  exact ag_t h.1.1 (r := t) (by omega) 0 (by omega)
theorem E_setSpread {C P : Nat → Int32} {G Q : Nat → Nat → Int32} {n a : Nat} (ha : a ≤ 50) (h : Sd C G n P Q) : ans (fE_X6_setSpread C G n (nI a)) (fR_X6_setSpread C G n (nI a)) = P 4 ∧ fn_X6_setSpread C G n (nI a) = svN n + 1 ∧ Sd (fC_X6_setSpread C G n (nI a)) (fG_X6_setSpread C G n (nI a)) (svN n + 1) (upd P 4 (nI a)) (svQ Q n P) := by
  have i1 : ¬ fR_X7_in (nI a) 0 50 = 0 := in_ok (a := 0) (b := 50) rfl rfl (Nat.zero_le _) ha (by decide)
  have K : Cg (fC_X6_setSpread C G 0 (nI a)) (fP_X7_setSpread P (fun _ => 0) (fun _ => 0) (nI a)) := (M_setSpread (dumR (G := G) h.1) (sp := nI a)).2.2.1
  unfold fC_X6_setSpread fP_X7_setSpread at K
  simp only [cA_q i1, if_neg i1, if_true] at K
  unfold fE_X6_setSpread fR_X6_setSpread fC_X6_setSpread fG_X6_setSpread fn_X6_setSpread
  simp only [cA_q i1, if_true]
  exact ⟨ag_c h.1.1 (by decide) (by decide), rfl, Sd_done h K⟩
def sP_deliver (P : Nat → Int32) (k : Nat) : Nat → Int32 := upd (upd P 3 (P 3 + nI k)) 7 (P 7 + nI k)
theorem E_deliver {C P : Nat → Int32} {G Q : Nat → Nat → Int32} {n k : Nat} (hk : k ≤ 100000) (hs : P 3 + nI k ≤ 100000) (h : Sd C G n P Q) : ans (fE_X6_deliver C G n (nI k)) (fR_X6_deliver C G n (nI k)) = P 3 + nI k ∧ fn_X6_deliver C G n (nI k) = svN n + 1 ∧ Sd (fC_X6_deliver C G n (nI k)) (fG_X6_deliver C G n (nI k)) (svN n + 1) (sP_deliver P k) (svQ Q n P) := by
  have i1 : ¬ fR_X7_in (nI k) 0 100000 = 0 := in_ok (a := 0) (b := 100000) rfl rfl (Nat.zero_le _) hk (by decide)
  have e3 : C 3 = P 3 := ag_c h.1.1 (by decide) (by decide)
  have K : Cg (fC_X6_deliver C G 0 (nI k)) (fP_X7_deliver P (fun _ => 0) (fun _ => 0) (nI k)) := (M_deliver (dumR (G := G) h.1) (kg := nI k)).2.2.1
  unfold fC_X6_deliver fP_X7_deliver at K
  simp only [cA_q i1, if_neg i1, if_true, e3, if_pos hs] at K
  have e7 : upd P 3 (P 3 + nI k) 7 = P 7 := upd_n (by decide)
  rw [e7] at K
  unfold fE_X6_deliver fR_X6_deliver fC_X6_deliver fG_X6_deliver fn_X6_deliver
  simp only [cA_q i1, if_true, e3, if_pos hs]
  refine ⟨?_, rfl, Sd_done h K⟩
  rw [ans_0, upd_n (by decide), upd_s]
theorem E_deliver_f {C P : Nat → Int32} {G Q : Nat → Nat → Int32} {n k : Nat} (hk : k ≤ 100000) (hs : ¬ P 3 + nI k ≤ 100000) (h : Sd C G n P Q) : ans (fE_X6_deliver C G n (nI k)) (fR_X6_deliver C G n (nI k)) = -90200 ∧ fn_X6_deliver C G n (nI k) = n ∧ Sd (fC_X6_deliver C G n (nI k)) (fG_X6_deliver C G n (nI k)) n P Q := by
  have i1 : ¬ fR_X7_in (nI k) 0 100000 = 0 := in_ok (a := 0) (b := 100000) rfl rfl (Nat.zero_le _) hk (by decide)
  have e3 : C 3 = P 3 := ag_c h.1.1 (by decide) (by decide)
  unfold fE_X6_deliver fR_X6_deliver fC_X6_deliver fG_X6_deliver fn_X6_deliver
  simp only [cA_q i1, if_true, e3, if_neg hs]
  exact ⟨rfl, trivial, h⟩
/-- run -/
theorem E_run {C P : Nat → Int32} {G Q : Nat → Nat → Int32} {n k z : Nat} {T S : Int32} (hw : ¬ fR_X7_isWeather T S = 0) (hk : k ≤ 100) (h0 : P 0 = nI z) (hz : z + k ≤ 2000) (h : Sd C G n P Q) : ans (fE_X6_run C G n T S (nI k)) (fR_X6_run C G n T S (nI k)) = fR_X7_hours P T S k ∧ fn_X6_run C G n T S (nI k) = svN n + 1 ∧ Sd (fC_X6_run C G n T S (nI k)) (fG_X6_run C G n T S (nI k)) (svN n + 1) (fP_X7_hours P T S k) (svQ Q n P) := by
  obtain ⟨c1, ht, sz, hs, es⟩ := cW_q hw
  have i2 : ¬ fR_X7_in (nI k) 0 100 = 0 := in_ok (a := 0) (b := 100) rfl rfl (Nat.zero_le _) hk (by decide)
  have e0 : C 0 = P 0 := ag_c h.1.1 (by decide) (by decide)
  have ek := nI_clamp (n := k) (by omega)
  have h3 : C 0 + nI k ≤ 2000 := by
    rw [e0, h0, nI_add]
    exact nI_le (b := 2000) (by omega) (by decide)
  unfold fE_X6_run fR_X6_run fC_X6_run fG_X6_run fn_X6_run
  simp only [c1, cA_q i2, cH_q h3, if_true, ek]
  obtain ⟨a1, a2, -⟩ := Cg_hours h.1 ht hs h0 hz
  rw [es]
  exact ⟨a2, rfl, Sd_done h a1⟩
theorem E_run_f {C P : Nat → Int32} {G Q : Nat → Nat → Int32} {n k z : Nat} {T S : Int32} (hw : ¬ fR_X7_isWeather T S = 0) (hk : k ≤ 100) (h0 : P 0 = nI z) (hz2 : z ≤ 2000) (hz : 2000 < z + k) (h : Sd C G n P Q) : ans (fE_X6_run C G n T S (nI k)) (fR_X6_run C G n T S (nI k)) = -90200 ∧ fn_X6_run C G n T S (nI k) = n ∧ Sd (fC_X6_run C G n T S (nI k)) (fG_X6_run C G n T S (nI k)) n P Q := by
  obtain ⟨c1, ht, sz, hs, es⟩ := cW_q hw
  have i2 : ¬ fR_X7_in (nI k) 0 100 = 0 := in_ok (a := 0) (b := 100) rfl rfl (Nat.zero_le _) hk (by decide)
  have e0 : C 0 = P 0 := ag_c h.1.1 (by decide) (by decide)
  have h3 : ¬ C 0 + nI k ≤ 2000 := by
    rw [e0, h0, nI_add]
    exact nI_ge (a := 2000) (by omega) (by omega)
  unfold fE_X6_run fR_X6_run fC_X6_run fG_X6_run fn_X6_run
  simp only [c1, cA_q i2, cH_p h3, if_true, if_neg two0]
  exact ⟨rfl, trivial, h⟩
/-- undo -/
theorem E_undo {C P : Nat → Int32} {G Q : Nat → Nat → Int32} {n : Nat} (hn : 0 < n) (h : Sd C G n P Q) : ans (fE_X6_undo C G n) (fR_X6_undo C G n) = nI (n - 1) ∧ fn_X6_undo C G n = n - 1 ∧ Sd (fC_X6_undo C G n) G (n - 1) (Q (n - 1)) Q := by
  have h4 := h.2.1
  unfold fE_X6_undo fR_X6_undo fC_X6_undo fn_X6_undo
  simp only [if_pos hn]
  exact ⟨rfl, rfl, Cg.copy (h.2.2 (n - 1) (by omega)), by omega, fun i hi => h.2.2 i (by omega)⟩
theorem E_undo_f {C P : Nat → Int32} {G Q : Nat → Nat → Int32} (h : Sd C G 0 P Q) : ans (fE_X6_undo C G 0) (fR_X6_undo C G 0) = -90200 ∧ fn_X6_undo C G 0 = 0 ∧ Sd (fC_X6_undo C G 0) G 0 P Q := by
  unfold fE_X6_undo fR_X6_undo fC_X6_undo fn_X6_undo
  exact ⟨rfl, rfl, h⟩
