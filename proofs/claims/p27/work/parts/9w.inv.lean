/-! What holds of a page between calls, and that every call keeps it. -/
def Iv (h : Nat) (P : Nat → Int32) : Prop := Cg P P ∧ h ≤ 2000 ∧ ∃ sp, Jv (ns P) (np P) (nc P) sp h P
theorem Iv_mk {h : Nat} {P : Nat → Int32} {sp : Nat → Nat} (hC : Cg P P) (hh : h ≤ 2000) (h0 : P 0 = nI h) (hsp : ∀ p, p < np P → P (169 + 20 * p + 0) = nI (sp p) ∧ sp p ≤ 5000) (hS : ∀ i, i < ns P → (∃ L, 10 ≤ L ∧ L ≤ 2000 ∧ P (9 + 8 * i + 0) = nI L) ∧ Sv h P i) (hP : ∀ p, p < np P → Pg P p ∧ Pv (sp p) h P p) (hc : ∀ r, r < 3 → ∃ k, k ≤ 1000 ∧ P (229 + 4 * r + 2) = nI k) (hs : P 8 + P 3 + ldS P (np P) = P 7) (h6 : ∃ k, k ≤ 20000 * h ∧ P 6 = nI k) : Iv h P :=
  ⟨hC, hh, sp, ⟨hC.2.2.1, fun p hp => (hC.2.2.2.1 p hp).1, hsp, fun i hi => (hS i hi).1, hc, fun p hp => (hP p hp).1⟩, h0, fun i hi => (hS i hi).2, fun p hp => (hP p hp).2, hs, h6⟩
def Sd0 (P : Nat → Int32) : Prop := Sd P (fun _ => P) 0 P (fun _ => P)
theorem Sd0_of {P : Nat → Int32} (h : Cg P P) : Sd0 P := ⟨h, by omega, fun i hi => absurd hi (by omega)⟩
theorem Sv_f {h : Nat} {X Y : Nat → Int32} {i : Nat} (h5 : Y (9 + 8 * i + 5) = X (9 + 8 * i + 5)) (h6 : Y (9 + 8 * i + 6) = X (9 + 8 * i + 6)) (h7 : Y (9 + 8 * i + 7) = X (9 + 8 * i + 7)) (hv : Sv h X i) : Sv h Y i := by
  unfold Sv
  rw [h5, h6, h7]
  exact hv
theorem Pv_f {s h : Nat} {X Y : Nat → Int32} {p : Nat} (h6 : Y (169 + 20 * p + 6) = X (169 + 20 * p + 6)) (h7 : Y (169 + 20 * p + 7) = X (169 + 20 * p + 7)) (hv : Pv s h X p) : Pv s h Y p := by
  unfold Pv
  rw [h6, h7]
  exact hv
theorem Pg_g {X Y : Nat → Int32} {q : Nat} (h3 : 0 < nc X q → 0 < nc Y q) (h4 : Y (169 + 20 * q + 4) = X (169 + 20 * q + 4)) (h5 : Y (169 + 20 * q + 5) = X (169 + 20 * q + 5)) (h8 : ∀ g, 0 < g → g ≤ 2000 → X (169 + 20 * q + 5) = nI g → 0 < nc X q → Y (169 + 20 * q + 8 + pa X q) = X (169 + 20 * q + 8 + pa X q) ∧ Y (9 + 8 * rt X q (pa X q) + 0) = X (9 + 8 * rt X q (pa X q) + 0)) (h : Pg X q) : Pg Y q := by
  obtain ⟨g, g1, g2, g3⟩ := h
  have e4 : pa Y q = pa X q := pa_c h4
  refine ⟨g, g1, by rw [h5]; exact g2, fun h0 => ?_⟩
  obtain ⟨h1, L, l1, l2, l3⟩ := g3 h0
  obtain ⟨b1, b2⟩ := h8 g h0 g1 g2 h1
  have e5 : rt Y q (pa X q) = rt X q (pa X q) := rt_c b1
  exact ⟨h3 h1, L, l1, by rw [e4, e5, b2]; exact l2, l3⟩
theorem Iv.good {h : Nat} {P : Nat → Int32} (hI : Iv h P) : Good P := hI.1.2.2
theorem Iv_street {h L p : Nat} {P : Nat → Int32} (hI : Iv h P) (hL : 10 ≤ L ∧ L ≤ 2000) (hp : p ≤ 2) (hs : ns P < 20) : Iv h (sP_street P L p) ∧ ns (sP_street P L p) = ns P + 1 ∧ np (sP_street P L p) = np P := by
  have hC := (E_addStreet hL hp hs (Sd0_of hI.1)).2.2.1.self
  obtain ⟨hC0, hh, sp, hW, h0, hS, hP, hsl, h6⟩ := hI
  have hg := hC0.2.2
  have hm := hg.m3
  obtain ⟨v0, v1, v2, v3, v4, v5, v6, v7⟩ := begS_v (P := P) (i := ns P) (len := nI L) (pri := nI p)
  have fr : ∀ x, x ≠ 1 → ¬ (9 + 8 * ns P ≤ x ∧ x < 9 + 8 * ns P + 8) → sP_street P L p x = P x := fun x a b => by unfold sP_street; rw [upd_n a, begS_f b]
  have fb : ∀ k, sP_street P L p (9 + 8 * ns P + k) = fP_X3_begin P (ns P) (nI L) (nI p) (9 + 8 * ns P + k) := fun k => by unfold sP_street; rw [upd_n (by omega)]
  have e1 : ns (sP_street P L p) = ns P + 1 := by
    show (sP_street P L p 1).toNatClampNeg = _
    have : sP_street P L p 1 = nI (ns P + 1) := upd_s
    rw [this]
    exact nI_t (by omega)
  have e2 : np (sP_street P L p) = np P := np_c (fr 2 (by omega) (by omega))
  refine ⟨Iv_mk (sp := sp) hC hh (by rw [fr 0 (by omega) (by omega)]; exact h0) (fun q hq => ?_) (fun i hi => ?_) (fun q hq => ?_) (fun r hr => ?_) ?_ (by rw [fr 6 (by omega) (by omega)]; exact h6), e1, e2⟩
  · rw [e2] at hq
    rw [fr _ (by omega) (by omega)]
    exact hW.2.2.1 q hq
  · rw [e1] at hi
    by_cases e : i = ns P
    · subst e
      exact ⟨⟨L, hL.1, hL.2, by rw [fb, v0]⟩, ⟨0, by omega, by rw [fb, v5]; rfl⟩, 0, by omega, by rw [fb, v6]; rfl, fun _ => by rw [fb, v7], fun h => absurd h (by omega)⟩
    · have fi : ∀ k, k < 8 → sP_street P L p (9 + 8 * i + k) = P (9 + 8 * i + k) := fun k hk => fr _ (by omega) (by omega)
      refine ⟨by rw [fi 0 (by omega)]; exact hW.2.2.2.1 i (by omega), Sv_f (fi 5 (by omega)) (fi 6 (by omega)) (fi 7 (by omega)) (hS i (by omega))⟩
  · rw [e2] at hq
    refine ⟨Pg_g (fun h => by rw [nc_c (fr _ (by omega) (by omega))]; exact h) (fr _ (by omega) (by omega)) (fr _ (by omega) (by omega)) (fun g g0 g1 g2 hn => ?_) (hW.2.2.2.2.2 q hq), Pv_f (fr _ (by omega) (by omega)) (fr _ (by omega) (by omega)) (hP q hq)⟩
    obtain ⟨a1, a2, a3⟩ := (hg.gP hq).2 hn
    have a4 := (a3 _ a2).2
    exact ⟨fr _ (by omega) (by omega), fr _ (by omega) (by omega)⟩
  · rw [fr _ (by omega) (by omega)]
    exact hW.2.2.2.2.1 r hr
  · rw [e2, fr 8 (by omega) (by omega), fr 3 (by omega) (by omega), fr 7 (by omega) (by omega), ldS_f (X := P) (np P) (fun q hq => fr _ (by omega) (by omega))]
    exact hsl
def sP_plow (P : Nat → Int32) (s c : Nat) : Nat → Int32 := fP_X7_addPlow_L76 (nI s) (nI c) 20 (169 + 20 * np P) 0 P (fun _ => 0) (fun _ => 0)
theorem Iv_plow {h s c : Nat} {P : Nat → Int32} (hI : Iv h P) (hs : 100 ≤ s ∧ s ≤ 5000) (hc : c ≤ 5000) (hp : np P < 3) : Iv h (sP_plow P s c) ∧ ns (sP_plow P s c) = ns P ∧ np (sP_plow P s c) = np P + 1 := by
  have hC : Cg (sP_plow P s c) (sP_plow P s c) := (E_addPlow hs hc hp (Sd0_of hI.1)).2.2.1.self
  obtain ⟨hC0, hh, sp, hW, h0, hS, hP, hsl, h6⟩ := hI
  have hg := hC0.2.2
  have hn := hg.n20
  have hq : ∀ x, sP_plow P s c x = if 169 + 20 * np P + 2 ≤ x ∧ x < 169 + 20 * np P + 20 then 0 else if x = 2 then P 2 + 1 else if x = 169 + 20 * np P + 1 then nI c else if x = 169 + 20 * np P then nI s else P x := fun x => plL76P x
  have fr : ∀ x, x ≠ 2 → ¬ (169 + 20 * np P ≤ x ∧ x < 169 + 20 * np P + 20) → sP_plow P s c x = P x := fun x a b => by rw [hq, if_neg (by omega), if_neg a, if_neg (by omega), if_neg (by omega)]
  have vz : ∀ k, 2 ≤ k → k < 20 → sP_plow P s c (169 + 20 * np P + k) = 0 := fun k h1 h2 => by rw [hq, if_pos (by omega)]
  have v0 : sP_plow P s c (169 + 20 * np P + 0) = nI s := by rw [hq, if_neg (by omega), if_neg (by omega), if_neg (by omega), if_pos (by omega)]
  have e2 : np (sP_plow P s c) = np P + 1 := by
    show (sP_plow P s c 2).toNatClampNeg = _
    rw [hq, if_neg (by omega), if_pos rfl, hg.oN.2.2.1, nI_1]
    exact nI_t (by omega)
  have e1 : ns (sP_plow P s c) = ns P := ns_c (fr 1 (by omega) (by omega))
  refine ⟨Iv_mk (sp := fun p => if p = np P then s else sp p) hC hh (by rw [fr 0 (by omega) (by omega)]; exact h0) (fun q hq1 => ?_) (fun i hi => ?_) (fun q hq1 => ?_) (fun r hr => ?_) ?_ (by rw [fr 6 (by omega) (by omega)]; exact h6), e1, e2⟩
  · rw [e2] at hq1
    by_cases e : q = np P
    · subst e
      rw [if_pos rfl]
      exact ⟨v0, by omega⟩
    · rw [if_neg e, fr _ (by omega) (by omega)]
      exact hW.2.2.1 q (by omega)
  · rw [e1] at hi
    have fi : ∀ k, k < 8 → sP_plow P s c (9 + 8 * i + k) = P (9 + 8 * i + k) := fun k hk => fr _ (by omega) (by omega)
    exact ⟨by rw [fi 0 (by omega)]; exact hW.2.2.2.1 i (by omega), Sv_f (fi 5 (by omega)) (fi 6 (by omega)) (fi 7 (by omega)) (hS i (by omega))⟩
  · rw [e2] at hq1
    by_cases e : q = np P
    · subst e
      rw [if_pos rfl]
      exact ⟨Pg_0 (vz 5 (by omega) (by omega)), ⟨0, by omega, vz 6 (by omega) (by omega)⟩, 0, by omega, vz 7 (by omega) (by omega)⟩
    · rw [if_neg e]
      have fi : ∀ k, k < 20 → sP_plow P s c (169 + 20 * q + k) = P (169 + 20 * q + k) := fun k hk => fr _ (by omega) (by omega)
      refine ⟨Pg_f fi (fun i hi => fr _ (by omega) (by omega)) (hrI_rt hW.1 (by omega) (hW.2.1 q (by omega))) (hW.2.2.2.2.2 q (by omega)), Pv_f (fi 6 (by omega)) (fi 7 (by omega)) (hP q (by omega))⟩
  · rw [fr _ (by omega) (by omega)]
    exact hW.2.2.2.2.1 r hr
  · rw [e2, fr 8 (by omega) (by omega), fr 3 (by omega) (by omega), fr 7 (by omega) (by omega)]
    unfold ldS
    rw [ldS_f (X := P) (np P) (fun q hq => fr _ (by omega) (by omega)), vz 2 (by omega) (by omega), Int32.add_zero]
    exact hsl
/-- a change within one plow's words 3, 4, 5 and its route -/
theorem Iv_within {h q : Nat} {P X : Nat → Int32} (hI : Iv h P) (hC : Cg X X) (hq : q < np P) (fr : ∀ x, (x < 169 + 20 * q + 3 ∨ 169 + 20 * q + 20 ≤ x ∨ x = 169 + 20 * q + 6 ∨ x = 169 + 20 * q + 7) → X x = P x) (hg : Pg P q → Pg X q) : Iv h X ∧ ns X = ns P ∧ np X = np P := by
  obtain ⟨hC0, hh, sp, hW, h0, hS, hP, hsl, h6⟩ := hI
  have hgd := hC0.2.2
  have hn := hgd.n20
  have hm := hgd.m3
  have e1 : ns X = ns P := ns_c (fr 1 (by omega))
  have e2 : np X = np P := np_c (fr 2 (by omega))
  refine ⟨Iv_mk (sp := sp) hC hh (by rw [fr 0 (by omega)]; exact h0) (fun p hp => ?_) (fun i hi => ?_) (fun p hp => ?_) (fun r hr => ?_) ?_ (by rw [fr 6 (by omega)]; exact h6), e1, e2⟩
  · rw [e2] at hp
    rw [fr _ (by omega)]
    exact hW.2.2.1 p hp
  · rw [e1] at hi
    have fi : ∀ k, k < 8 → X (9 + 8 * i + k) = P (9 + 8 * i + k) := fun k hk => fr _ (by omega)
    exact ⟨by rw [fi 0 (by omega)]; exact hW.2.2.2.1 i hi, Sv_f (fi 5 (by omega)) (fi 6 (by omega)) (fi 7 (by omega)) (hS i hi)⟩
  · rw [e2] at hp
    refine ⟨?_, Pv_f (fr _ (by omega)) (fr _ (by omega)) (hP p hp)⟩
    by_cases e : p = q
    · subst e
      exact hg (hW.2.2.2.2.2 p hp)
    · exact Pg_f (fun k hk => fr _ (by omega)) (fun i hi => fr _ (by omega)) (hrI_rt hW.1 hp (hW.2.1 p hp)) (hW.2.2.2.2.2 p hp)
  · rw [fr _ (by omega)]
    exact hW.2.2.2.2.1 r hr
  · rw [e2, fr 8 (by omega), fr 3 (by omega), fr 7 (by omega), ldS_f (X := P) (np P) (fun p hp => fr _ (by omega))]
    exact hsl
theorem Iv_stop {h q s : Nat} {P : Nat → Int32} (hI : Iv h P) (hq : q < np P) (hs : s < ns P) (hc : nc P q < 12) : Iv h (sP_stop P q s) ∧ ns (sP_stop P q s) = ns P ∧ np (sP_stop P q s) = np P := by
  have hC := (E_addStop hq hs hc (Sd0_of hI.1)).2.2.1.self
  have hg := hI.good
  have hm := hg.m3
  have hn := hg.n20
  have fr : ∀ x, x ≠ 169 + 20 * q + 8 + nc P q → x ≠ 169 + 20 * q + 3 → sP_stop P q s x = P x := fun x a b => by unfold sP_stop; rw [upd_n b, upd_n a]
  have e3 : nc (sP_stop P q s) q = nc P q + 1 := by
    have : sP_stop P q s (169 + 20 * q + 3) = nI (nc P q + 1) := upd_s
    show (sP_stop P q s (169 + 20 * q + 3)).toNatClampNeg = _
    rw [this]
    exact nI_t (by omega)
  refine Iv_within hI hC hq (fun x hx => fr x (by omega) (by omega)) (Pg_g (fun _ => by omega) (fr _ (by omega) (by omega)) (fr _ (by omega) (by omega)) (fun g g0 g1 g2 hn0 => ?_))
  obtain ⟨a1, a2, a3⟩ := (hg.gP hq).2 hn0
  have a4 := (a3 _ a2).2
  exact ⟨fr _ (by omega) (by omega), fr _ (by omega) (by omega)⟩
theorem Iv_clear {h q : Nat} {P : Nat → Int32} (hI : Iv h P) (hq : q < np P) : Iv h (sP_clear P q) ∧ ns (sP_clear P q) = ns P ∧ np (sP_clear P q) = np P := by
  have hC := (E_clearRoute hq (Sd0_of hI.1)).2.2.1.self
  have hm := hI.good.m3
  exact Iv_within hI hC hq (fun x hx => by unfold sP_clear; rw [upd_n (by omega), upd_n (by omega), upd_n (by omega)]) (fun _ => Pg_0 upd_s)
theorem busy_free {P : Nat → Int32} {q k g : Nat} (hb : fR_X7_isBusy P q (nI k) = 0) (hg : 0 < g) (hg2 : g ≤ 2000) (h5 : P (169 + 20 * q + 5) = nI g) (h4 : P (169 + 20 * q + 4) = nI (pa P q)) (hp : pa P q < 100) (hk : k < 100) : pa P q ≠ k ∧ pa P q ≠ k + 1 := by
  unfold fR_X7_isBusy fR_X7_ofPlow at hb
  rw [h5, h4, if_neg (nI_nle hg (by omega)), nI_1] at hb
  by_cases h : fR_X7_in (nI (pa P q)) (nI k) (nI (k + 1)) = 0
  · rcases in_0 h with h2 | h2
    · have := (nI_ltI (by omega) (by omega)).mp h2
      omega
    · have := (nI_ltI (by omega) (by omega)).mp h2
      omega
  · rw [if_neg h] at hb
    exact absurd hb (by decide)
theorem Iv_exchange {h q k : Nat} {P : Nat → Int32} (hI : Iv h P) (hq : q < np P) (hk : k + 1 < nc P q) (hb : fR_X7_isBusy P q (nI k) = 0) : Iv h (fP_X7_exchanges P q k) ∧ ns (fP_X7_exchanges P q k) = ns P ∧ np (fP_X7_exchanges P q k) = np P := by
  have hC := (E_exchange hq hk hb (Sd0_of hI.1)).2.2.1.self
  have hg := hI.good
  have hm := hg.m3
  have hn := hg.n20
  have h12 := (hg.gP hq).1.1.2
  have hnc : 0 < nc P q := by omega
  obtain ⟨a1, a2, a3⟩ := (hg.gP hq).2 hnc
  have a4 := (a3 _ a2).2
  refine Iv_within hI hC hq (fun x hx => exg_f (by omega) (by omega)) (Pg_g (fun _ => by rw [nc_c (exg_f (by omega) (by omega))]; exact hnc) (exg_f (by omega) (by omega)) (exg_f (by omega) (by omega)) (fun g g0 g1 g2 hn0 => ?_))
  obtain ⟨b1, b2⟩ := busy_free hb g0 g1 g2 a1 (by omega) (by omega)
  exact ⟨exg_f (by omega) (by omega), exg_f (by omega) (by omega)⟩
/-- a change of words below 9 but 0, 1, 2, 6, or of terms -/
theorem Iv_words {h : Nat} {P X : Nat → Int32} (hI : Iv h P) (hC : Cg X X) (fr : ∀ x, (x < 3 ∨ x = 6 ∨ x = 8 ∨ (9 ≤ x ∧ x < 229)) → X x = P x) (hc : ∀ r, r < 3 → ∃ k, k ≤ 1000 ∧ X (229 + 4 * r + 2) = nI k) (hs : P 8 + P 3 + ldS P (np P) = P 7 → P 8 + X 3 + ldS P (np P) = X 7) : Iv h X ∧ ns X = ns P ∧ np X = np P := by
  obtain ⟨hC0, hh, sp, hW, h0, hS, hP, hsl, h6⟩ := hI
  have hgd := hC0.2.2
  have hn := hgd.n20
  have hm := hgd.m3
  have e1 : ns X = ns P := ns_c (fr 1 (by omega))
  have e2 : np X = np P := np_c (fr 2 (by omega))
  refine ⟨Iv_mk (sp := sp) hC hh (by rw [fr 0 (by omega)]; exact h0) (fun p hp => ?_) (fun i hi => ?_) (fun p hp => ?_) hc ?_ (by rw [fr 6 (by omega)]; exact h6), e1, e2⟩
  · rw [e2] at hp
    rw [fr _ (by omega)]
    exact hW.2.2.1 p hp
  · rw [e1] at hi
    have fi : ∀ k, k < 8 → X (9 + 8 * i + k) = P (9 + 8 * i + k) := fun k hk => fr _ (by omega)
    exact ⟨by rw [fi 0 (by omega)]; exact hW.2.2.2.1 i hi, Sv_f (fi 5 (by omega)) (fi 6 (by omega)) (fi 7 (by omega)) (hS i hi)⟩
  · rw [e2] at hp
    exact ⟨Pg_f (fun k hk => fr _ (by omega)) (fun i hi => fr _ (by omega)) (hrI_rt hW.1 hp (hW.2.1 p hp)) (hW.2.2.2.2.2 p hp), Pv_f (fr _ (by omega)) (fr _ (by omega)) (hP p hp)⟩
  · rw [e2, fr 8 (by omega), ldS_f (X := P) (np P) (fun p hp => fr _ (by omega))]
    exact hs hsl
theorem Iv_terms {h t a b c : Nat} {P : Nat → Int32} (hI : Iv h P) (ht : t ≤ 2) (ha : 1 ≤ a ∧ a ≤ 200) (hb : 1 ≤ b ∧ b ≤ 48) (hc : c ≤ 1000) : Iv h (fP_X7_layTerms P t (nI a) (nI b) (nI c)) ∧ ns (fP_X7_layTerms P t (nI a) (nI b) (nI c)) = ns P ∧ np (fP_X7_layTerms P t (nI a) (nI b) (nI c)) = np P := by
  have hC := (E_setTerms ht ha hb hc (Sd0_of hI.1)).2.2.1.self
  have fr : ∀ x, ¬ (229 + 4 * t ≤ x ∧ x < 229 + 4 * t + 3) → fP_X7_layTerms P t (nI a) (nI b) (nI c) x = P x := fun x hx => by
    unfold fP_X7_layTerms
    rw [upd_n (by omega), upd_n (by omega), upd_n (by omega)]
  obtain ⟨-, -, sp, hW, -⟩ := id hI
  refine Iv_words hI hC (fun x hx => fr x (by omega)) (fun r hr => ?_) (fun h => by rw [fr 3 (by omega), fr 7 (by omega)]; exact h)
  by_cases e : r = t
  · subst e
    exact ⟨c, hc, upd_s⟩
  · rw [fr _ (by omega)]
    exact hW.2.2.2.2.1 r hr
theorem Iv_spread {h a : Nat} {P : Nat → Int32} (hI : Iv h P) (ha : a ≤ 50) : Iv h (upd P 4 (nI a)) ∧ ns (upd P 4 (nI a)) = ns P ∧ np (upd P 4 (nI a)) = np P := by
  have hC := (E_setSpread ha (Sd0_of hI.1)).2.2.1.self
  obtain ⟨-, -, sp, hW, -⟩ := id hI
  exact Iv_words hI hC (fun x hx => upd_n (by omega)) (fun r hr => by rw [upd_n (by omega)]; exact hW.2.2.2.2.1 r hr) (fun h => by rw [upd_n (by omega), upd_n (by omega)]; exact h)
theorem Iv_deliver {h k : Nat} {P : Nat → Int32} (hI : Iv h P) (hk : k ≤ 100000) (hs : P 3 + nI k ≤ 100000) : Iv h (sP_deliver P k) ∧ ns (sP_deliver P k) = ns P ∧ np (sP_deliver P k) = np P := by
  have hC := (E_deliver hk hs (Sd0_of hI.1)).2.2.1.self
  have fr : ∀ x, x ≠ 3 → x ≠ 7 → sP_deliver P k x = P x := fun x a b => by unfold sP_deliver; rw [upd_n b, upd_n a]
  obtain ⟨-, -, sp, hW, -⟩ := id hI
  refine Iv_words hI hC (fun x hx => fr x (by omega) (by omega)) (fun r hr => by rw [fr _ (by omega) (by omega)]; exact hW.2.2.2.2.1 r hr) (fun h => ?_)
  have e3 : sP_deliver P k 3 = P 3 + nI k := by unfold sP_deliver; rw [upd_n (by omega), upd_s]
  have e7 : sP_deliver P k 7 = P 7 + nI k := upd_s
  rw [e3, e7, ← h]
  ac_rfl
theorem Iv_run {h k : Nat} {P : Nat → Int32} {T S : Int32} (hI : Iv h P) (hw : ¬ fR_X7_isWeather T S = 0) (hk : h + k ≤ 2000) : Iv (h + k) (fP_X7_hours P T S k) ∧ ns (fP_X7_hours P T S k) = ns P ∧ np (fP_X7_hours P T S k) = np P ∧ (∃ sp, (∀ p, p < np P → P (169 + 20 * p + 0) = nI (sp p) ∧ sp p ≤ 5000) ∧ Df (ns P) (np P) sp h k P (fP_X7_hours P T S k)) ∧ ∃ z, z ≤ 20000 * k ∧ fP_X7_hours P T S k 6 = P 6 + nI z ∧ fR_X7_hours P T S k = nI z := by
  obtain ⟨-, ht, sz, hs, es⟩ := cW_q hw
  obtain ⟨hC0, hh, sp, hJ⟩ := hI
  have hC := (Cg_hours (k := k) hC0 ht hs hJ.2.1 hk).1.self
  rw [← es] at hC
  obtain ⟨a1, a2, z, z1, z2, z3⟩ := Jv_hours (T := T) (S := S) (many := k) k h 0 0 P hJ
  have e1 : ns (fP_X7_hours P T S k) = ns P := ns_c (a2.2.2 1 (Or.inl rfl))
  have e2 : np (fP_X7_hours P T S k) = np P := np_c (a2.2.2 2 (Or.inr (Or.inl rfl)))
  refine ⟨⟨hC, hk, sp, ?_⟩, e1, e2, ⟨sp, hJ.1.2.2.1, a2⟩, z, z1, z2, by unfold fR_X7_hours; rw [z3, Int32.zero_add]⟩
  rw [e1, e2]
  have a3 : Jv (ns P) (np P) (nc P) sp (h + k) (fP_X7_hours P T S k) := a1
  exact ⟨⟨by rw [← e1, ← e2]; exact hC.2.2.1, a3.1.2⟩, a3.2⟩
theorem Iv_0 : Iv 0 P0 := by
  have hC : Cg P0 P0 := ⟨fun _ _ => rfl, by decide +kernel, Good0⟩
  refine Iv_mk (sp := fun _ => 0) hC (by omega) (by decide +kernel) (fun p hp => absurd hp (by rw [np0]; omega)) (fun i hi => absurd hi (by rw [ns0]; omega)) (fun p hp => absurd hp (by rw [np0]; omega)) (fun r hr => ?_) (by rw [np0]; decide +kernel) ⟨0, by omega, by decide +kernel⟩
  rcases (show r = 0 ∨ r = 1 ∨ r = 2 by omega) with rfl | rfl | rfl
  · exact ⟨30, by omega, by decide +kernel⟩
  · exact ⟨20, by omega, by decide +kernel⟩
  · exact ⟨10, by omega, by decide +kernel⟩
