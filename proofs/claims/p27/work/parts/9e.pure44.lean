/-! Routes, terms, deliveries: class against reference. -/
theorem cP_p {C P : Nat → Int32} {x : Int32} (h : Cg C P) (h1 : fR_X7_isPlow P x = 0) : fE_X6_checkPlow C x = 3 := by
  have e : fR_X7_isPlow C x = fR_X7_isPlow P x := by
    unfold fR_X7_isPlow
    rw [ag_c h.1 (by decide) (by decide)]
  rw [cP_e h.okN, e, if_pos h1]
theorem cP_q {C P : Nat → Int32} {x : Int32} (h : Cg C P) (h1 : ¬ fR_X7_isPlow P x = 0) : fE_X6_checkPlow C x = 0 ∧ x = nI x.toNatClampNeg ∧ x.toNatClampNeg < np P := by
  have e : fR_X7_isPlow C x = fR_X7_isPlow P x := by
    unfold fR_X7_isPlow
    rw [ag_c h.1 (by decide) (by decide)]
  have h2 : fE_X6_checkPlow C x = 0 := by rw [cP_e h.okN, e, if_neg h1]
  obtain ⟨a, b⟩ := cP_n h.okN h2
  rw [np_ag h.1] at b
  exact ⟨h2, a, b⟩
theorem cS_p {C P : Nat → Int32} {x : Int32} (h : Cg C P) (h1 : fR_X7_isStreet P x = 0) : fE_X6_checkStreet C x = 3 := by
  have e : fR_X7_isStreet C x = fR_X7_isStreet P x := by
    unfold fR_X7_isStreet
    rw [ag_c h.1 (by decide) (by decide)]
  rw [cS_e h.okN, e, if_pos h1]
theorem cS_q {C P : Nat → Int32} {x : Int32} (h : Cg C P) (h1 : ¬ fR_X7_isStreet P x = 0) : fE_X6_checkStreet C x = 0 ∧ x = nI x.toNatClampNeg ∧ x.toNatClampNeg < ns P := by
  have e : fR_X7_isStreet C x = fR_X7_isStreet P x := by
    unfold fR_X7_isStreet
    rw [ag_c h.1 (by decide) (by decide)]
  have h2 : fE_X6_checkStreet C x = 0 := by rw [cS_e h.okN, e, if_neg h1]
  obtain ⟨a, b⟩ := cS_n h.okN h2
  rw [ns_ag h.1] at b
  exact ⟨h2, a, b⟩
theorem three0 : ¬ (3 : Nat) = 0 := by decide
theorem gP_o {n q q' : Nat} {P P1 : Nat → Int32} (hq : q' ≠ q) (fr : ∀ x, ¬ (169 + 20 * q ≤ x ∧ x < 169 + 20 * q + 20) → P1 x = P x) (h : gP n P q') : gP n P1 q' := gP_f (fr _ (by omega)) (fr _ (by omega)) (fun j hj => fr _ (by omega)) (Nat.le_refl _) h
/-- one plow's words change, but for its speed, capacity and load -/
theorem Good_pl {P P1 : Nat → Int32} {q : Nat} (h : Good P) (hq : q < np P) (fr : ∀ x, ¬ (169 + 20 * q + 3 ≤ x ∧ x < 169 + 20 * q + 20) → P1 x = P x) (hP : gP (ns P) P1 q) : Good P1 := by
  have hm := h.m3
  refine Good_mod h (fun x hx => fr x (by omega)) (fun i k hi hk => fr _ (by omega)) (fun q' hq' => ?_) (fun q' hq' => ⟨fr _ (by omega), fr _ (by omega)⟩) (by rw [fr 3 (by omega)]; exact h.s3) (by rw [fr 4 (by omega)]; exact h.s4) (limP_c (fun r hr => fr _ (by omega)) h.lim)
  by_cases e : q' = q
  · rw [e]
    exact hP
  · exact gP_o e (fun x hx => fr x (by omega)) (h.gP hq')
theorem M_addStop {C : Nat → Int32} {G : Nat → Nat → Int32} {n : Nat} {Y F P V T Fm : Nat → Int32} {pl str : Int32} (h : Rel C G n Y F P V T Fm) : Out 3 (fE_X6_addStop C G n pl str) (fR_X6_addStop C G n pl str) (fR_X7_addStop P V Fm pl str) (fF_X7_addStop P V Fm pl str) (Rel (fC_X6_addStop C G n pl str) (fG_X6_addStop C G n pl str) (fn_X6_addStop C G n pl str) Y F (fP_X7_addStop P V Fm pl str) (fV_X7_addStop P V Fm pl str) T (fF_X7_addStop P V Fm pl str)) := by
  unfold fE_X6_addStop fR_X6_addStop fR_X7_addStop fF_X7_addStop fC_X6_addStop fG_X6_addStop fn_X6_addStop fP_X7_addStop fV_X7_addStop
  by_cases h1 : fR_X7_isPlow P pl = 0
  · simp only [cP_p h.1 h1, if_pos h1, if_neg three0]
    exact Out_err (by decide) rfl h
  obtain ⟨c1, x1, k1⟩ := cP_q h.1 h1
  simp only [c1, if_neg h1, if_true]
  by_cases h2 : fR_X7_isStreet P str = 0
  · simp only [cS_p h.1 h2, if_pos h2, if_neg three0]
    exact Out_err (by decide) rfl h
  obtain ⟨c2, x2, k2⟩ := cS_q h.1 h2
  simp only [c2, if_neg h2, if_true]
  generalize pl.toNatClampNeg = q at k1 ⊢
  have hg := h.1.2.2
  have h20 := hg.n20
  have hm := hg.m3
  have hgq := hg.gP k1
  have hc3 := hgq.1.1.1
  have h12 := hgq.1.1.2
  have en := nc_ag h.1.1 k1
  by_cases h3 : fR_X7_ofPlow P q 3 = 12
  · have e12 : nc P q = 12 := by
      unfold nc
      rw [show P (169 + 20 * q + 3) = 12 from h3]
      rfl
    simp only [en, if_pos h3, if_neg (show ¬ nc P q < 12 by omega)]
    exact Out_err (by decide) rfl h
  have l12 : nc P q < 12 := by
    by_cases e : nc P q = 12
    · exact absurd (show fR_X7_ofPlow P q 3 = 12 by unfold fR_X7_ofPlow; rw [hc3, e]; rfl) h3
    · omega
  simp only [en, if_neg h3, if_pos l12]
  have a3 : C (169 + 20 * q + 3) = P (169 + 20 * q + 3) := ag_p h.1.1 k1 3 (by omega)
  have fr : ∀ x, ¬ (169 + 20 * q + 3 ≤ x ∧ x < 169 + 20 * q + 20) → upd (upd P (169 + 20 * q + 8 + nc P q) str) (169 + 20 * q + 3) (upd P (169 + 20 * q + 8 + nc P q) str (169 + 20 * q + 3) + 1) x = P x := fun x hx => by rw [upd_n (by omega), upd_n (by omega)]
  have v3 : upd (upd P (169 + 20 * q + 8 + nc P q) str) (169 + 20 * q + 3) (upd P (169 + 20 * q + 8 + nc P q) str (169 + 20 * q + 3) + 1) (169 + 20 * q + 3) = nI (nc P q + 1) := by rw [upd_s, upd_n (by omega), hc3, nI_1]
  have v4 : upd (upd P (169 + 20 * q + 8 + nc P q) str) (169 + 20 * q + 3) (upd P (169 + 20 * q + 8 + nc P q) str (169 + 20 * q + 3) + 1) (169 + 20 * q + 4) = P (169 + 20 * q + 4) := by rw [upd_n (by omega), upd_n (by omega)]
  have vj : ∀ j, upd (upd P (169 + 20 * q + 8 + nc P q) str) (169 + 20 * q + 3) (upd P (169 + 20 * q + 8 + nc P q) str (169 + 20 * q + 3) + 1) (169 + 20 * q + 8 + j) = if j = nc P q then str else P (169 + 20 * q + 8 + j) := fun j => by
    rw [upd_n (by omega)]
    by_cases e : j = nc P q
    · rw [if_pos e, e, upd_s]
    · rw [if_neg e, upd_n (by omega)]
  have ha : Ag (ns P) (np P) (nc P) (upd (upd C (169 + 20 * q + 8 + nc P q) str) (169 + 20 * q + 3) (upd C (169 + 20 * q + 8 + nc P q) str (169 + 20 * q + 3) + 1)) (upd (upd P (169 + 20 * q + 8 + nc P q) str) (169 + 20 * q + 3) (upd P (169 + 20 * q + 8 + nc P q) str (169 + 20 * q + 3) + 1)) := ag_u (ag_u h.1.1 rfl) (by rw [upd_n (by omega), upd_n (by omega), a3])
  have b3 : upd (upd C (169 + 20 * q + 8 + nc P q) str) (169 + 20 * q + 3) (upd C (169 + 20 * q + 8 + nc P q) str (169 + 20 * q + 3) + 1) (169 + 20 * q + 8 + nc P q) = str := by rw [upd_n (by omega), upd_s]
  generalize upd (upd P (169 + 20 * q + 8 + nc P q) str) (169 + 20 * q + 3) (upd P (169 + 20 * q + 8 + nc P q) str (169 + 20 * q + 3) + 1) = P1 at fr v3 v4 vj ha ⊢
  have e3 : nc P1 q = nc P q + 1 := by
    show (P1 (169 + 20 * q + 3)).toNatClampNeg = _
    rw [v3]
    exact nI_t (by omega)
  have eo : ∀ q', q' ≠ q → nc P1 q' = nc P q' := fun q' hq' => nc_c (fr _ (by omega))
  refine Out_done h (ag_p ha k1 3 (by omega)) ⟨?_, ?_, ?_⟩
  · rw [ns_c (fr 1 (by omega)), np_c (fr 2 (by omega))]
    refine ag_plc ha (fun q' j hq' hj1 hj2 => ?_)
    by_cases e : q' = q
    · subst e
      rw [e3] at hj2
      rw [show j = nc P q' by omega, b3, vj, if_pos rfl]
    · rw [eo q' e] at hj2
      omega
  · rw [fr 5 (by omega), h.1.2.1]
    exact (cs_c (fr _ (by omega)) (fr _ (by omega)) (fr _ (by omega))).symm
  · refine Good_pl hg k1 fr ⟨⟨⟨by rw [e3]; exact v3, by omega⟩, fun e0 => absurd e0 (by omega)⟩, fun _ => ?_⟩
    have hpa : P (169 + 20 * q + 4) = nI (pa P q) ∧ pa P q ≤ nc P q := by
      by_cases e : nc P q = 0
      · have z4 := hgq.1.2 e
        have e4 : pa P q = 0 := by
          unfold pa
          rw [z4]
          rfl
        exact ⟨by rw [e4, z4]; rfl, by omega⟩
      · obtain ⟨a, b, d⟩ := hgq.2 (by omega)
        exact ⟨a, by omega⟩
    rw [pa_c v4, v4, e3]
    refine ⟨hpa.1, by omega, fun j hj => ?_⟩
    by_cases e : j = nc P q
    · have er : rt P1 q j = str.toNatClampNeg := by
        unfold rt
        rw [vj, if_pos e]
      rw [er, vj, if_pos e]
      exact ⟨x2, k2⟩
    · have er : rt P1 q j = rt P q j := by
        unfold rt
        rw [vj, if_neg e]
      rw [er, vj, if_neg e]
      exact (hgq.2 (by omega)).2.2 j (by omega)
theorem M_clearRoute {C : Nat → Int32} {G : Nat → Nat → Int32} {n : Nat} {Y F P V T Fm : Nat → Int32} {pl : Int32} (h : Rel C G n Y F P V T Fm) : Out 3 (fE_X6_clearRoute C G n pl) (fR_X6_clearRoute C G n pl) (fR_X7_clearRoute P V Fm pl) (fF_X7_clearRoute P V Fm pl) (Rel (fC_X6_clearRoute C G n pl) (fG_X6_clearRoute C G n pl) (fn_X6_clearRoute C G n pl) Y F (fP_X7_clearRoute P V Fm pl) (fV_X7_clearRoute P V Fm pl) T (fF_X7_clearRoute P V Fm pl)) := by
  unfold fE_X6_clearRoute fR_X6_clearRoute fR_X7_clearRoute fF_X7_clearRoute fC_X6_clearRoute fG_X6_clearRoute fn_X6_clearRoute fP_X7_clearRoute fV_X7_clearRoute
  by_cases h1 : fR_X7_isPlow P pl = 0
  · simp only [cP_p h.1 h1, if_pos h1, if_neg three0]
    exact Out_err (by decide) rfl h
  obtain ⟨c1, x1, k1⟩ := cP_q h.1 h1
  simp only [c1, if_neg h1, if_true]
  generalize pl.toNatClampNeg = q at k1 ⊢
  have hg := h.1.2.2
  have hm := hg.m3
  have ha : Ag (ns P) (np P) (nc P) (fP_X1_forgetRoute C q) (upd (upd (upd P (169 + 20 * q + 3) 0) (169 + 20 * q + 4) 0) (169 + 20 * q + 5) 0) := ag_u (ag_u (ag_u h.1.1 rfl) rfl) rfl
  have fr : ∀ x, ¬ (169 + 20 * q + 3 ≤ x ∧ x < 169 + 20 * q + 20) → upd (upd (upd P (169 + 20 * q + 3) 0) (169 + 20 * q + 4) 0) (169 + 20 * q + 5) 0 x = P x := fun x hx => by rw [upd_n (by omega), upd_n (by omega), upd_n (by omega)]
  have v3 : upd (upd (upd P (169 + 20 * q + 3) 0) (169 + 20 * q + 4) 0) (169 + 20 * q + 5) 0 (169 + 20 * q + 3) = 0 := by rw [upd_n (by omega), upd_n (by omega), upd_s]
  have v4 : upd (upd (upd P (169 + 20 * q + 3) 0) (169 + 20 * q + 4) 0) (169 + 20 * q + 5) 0 (169 + 20 * q + 4) = 0 := by rw [upd_n (by omega), upd_s]
  generalize upd (upd (upd P (169 + 20 * q + 3) 0) (169 + 20 * q + 4) 0) (169 + 20 * q + 5) 0 = P1 at ha fr v3 v4 ⊢
  have e3 : nc P1 q = 0 := by
    show (P1 (169 + 20 * q + 3)).toNatClampNeg = _
    rw [v3]
    rfl
  refine Out_done h (ag_p h.1.1 k1 3 (by omega)) ⟨?_, ?_, ?_⟩
  · rw [ns_c (fr 1 (by omega)), np_c (fr 2 (by omega))]
    refine ag_mono ha (fun q' hq' => ?_)
    by_cases e : q' = q
    · subst e
      omega
    · rw [nc_c (fr _ (by omega))]
      exact Nat.le_refl _
  · rw [fr 5 (by omega), h.1.2.1]
    exact (cs_c (fr _ (by omega)) (fr _ (by omega)) (fr _ (by omega))).symm
  · exact Good_pl hg k1 fr ⟨⟨⟨by rw [e3, v3]; rfl, by omega⟩, fun _ => v4⟩, fun h0 => absurd h0 (by omega)⟩
