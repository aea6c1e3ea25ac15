/-! Hours, questions, text and undo: class against reference. -/
theorem tmp_R {tmp : Int32} (h : ¬ fR_X7_in tmp (-300) 300 = 0) : tmpR tmp := by
  obtain ⟨a, b⟩ := in_v h
  by_cases h0 : tmp < 0
  · right
    have e3 : ((-300 : Int32)).toInt = -300 := by decide
    have e0 : ((0 : Int32)).toInt = 0 := by decide
    rw [Int32.lt_iff_toInt_lt] at a h0
    have e : (-tmp).toInt = -tmp.toInt := by
      rw [Int32.toInt_neg]
      exact Int.bmod_eq_of_le (by omega) (by omega)
    refine ⟨(-tmp.toInt).toNat, by omega, ?_⟩
    have e5 : -tmp = nI (-tmp.toInt).toNat := Int32.toInt_inj.mp (by rw [e, nI_toInt (by omega)]; omega)
    rw [← e5]
    exact (Int32.neg_neg).symm
  · obtain ⟨p, q⟩ := clamp_le (n := 300) h0 b (by decide)
    by_cases z : tmp.toNatClampNeg = 0
    · rw [z] at p
      exact Or.inr ⟨0, by omega, by rw [p]; decide⟩
    · exact Or.inl ⟨_, by omega, q, p⟩
theorem cW_p {tmp sn : Int32} (h : fR_X7_isWeather tmp sn = 0) : fE_X6_checkWeather tmp sn = 1 := by
  unfold fR_X7_isWeather at h
  unfold fE_X6_checkWeather
  by_cases h1 : fR_X7_in tmp (-300) 300 = 0
  · simp only [cA_p h1, if_neg Nat.one_ne_zero]
  simp only [cA_q h1, if_true]
  by_cases h2 : fR_X7_in sn 0 100 = 0
  · simp only [cA_p h2, if_neg Nat.one_ne_zero]
  rw [if_neg h1, if_neg h2] at h
  exact absurd h (by decide)
theorem cW_q {tmp sn : Int32} (h : ¬ fR_X7_isWeather tmp sn = 0) : fE_X6_checkWeather tmp sn = 0 ∧ tmpR tmp ∧ ∃ sz, sz ≤ 100 ∧ sn = nI sz := by
  unfold fR_X7_isWeather at h
  unfold fE_X6_checkWeather
  by_cases h1 : fR_X7_in tmp (-300) 300 = 0
  · rw [if_pos h1] at h
    exact absurd rfl h
  by_cases h2 : fR_X7_in sn 0 100 = 0
  · rw [if_neg h1, if_pos h2] at h
    exact absurd rfl h
  simp only [cA_q h1, cA_q h2, if_true]
  obtain ⟨p, q⟩ := in_nat (n := 100) (by decide) rfl (by decide) h2
  exact ⟨trivial, tmp_R h1, _, q, p⟩
/-- hours on a related pair of pages -/
theorem Cg_hours {C P : Nat → Int32} {tmp : Int32} {sz h k : Nat} (hC : Cg C P) (ht : tmpR tmp) (hs : sz ≤ 100) (h0 : P 0 = nI h) (hk : h + k ≤ 2000) : Cg (fP_X0_passHours C tmp (nI sz) k) (fP_X7_hours P tmp (nI sz) k) ∧ fR_X0_passHours C tmp (nI sz) k = fR_X7_hours P tmp (nI sz) k ∧ (∃ z, z ≤ 20 * k ∧ fP_X7_hours P tmp (nI sz) k 5 = P 5 + nI z) ∧ fP_X7_hours P tmp (nI sz) k 0 = nI (h + k) := by
  obtain ⟨g1, g2, h', b1, b2, b3⟩ := id hC.2.2
  have e : h' = h := by
    rw [h0] at b2
    exact ((nI_eq (by omega) (by omega)).mp b2).symm
  rw [e] at b3
  have hw := g1.1
  obtain ⟨a1, a2, a3, ⟨sm, a4, a5⟩, ⟨z, z1, z2, z3⟩, a6⟩ := ch_hours (many := k) (many' := k) hs ht k (100 * h) 0 (C 6) 0 0 C P hC.1 g1 b3 (by omega)
  have n1 := ns_c (ns_hours (tmp := tmp) (sn := nI sz) (many := k) hw).1
  have n2 := np_c (ns_hours (tmp := tmp) (sn := nI sz) (many := k) hw).2
  have hE : ∀ q, q < np P → okK (P (169 + 20 * q + 3)) (fP_X7_hours P tmp (nI sz) k) q := fun q hq => okK_hours _ _ _ _ hw hq ⟨g2 q hq, rfl⟩
  have hc : ∀ q, q < np P → nc (fP_X7_hours P tmp (nI sz) k) q = nc P q := fun q hq => nc_c (hE q hq).2
  refine ⟨⟨?_, ?_, ?_, ?_, ?_⟩, ?_, ⟨z, z1, z2⟩, ?_⟩
  · rw [n1, n2]
    exact ag_cc hc a1
  · show fP_X7_hours_L6 tmp (nI sz) k k 0 0 P 5 = cs (fP_X7_hours_L6 tmp (nI sz) k k 0 0 P)
    rw [z2, z3, hC.2.1]
  · rw [n1, n2]
    exact hrI_cc (fun q hq => (hc q hq).symm) a2
  · rw [n2]
    exact fun q hq => (hE q hq).1
  · rw [n1, n2]
    refine ⟨h + k, hk, ?_, by rw [show 100 * (h + k) = 100 * h + 100 * k by omega]; exact a3⟩
    show fP_X7_hours_L6 tmp (nI sz) k k 0 0 P 0 = _
    rw [a6, h0, nI_add]
  · show fR_X0_passHours_L9 tmp (nI sz) k k (C 6) 0 C = fR_X7_hours_L6 tmp (nI sz) k k 0 0 P
    rw [a4, a5, Int32.zero_add, Int32.add_comm, Int32.add_sub_cancel]
  · show fP_X7_hours_L6 tmp (nI sz) k k 0 0 P 0 = _
    rw [a6, h0, nI_add]
theorem cH_p {C : Nat → Int32} {hrs : Int32} (h : ¬ C 0 + hrs ≤ 2000) : fE_X6_checkHoursToCome C hrs = 2 := if_neg h
theorem cH_q {C : Nat → Int32} {hrs : Int32} (h : C 0 + hrs ≤ 2000) : fE_X6_checkHoursToCome C hrs = 0 := if_pos h
theorem two0 : ¬ (2 : Nat) = 0 := by decide
theorem Cg.h0 {C P : Nat → Int32} (h : Cg C P) : ∃ k, k ≤ 2000 ∧ P 0 = nI k := by
  obtain ⟨g1, g2, h', b1, b2, b3⟩ := h.2.2
  exact ⟨h', b1, b2⟩
theorem M_run {C : Nat → Int32} {G : Nat → Nat → Int32} {n : Nat} {Y F P V T Fm : Nat → Int32} {tmp sn hrs : Int32} (h : Rel C G n Y F P V T Fm) : Out 1 (fE_X6_run C G n tmp sn hrs) (fR_X6_run C G n tmp sn hrs) (fR_X7_run P V Fm tmp sn hrs) (fF_X7_run P V Fm tmp sn hrs) (Rel (fC_X6_run C G n tmp sn hrs) (fG_X6_run C G n tmp sn hrs) (fn_X6_run C G n tmp sn hrs) Y F (fP_X7_run P V Fm tmp sn hrs) (fV_X7_run P V Fm tmp sn hrs) T (fF_X7_run P V Fm tmp sn hrs)) := by
  unfold fE_X6_run fR_X6_run fR_X7_run fF_X7_run fC_X6_run fG_X6_run fn_X6_run fP_X7_run fV_X7_run
  by_cases h1 : fR_X7_isWeather tmp sn = 0
  · simp only [cW_p h1, if_pos h1, if_neg Nat.one_ne_zero]
    exact Out_err (by decide) rfl h
  obtain ⟨c1, ht, sz, hs, es⟩ := cW_q h1
  simp only [c1, if_neg h1, if_true]
  by_cases h2 : fR_X7_in hrs 0 100 = 0
  · simp only [cA_p h2, if_pos h2, if_neg Nat.one_ne_zero]
    exact Out_err (by decide) rfl h
  simp only [cA_q h2, if_neg h2, if_true]
  have e0 : C 0 = P 0 := ag_c h.1.1 (by decide) (by decide)
  by_cases h3 : P 0 + hrs ≤ 2000
  · simp only [cH_q (show C 0 + hrs ≤ 2000 by rw [e0]; exact h3), if_pos h3, if_true]
    obtain ⟨l1, l2⟩ := in_nat (n := 100) (by decide) rfl (by decide) h2
    obtain ⟨k, k1, k2⟩ := h.1.h0
    have h5 : k + hrs.toNatClampNeg ≤ 2000 := by
      rw [k2, l1, nI_add] at h3
      exact (nI_leI (b := 2000) (by omega) (by omega)).mp h3
    rw [es]
    obtain ⟨a1, a2, -⟩ := Cg_hours h.1 ht hs k2 h5
    exact Out_done h a2 a1
  · simp only [cH_p (show ¬ C 0 + hrs ≤ 2000 by rw [e0]; exact h3), if_neg h3, if_neg two0]
    exact Out_err (by decide) rfl h
/-- a question is answered -/
theorem Out_ask {c1 : Nat} {a a' : Int32} {C : Nat → Int32} {G : Nat → Nat → Int32} {n : Nat} {Y F P V T Fm : Nat → Int32} (h : Rel C G n Y F P V T Fm) (ha : a = a') : Out c1 0 a a' (upd Fm 6 0) (Rel C G n Y F P V T (upd Fm 6 0)) := ⟨by rw [upd_s]; rfl, fun _ => ha, Rel_err h⟩
theorem due_eq {C P : Nat → Int32} (h : Cg C P) : ∀ (k : Nat) (acc : Int32) (j : Nat), j + k ≤ ns P → fR_X0_dueStreets_L4 C k acc j = fR_X7_due_L4 P k acc j
  | 0, acc, j, _ => by rw [fR_X0_dueStreets_L4, fR_X7_due_L4]
  | k + 1, acc, j, hj => by
    rw [fR_X0_dueStreets_L4, fR_X7_due_L4]
    (try dsimp only)
    rw [isDue_eq, ag_isDue h.1 (by omega) (h.2.2.oR (by omega)), Int32.add_zero, due_eq h k acc (j + 1) (by omega), due_eq h k (acc + 1) (j + 1) (by omega)]
theorem M_value {C : Nat → Int32} {G : Nat → Nat → Int32} {n : Nat} {Y F P V T Fm : Nat → Int32} {x : Int32} (h : Rel C G n Y F P V T Fm) : Out 1 (fE_X6_value C x) (fR_X6_value C x) (fR_X7_value P Fm x) (fF_X7_value P Fm x) (Rel C G n Y F P V T (fF_X7_value P Fm x)) := by
  unfold fE_X6_value fR_X6_value fR_X7_value fF_X7_value
  by_cases h1 : fR_X7_in x 0 9 = 0
  · simp only [cA_p h1, if_pos h1, if_neg Nat.one_ne_zero]
    exact Out_err (by decide) rfl h
  simp only [cA_q h1, if_neg h1, if_true]
  refine Out_ask h ?_
  obtain ⟨-, l2⟩ := in_nat (n := 9) (by decide) rfl (by decide) h1
  generalize x.toNatClampNeg = w at l2 ⊢
  have cg : ∀ k, k < 9 → k ≠ 5 → C k = P k := fun k a b => ag_c h.1.1 a b
  rcases (show w = 0 ∨ w = 1 ∨ w = 2 ∨ w = 3 ∨ w = 4 ∨ w = 5 ∨ w = 6 ∨ w = 7 ∨ w = 8 ∨ w = 9 by omega) with rfl | rfl | rfl | rfl | rfl | rfl | rfl | rfl | rfl | rfl
  · exact cg 0 (by omega) (by omega)
  · exact cg 1 (by omega) (by omega)
  · exact cg 2 (by omega) (by omega)
  · exact cg 3 (by omega) (by omega)
  · exact cg 4 (by omega) (by omega)
  · show fR_X0_complaints C = P 5
    rw [compl_eq, h.1.2.1]
    exact cs_c (ag_t h.1.1 (r := 0) (by omega) 3 (by omega)) (ag_t h.1.1 (r := 1) (by omega) 3 (by omega)) (ag_t h.1.1 (r := 2) (by omega) 3 (by omega))
  · exact cg 6 (by omega) (by omega)
  · show fR_X0_dueStreets_L4 C (ns C) 0 0 = fR_X7_due_L4 P (ns P) 0 0
    rw [h.ns]
    exact due_eq h.1 _ _ _ (by omega)
  · exact cg 7 (by omega) (by omega)
  · exact cg 8 (by omega) (by omega)
theorem M_street {C : Nat → Int32} {G : Nat → Nat → Int32} {n : Nat} {Y F P V T Fm : Nat → Int32} {x y : Int32} (h : Rel C G n Y F P V T Fm) : Out 3 (fE_X6_street C x y) (fR_X6_street C x y) (fR_X7_street P Fm x y) (fF_X7_street P Fm x y) (Rel C G n Y F P V T (fF_X7_street P Fm x y)) := by
  unfold fE_X6_street fR_X6_street fR_X7_street fF_X7_street
  by_cases h1 : fR_X7_isStreet P x = 0
  · simp only [cS_p h.1 h1, if_pos h1, if_neg three0]
    exact Out_err (by decide) rfl h
  obtain ⟨c1, x1, k1⟩ := cS_q h.1 h1
  simp only [c1, if_neg h1, if_true]
  by_cases h2 : fR_X7_in y 0 8 = 0
  · simp only [cA_p h2, if_pos h2, if_neg Nat.one_ne_zero]
    exact Out_err (by decide) rfl h
  simp only [cA_q h2, if_neg h2, if_true]
  refine Out_ask h ?_
  obtain ⟨-, l2⟩ := in_nat (n := 8) (by decide) rfl (by decide) h2
  generalize y.toNatClampNeg = w at l2 ⊢
  generalize x.toNatClampNeg = i at k1 ⊢
  have cg : ∀ k, k < 8 → C (9 + 8 * i + k) = P (9 + 8 * i + k) := fun k a => ag_s h.1.1 k1 k a
  rcases (show w = 0 ∨ w = 1 ∨ w = 2 ∨ w = 3 ∨ w = 4 ∨ w = 5 ∨ w = 6 ∨ w = 7 ∨ w = 8 by omega) with rfl | rfl | rfl | rfl | rfl | rfl | rfl | rfl | rfl
  · exact cg 0 (by omega)
  · exact cg 1 (by omega)
  · exact cg 2 (by omega)
  · exact cg 3 (by omega)
  · exact cg 4 (by omega)
  · exact cg 5 (by omega)
  · show (if fR_X7_isDue C i = 0 then (0 : Int32) else 1) = if fR_X7_isDue P i = 0 then 0 else 1
    rw [ag_isDue h.1.1 k1 (h.1.2.2.oR k1)]
  · exact cg 6 (by omega)
  · exact cg 7 (by omega)
theorem M_plow {C : Nat → Int32} {G : Nat → Nat → Int32} {n : Nat} {Y F P V T Fm : Nat → Int32} {x y : Int32} (h : Rel C G n Y F P V T Fm) : Out 3 (fE_X6_plow C x y) (fR_X6_plow C x y) (fR_X7_plow P Fm x y) (fF_X7_plow P Fm x y) (Rel C G n Y F P V T (fF_X7_plow P Fm x y)) := by
  unfold fE_X6_plow fR_X6_plow fR_X7_plow fF_X7_plow
  by_cases h1 : fR_X7_isPlow P x = 0
  · simp only [cP_p h.1 h1, if_pos h1, if_neg three0]
    exact Out_err (by decide) rfl h
  obtain ⟨c1, x1, k1⟩ := cP_q h.1 h1
  simp only [c1, if_neg h1, if_true]
  by_cases h2 : fR_X7_in y 0 7 = 0
  · simp only [cA_p h2, if_pos h2, if_neg Nat.one_ne_zero]
    exact Out_err (by decide) rfl h
  simp only [cA_q h2, if_neg h2, if_true]
  refine Out_ask h ?_
  obtain ⟨-, l2⟩ := in_nat (n := 7) (by decide) rfl (by decide) h2
  exact ag_p h.1.1 k1 _ (by omega)
theorem M_stop {C : Nat → Int32} {G : Nat → Nat → Int32} {n : Nat} {Y F P V T Fm : Nat → Int32} {x y : Int32} (h : Rel C G n Y F P V T Fm) : Out 3 (fE_X6_stop C x y) (fR_X6_stop C x y) (fR_X7_stop P Fm x y) (fF_X7_stop P Fm x y) (Rel C G n Y F P V T (fF_X7_stop P Fm x y)) := by
  unfold fE_X6_stop fR_X6_stop fR_X7_stop fF_X7_stop
  by_cases h1 : fR_X7_isPlow P x = 0
  · simp only [cP_p h.1 h1, if_pos h1, if_neg three0]
    exact Out_err (by decide) rfl h
  obtain ⟨c1, x1, k1⟩ := cP_q h.1 h1
  simp only [c1, if_neg h1, if_true]
  generalize x.toNatClampNeg = q at k1 ⊢
  have hgq := h.1.2.2.gP k1
  have h12 := hgq.1.1.2
  have e3 : fR_X7_ofPlow P q 3 = nI (nc P q) := hgq.1.1.1
  simp only [e3, nc_ag h.1.1 k1]
  by_cases h2 : fR_X7_in y 0 (nI (nc P q) - 1) = 0
  · simp only [cI_e (x := y) (n := nc P q) (by omega), if_pos h2, if_neg three0]
    exact Out_err (by decide) rfl h
  have c2 : fE_X6_checkIndex y (nI (nc P q)) = 0 := by rw [cI_e (by omega), if_neg h2]
  obtain ⟨-, k2⟩ := cI_n (by omega) c2
  simp only [c2, if_neg h2, if_true]
  refine Out_ask h ?_
  have e := ag_p h.1.1 k1 (8 + y.toNatClampNeg) (by omega)
  rw [show 169 + 20 * q + 8 + y.toNatClampNeg = 169 + 20 * q + (8 + y.toNatClampNeg) by omega]
  exact e
theorem M_terms {C : Nat → Int32} {G : Nat → Nat → Int32} {n : Nat} {Y F P V T Fm : Nat → Int32} {x y : Int32} (h : Rel C G n Y F P V T Fm) : Out 3 (fE_X6_terms C x y) (fR_X6_terms C x y) (fR_X7_terms P Fm x y) (fF_X7_terms P Fm x y) (Rel C G n Y F P V T (fF_X7_terms P Fm x y)) := by
  unfold fE_X6_terms fR_X6_terms fR_X7_terms fF_X7_terms
  by_cases h1 : fR_X7_in x 0 2 = 0
  · simp only [cI3_p h1, if_pos h1, if_neg three0]
    exact Out_err (by decide) rfl h
  simp only [cI3_q h1, if_neg h1, if_true]
  by_cases h2 : fR_X7_in y 0 3 = 0
  · simp only [cA_p h2, if_pos h2, if_neg Nat.one_ne_zero]
    exact Out_err (by decide) rfl h
  simp only [cA_q h2, if_neg h2, if_true]
  refine Out_ask h ?_
  obtain ⟨-, l1⟩ := in_nat (n := 2) (by decide) rfl (by decide) h1
  obtain ⟨-, l2⟩ := in_nat (n := 3) (by decide) rfl (by decide) h2
  exact ag_t h.1.1 (by omega) _ (by omega)
/-- the text changes -/
theorem Rel_txt {C : Nat → Int32} {G : Nat → Nat → Int32} {n t : Nat} {Y Y' F F' P V T T' Fm Fm' : Nat → Int32} (h : Rel C G n Y F P V T Fm) (h3 : Fm' 3 = Fm 3) (h1 : F' 1 = nI t) (h5 : Fm' 5 = nI t) (ht : t ≤ 150) (hY : ∀ j, j < t → Y' j = T' j) : Rel C G n Y' F' P V T' Fm' := by
  obtain ⟨a1, a2, a3, a4, a5, a6, a7, a8⟩ := h
  have e1 : tl5 F' = t := by
    unfold tl5
    rw [h1]
    exact nI_t (by omega)
  have e5 : tl Fm' = t := by
    unfold tl
    rw [h5]
    exact nI_t (by omega)
  exact ⟨a1, okC_c h3 a2, by rw [sc_c h3]; exact a3, a4, ⟨by rw [e1]; exact h1, by omega⟩, ⟨by rw [e5]; exact h5, by omega⟩, h1.trans h5.symm, fun j hj => hY j (by omega)⟩
theorem Rel.tlq {C : Nat → Int32} {G : Nat → Nat → Int32} {n : Nat} {Y F P V T Fm : Nat → Int32} (h : Rel C G n Y F P V T Fm) : tl5 F = tl Fm := by
  obtain ⟨a1, a2, a3, a4, a5, a6, a7, a8⟩ := h
  unfold tl5 tl
  rw [a7]
theorem M_append {C : Nat → Int32} {G : Nat → Nat → Int32} {n : Nat} {Y F P V T Fm : Nat → Int32} {x : Int32} (h : Rel C G n Y F P V T Fm) : Out 1 (fE_X6_append Y F x) (fR_X6_append Y F x) (fR_X7_append T Fm x) (fF_X7_append T Fm x) (Rel C G n (fY_X6_append Y F x) (fF_X6_append Y F x) P V (fT_X7_append T Fm x) (fF_X7_append T Fm x)) := by
  unfold fE_X6_append fR_X6_append fR_X7_append fF_X7_append fY_X6_append fF_X6_append fT_X7_append
  by_cases h1 : fR_X7_in x 0 127 = 0
  · simp only [cA_p h1, if_pos h1, if_neg Nat.one_ne_zero]
    exact Out_err (by decide) rfl h
  simp only [cA_q h1, if_neg h1, if_true]
  have h150 := h.2.2.2.2.2.1.2
  have e1 : F 1 = nI (tl5 F) := h.2.2.2.2.1.1
  rw [h.tlq] at e1 ⊢
  by_cases h2 : tl Fm = 150
  · simp only [if_pos h2, if_neg (show ¬ tl Fm < 150 by omega)]
    exact Out_err (by decide) rfl h
  simp only [if_neg h2, if_pos (show tl Fm < 150 by omega)]
  refine ⟨by rw [upd_n (by decide), upd_s]; rfl, fun _ => by rw [upd_s, e1, nI_1], Rel_txt (t := tl Fm + 1) h (by rw [upd_n (by decide), upd_n (by decide)]) (by rw [upd_s, e1, nI_1]) (by rw [upd_s]) (by omega) (fun j hj => ?_)⟩
  by_cases e : j = tl Fm
  · rw [e, upd_s, upd_s]
  · rw [upd_n e, upd_n e]
    exact h.2.2.2.2.2.2.2 j (by omega)
theorem M_clearText {C : Nat → Int32} {G : Nat → Nat → Int32} {n : Nat} {Y F P V T Fm : Nat → Int32} (h : Rel C G n Y F P V T Fm) : fF_X7_clearText Fm 6 = 0 ∧ fR_X6_clearText F = fR_X7_clearText Fm ∧ Rel C G n Y (fF_X6_clearText F) P V T (fF_X7_clearText Fm) := by
  unfold fF_X7_clearText fR_X6_clearText fR_X7_clearText fF_X6_clearText
  refine ⟨by rw [upd_n (by decide), upd_s], ?_, Rel_txt (t := 0) h (by rw [upd_n (by decide), upd_n (by decide)]) (by rw [upd_s]; rfl) (by rw [upd_s]; rfl) (by omega) (fun j hj => absurd hj (by omega))⟩
  show F 1 = upd Fm 6 0 5
  rw [upd_n (by decide)]
  exact h.2.2.2.2.2.2.1
theorem M_undo {C : Nat → Int32} {G : Nat → Nat → Int32} {n : Nat} {Y F P V T Fm : Nat → Int32} (h : Rel C G n Y F P V T Fm) : Out 2 (fE_X6_undo C G n) (fR_X6_undo C G n) (fR_X7_undo P V Fm) (fF_X7_undo P V Fm) (Rel (fC_X6_undo C G n) G (fn_X6_undo C G n) Y F (fP_X7_undo P V Fm) V T (fF_X7_undo P V Fm)) := by
  unfold fE_X6_undo fR_X6_undo fR_X7_undo fF_X7_undo fC_X6_undo fn_X6_undo fP_X7_undo
  have hn := h.2.2.1
  have h4 := h.n4
  rw [← hn]
  by_cases h1 : n = 0
  · simp only [if_pos h1, if_neg (show ¬ 0 < n by omega)]
    exact Out_err (by decide) rfl h
  simp only [if_neg h1, if_pos (show 0 < n by omega)]
  obtain ⟨a1, a2, a3, a4, a5, a6, a7, a8⟩ := h
  have e5 : upd (upd Fm 6 0) 3 (nI (n - 1)) 5 = Fm 5 := by rw [upd_n (by decide), upd_n (by decide)]
  have e3 : upd (upd Fm 6 0) 3 (nI (n - 1)) 3 = nI (n - 1) := upd_s
  have es : sc (upd (upd Fm 6 0) 3 (nI (n - 1))) = n - 1 := by
    unfold sc
    rw [e3]
    exact nI_t (by omega)
  refine ⟨by rw [upd_n (by decide), upd_s]; rfl, fun _ => rfl, ?_, ⟨by rw [es]; exact e3, by omega⟩, es.symm, fun i hi => a4 i (by unfold fn_X2_restore at hi; omega), a5, okT_c e5 a6, by rw [e5]; exact a7, fun j hj => a8 j (by rw [tl_c e5] at hj; exact hj)⟩
  refine (Cg.copy (a4 (n - 1) (by omega))).c (fun j hj => ?_)
  rw [bring_vm_v, if_pos (by omega)]
  rfl
