/-! What-if questions and the mean depth: class against reference. -/
def Tr (n m : Nat) (c : Nat → Nat) (B : Nat) (J P : Nat → Int32) : Prop := Ag n m c J P ∧ hrI n m c P ∧ rng n m B P
theorem Cg.tr {C P : Nat → Int32} (h : Cg C P) : Tr (ns P) (np P) (nc P) 200000 C P := by
  obtain ⟨a, b, g1, g2, k, h1, h2, h3⟩ := h
  exact ⟨a, g1, rng_B h3 (by omega)⟩
theorem Tr_hours {n m B sz k : Nat} {c : Nat → Nat} {tmp : Int32} {J P : Nat → Int32} (h : Tr n m c B J P) (ht : tmpR tmp) (hs : sz ≤ 100) (hB : B + 100 * k ≤ 300000) : fR_X0_passHours J tmp (nI sz) k = fR_X7_hours P tmp (nI sz) k := by
  obtain ⟨-, -, -, ⟨sm, a4, a5⟩, -⟩ := ch_hours (many := k) (many' := k) hs ht k B 0 (J 6) 0 0 J P h.1 h.2.1 h.2.2 hB
  show fR_X0_passHours_L9 tmp (nI sz) k k (J 6) 0 J = fR_X7_hours_L6 tmp (nI sz) k k 0 0 P
  rw [a4, a5, Int32.zero_add, Int32.add_comm, Int32.add_sub_cancel]
theorem Tr_hour {n m B sz : Nat} {c : Nat → Nat} {tmp : Int32} {J P : Nat → Int32} (h : Tr n m c B J P) (ht : tmpR tmp) (hs : sz ≤ 100) (hB : B + 100 ≤ 300000) : Tr n m c (B + 100) (fP_X0_passHour J tmp (nI sz)) (fP_X7_hour P tmp (nI sz)) := ⟨(ch_hour h.1 h.2.1 h.2.2 ht).1, hrI_hour h.2.1, rng_hour (by omega) hs ht h.2.2 h.2.1⟩
theorem M_creditsIn {C J S : Nat → Int32} {G : Nat → Nat → Int32} {n : Nat} {Y F P V T Fm : Nat → Int32} {tmp sn hrs : Int32} (h : Rel C G n Y F P V T Fm) : Out 1 (fE_X6_creditsIn C J tmp sn hrs) (fR_X6_creditsIn C J tmp sn hrs) (fR_X7_creditsIn P S Fm tmp sn hrs) (fF_X7_creditsIn P S Fm tmp sn hrs) (Rel C G n Y F P V T (fF_X7_creditsIn P S Fm tmp sn hrs)) := by
  unfold fE_X6_creditsIn fR_X6_creditsIn fR_X7_creditsIn fF_X7_creditsIn
  by_cases h1 : fR_X7_isWeather tmp sn = 0
  · simp only [cW_p h1, if_pos h1, if_neg Nat.one_ne_zero]
    exact Out_err (by decide) rfl h
  obtain ⟨c1, ht, sz, hs, es⟩ := cW_q h1
  simp only [c1, if_neg h1, if_true]
  by_cases h2 : fR_X7_in hrs 0 100 = 0
  · simp only [cA_p h2, if_pos h2, if_neg Nat.one_ne_zero]
    exact Out_err (by decide) rfl h
  simp only [cA_q h2, if_neg h2, if_true]
  obtain ⟨l1, l2⟩ := in_nat (n := 100) (by decide) rfl (by decide) h2
  refine Out_ask h ?_
  rw [es]
  exact Tr_hours (Cg.copy (X := J) h.1).tr ht hs (by omega)
theorem pair_st {C P : Nat → Int32} {q j : Nat} (h : Cg C P) (hq : q < np P) (hj : j ≤ 12) : (C (169 + 20 * q + 3) - 1 ≤ nI j ↔ fR_X7_isPair P q (nI j) = 0) := by
  have hq' : q < np C := by rw [np_ag h.1]; exact hq
  have hQ := h.okQ q hq'
  have e := cX_e (x := nI j) hQ
  rw [pair_ag h.1 hq] at e
  constructor
  · intro h1
    by_cases h2 : fR_X7_isPair P q (nI j) = 0
    · exact h2
    rw [if_neg h2] at e
    unfold fE_X6_checkIndex at e
    rw [if_neg (nI_pos (by omega)), if_neg (Int32.not_lt.2 h1)] at e
    exact absurd e (by decide)
  · intro h1
    rw [if_pos h1] at e
    unfold fE_X6_checkIndex at e
    rw [if_neg (nI_pos (by omega))] at e
    by_cases h2 : nI j < C (169 + 20 * q + 3) - 1
    · rw [if_pos h2] at e
      exact absurd e (by decide)
    · exact Int32.not_lt.1 h2
theorem less_p {x y : Int32} (h : y ≤ x) : fR_X7_lesser x y = y := if_pos h
theorem less_q {x y : Int32} (h : ¬ y ≤ x) : fR_X7_lesser x y = x := if_neg h
theorem best_eq {C P : Nat → Int32} {pl tmp hrs : Int32} {sz : Nat} (h : Cg C P) (hq : pl.toNatClampNeg < np P) (ht : tmpR tmp) (hs : sz ≤ 100) (hk : hrs.toNatClampNeg ≤ 50) : ∀ (k : Nat) (least best : Int32) (j : Nat) (J S F : Nat → Int32), j + k = 12 → fR_X6_bestExchange_L59 C pl tmp (nI sz) hrs k least best j J = fR_X7_bestExchange_L65 P pl tmp (nI sz) hrs k best least j S F
  | 0, least, best, j, J, S, F, _ => by rw [fR_X6_bestExchange_L59, fR_X7_bestExchange_L65]
  | k + 1, least, best, j, J, S, F, hj => by
    have hgq := h.2.2.gP hq
    have h12 := hgq.1.1.2
    have hq' : pl.toNatClampNeg < np C := by rw [np_ag h.1]; exact hq
    have hQ := h.okQ _ hq'
    rw [fR_X6_bestExchange_L59, fR_X7_bestExchange_L65]
    (try dsimp only)
    by_cases h1 : fR_X7_isPair P pl.toNatClampNeg (nI j) = 0
    · rw [if_pos h1, if_pos ((pair_st h hq (by omega)).mpr h1)]
    have h1' : ¬ C (169 + 20 * pl.toNatClampNeg + 3) - 1 ≤ nI j := fun a => h1 ((pair_st h hq (by omega)).mp a)
    have k2 := nc_gt hQ (by omega) h1'
    rw [nc_ag h.1 hq] at k2
    obtain ⟨g1, g2, -⟩ := hgq.2 (by omega)
    have eb : fR_X1_isBusyAtPair C pl.toNatClampNeg (nI j) = fR_X7_isBusy P pl.toNatClampNeg (nI j) := by
      rw [busy_ag h.1 hq]
      exact busy_eq (by omega) (by omega) g1
    rw [if_neg h1, if_neg h1', eb]
    by_cases h3 : fR_X7_isBusy P pl.toNatClampNeg (nI j) = 0
    · rw [if_pos h3, if_pos h3]
      have e7 : fR_X0_passHours (fP_X1_swapWithNext (fP_X0_copyFrom J C) pl.toNatClampNeg j) tmp (nI sz) hrs.toNatClampNeg = fR_X7_tried P S pl.toNatClampNeg j tmp (nI sz) hrs.toNatClampNeg := Tr_hours (P := fP_X7_exchanges P pl.toNatClampNeg j) (Cg_exg (Cg.copy (X := J) h) hq k2).tr ht hs (by omega)
      rw [e7]
      by_cases h4 : least ≤ fR_X7_tried P S pl.toNatClampNeg j tmp (nI sz) hrs.toNatClampNeg
      · rw [if_pos h4, if_pos h4, less_p h4]
        exact best_eq h hq ht hs hk k _ _ _ _ _ _ (by omega)
      · rw [if_neg h4, if_neg h4, less_q h4]
        exact best_eq h hq ht hs hk k _ _ _ _ _ _ (by omega)
    · rw [if_neg h3, if_neg h3]
      exact best_eq h hq ht hs hk k _ _ _ _ _ _ (by omega)
theorem best_F {P : Nat → Int32} {pl tmp sn hrs : Int32} : ∀ (k : Nat) (best least : Int32) (j : Nat) (S F : Nat → Int32), fF_X7_bestExchange_L65 P pl tmp sn hrs k best least j S F = F
  | 0, best, least, j, S, F => by rw [fF_X7_bestExchange_L65]
  | k + 1, best, least, j, S, F => by
    rw [fF_X7_bestExchange_L65]
    (try dsimp only)
    rw [best_F k, best_F k, best_F k, ite_self, ite_self, ite_self]
theorem M_bestExchange {C J S : Nat → Int32} {G : Nat → Nat → Int32} {n : Nat} {Y F P V T Fm : Nat → Int32} {pl tmp sn hrs : Int32} (h : Rel C G n Y F P V T Fm) : Out 3 (fE_X6_bestExchange C J pl tmp sn hrs) (fR_X6_bestExchange C J pl tmp sn hrs) (fR_X7_bestExchange P S Fm pl tmp sn hrs) (fF_X7_bestExchange P S Fm pl tmp sn hrs) (Rel C G n Y F P V T (fF_X7_bestExchange P S Fm pl tmp sn hrs)) := by
  unfold fE_X6_bestExchange fR_X6_bestExchange fR_X7_bestExchange fF_X7_bestExchange
  by_cases h0 : fR_X7_isPlow P pl = 0
  · simp only [cP_p h.1 h0, if_pos h0, if_neg three0]
    exact Out_err (by decide) rfl h
  obtain ⟨c0, x0, k0⟩ := cP_q h.1 h0
  simp only [c0, if_neg h0, if_true]
  by_cases h1 : fR_X7_isWeather tmp sn = 0
  · simp only [cW_p h1, if_pos h1, if_neg Nat.one_ne_zero]
    exact Out_err (by decide) rfl h
  obtain ⟨c1, ht, sz, hs, es⟩ := cW_q h1
  simp only [c1, if_neg h1, if_true]
  by_cases h2 : fR_X7_in hrs 0 50 = 0
  · simp only [cA_p h2, if_pos h2, if_neg Nat.one_ne_zero]
    exact Out_err (by decide) rfl h
  simp only [cA_q h2, if_neg h2, if_true, eL_best, best_F]
  obtain ⟨l1, l2⟩ := in_nat (n := 50) (by decide) rfl (by decide) h2
  refine Out_ask h ?_
  rw [es]
  have e3 : fR_X0_passHours (fP_X0_copyFrom J C) tmp (nI sz) hrs.toNatClampNeg = fR_X7_credits P S tmp (nI sz) hrs.toNatClampNeg := Tr_hours (Cg.copy (X := J) h.1).tr ht hs (by omega)
  rw [e3]
  exact best_eq h.1 k0 ht hs l2 _ _ _ _ _ _ _ (by omega)
theorem Cg_speed {C P : Nat → Int32} {q s : Nat} (h : Cg C P) (hq : q < np P) : Cg (upd C (169 + 20 * q + 0) (nI s)) (upd P (169 + 20 * q + 0) (nI s)) := by
  have hg := h.2.2
  have hm := hg.m3
  have h20 := hg.n20
  refine ⟨?_, ?_, ?_⟩
  · rw [ns_c (upd_n (by omega)), np_c (upd_n (by omega))]
    exact ag_cc (fun q' hq' => nc_c (upd_n (by omega))) (ag_u h.1 rfl)
  · rw [upd_n (by omega), h.2.1]
    exact (cs_c (upd_n (by omega)) (upd_n (by omega)) (upd_n (by omega))).symm
  · exact Good_mod hg (fun x hx => upd_n (by omega)) (fun i k hi hk => upd_n (by omega)) (fun q hq => gP_f (upd_n (by omega)) (upd_n (by omega)) (fun j hj => upd_n (by omega)) (Nat.le_refl _) (hg.gP hq)) (fun q hq => ⟨upd_n (by omega), upd_n (by omega)⟩) (by rw [upd_n (by omega)]; exact hg.s3) (by rw [upd_n (by omega)]; exact hg.s4) (limP_c (fun r hr => upd_n (by omega)) hg.lim)
theorem compl_ag {n m : Nat} {c : Nat → Nat} {J P : Nat → Int32} (h : Ag n m c J P) : fR_X0_complaints J = cs P := by
  rw [compl_eq]
  exact cs_c (ag_t h (r := 0) (by omega) 3 (by omega)) (ag_t h (r := 1) (by omega) 3 (by omega)) (ag_t h (r := 2) (by omega) 3 (by omega))
theorem add_nI0 {a : Int32} {z : Nat} (hz : z < 2 ^ 31) : a + nI z = a ↔ z = 0 := by
  constructor
  · intro h
    have h2 : nI z = nI 0 := by
      have : a + nI z - a = a - a := by rw [h]
      rw [Int32.add_comm, Int32.add_sub_cancel, Int32.sub_self] at this
      exact this
    exact (nI_eq hz (by omega)).mp h2
  · intro h
    rw [h]
    exact Int32.add_zero _
/-- the class stops at the first complaint, the reference counts them all -/
theorem wo_eq {n m sz many many' : Nat} {c : Nat → Nat} {tmp : Int32} (hs : sz ≤ 100) (ht : tmpR tmp) : ∀ (k B : Nat) (bf acc : Int32) (j jj : Nat) (J P : Nat → Int32), Tr n m c B J P → cs P = bf → P 5 = bf → B + 100 * k ≤ 300000 → (k ≤ 100) → (fR_X0_passesWithoutComplaint_L9 tmp (nI sz) many k bf j J = 0 ↔ ¬ fP_X7_hours_L6 tmp (nI sz) many' k acc jj P 5 = bf)
  | 0, B, bf, acc, j, jj, J, P, h, h1, h5, hB, hk => by
    rw [fR_X0_passesWithoutComplaint_L9, fP_X7_hours_L6, compl_ag h.1, if_pos h1, h5]
    exact ⟨fun a => absurd a (by decide), fun a => absurd rfl a⟩
  | k + 1, B, bf, acc, j, jj, J, P, h, h1, h5, hB, hk => by
    rw [fR_X0_passesWithoutComplaint_L9, fP_X7_hours_L6, compl_ag h.1, if_pos h1]
    (try dsimp only)
    obtain ⟨z, z1, z2, z3, -⟩ := hour_5 (tmp := tmp) (sn := nI sz) h.2.1.1
    have hT := Tr_hour h ht hs (by omega)
    by_cases e : z = 0
    · subst e
      rw [show nI 0 = 0 from rfl, Int32.add_zero] at z2 z3
      exact wo_eq hs ht k (B + 100) bf _ _ _ _ _ hT (z3.trans h1) (z2.trans h5) (by omega) (by omega)
    · have n1 : ¬ fR_X0_complaints (fP_X0_passHour J tmp (nI sz)) = bf := by
        rw [compl_ag hT.1, z3, h1]
        exact fun a => e ((add_nI0 (by omega)).mp a)
      have e1 : fR_X0_passesWithoutComplaint_L9 tmp (nI sz) many k bf (j + 1) (fP_X0_passHour J tmp (nI sz)) = 0 := by
        cases k with
        | zero => rw [fR_X0_passesWithoutComplaint_L9, if_neg n1]
        | succ k => rw [fR_X0_passesWithoutComplaint_L9, if_neg n1]
      obtain ⟨-, -, -, -, ⟨y, y1, y2, -⟩, -⟩ := ch_hours (many := many) (many' := many') hs ht k (B + 100) (acc + fR_X7_hour P tmp (nI sz)) 0 0 (jj + 1) _ _ hT.1 hT.2.1 hT.2.2 (by omega)
      refine ⟨fun _ a => ?_, fun _ => e1⟩
      rw [y2, z2, h5, Int32.add_assoc, nI_add] at a
      have := (add_nI0 (by omega)).mp a
      omega
theorem least_eq {C P : Nat → Int32} {pl tmp hrs : Int32} {sz : Nat} (h : Cg C P) (hq : pl.toNatClampNeg < np P) (ht : tmpR tmp) (hs : sz ≤ 100) (hk : hrs.toNatClampNeg ≤ 50) : ∀ (k spd : Nat) (J S F : Nat → Int32), spd + 100 * k ≤ 10000 → fR_X6_leastSpeed_L22 C pl tmp (nI sz) hrs k spd J = fR_X7_leastSpeed_L77 P pl tmp (nI sz) hrs k (-1) (P 5) spd S F
  | 0, spd, J, S, F, _ => by rw [fR_X6_leastSpeed_L22, fR_X7_leastSpeed_L77]
  | k + 1, spd, J, S, F, hb => by
    rw [fR_X6_leastSpeed_L22, fR_X7_leastSpeed_L77, if_pos rfl]
    (try dsimp only)
    have hm := h.2.2.m3
    have hC := Cg_speed (s := spd) (Cg.copy (X := J) h) hq
    have e5 : upd P (169 + 20 * pl.toNatClampNeg + 0) (nI spd) 5 = P 5 := upd_n (by omega)
    have key : fR_X0_passesWithoutComplaint (upd (fP_X0_copyFrom J C) (169 + 20 * pl.toNatClampNeg + 0) (nI spd)) tmp (nI sz) hrs.toNatClampNeg = 0 ↔ ¬ fP_X7_hours (upd P (169 + 20 * pl.toNatClampNeg + 0) (nI spd)) tmp (nI sz) hrs.toNatClampNeg 5 = P 5 := by
      have hb5 := hC.2.1
      rw [← e5]
      show fR_X0_passesWithoutComplaint_L9 tmp (nI sz) hrs.toNatClampNeg hrs.toNatClampNeg (fR_X0_complaints _) 0 _ = 0 ↔ _
      rw [compl_ag hC.1, ← hb5]
      exact wo_eq hs ht _ _ _ _ _ _ _ _ hC.tr hb5.symm rfl (by omega) (by omega)
    by_cases h1 : fP_X7_hours (upd P (169 + 20 * pl.toNatClampNeg + 0) (nI spd)) tmp (nI sz) hrs.toNatClampNeg 5 = P 5
    · rw [if_neg (fun a => key.mp a h1), if_pos h1]
      have n1 : ¬ nI spd = -1 := fun a => by
        have h2 := nI_pos (n := spd) (by omega)
        rw [a] at h2
        exact h2 (by decide)
      cases k with
      | zero => rw [fR_X7_leastSpeed_L77]
      | succ k => rw [fR_X7_leastSpeed_L77, if_neg n1]
    · rw [if_pos (key.mpr h1), if_neg h1]
      exact least_eq h hq ht hs hk k _ _ _ _ (by omega)
theorem least_F {P : Nat → Int32} {pl tmp sn hrs : Int32} : ∀ (k : Nat) (fnd cmp : Int32) (spd : Nat) (S F : Nat → Int32), fF_X7_leastSpeed_L77 P pl tmp sn hrs k fnd cmp spd S F = F
  | 0, fnd, cmp, spd, S, F => by rw [fF_X7_leastSpeed_L77]
  | k + 1, fnd, cmp, spd, S, F => by
    rw [fF_X7_leastSpeed_L77]
    (try dsimp only)
    rw [least_F k, least_F k, ite_self, ite_self]
theorem M_leastSpeed {C J S : Nat → Int32} {G : Nat → Nat → Int32} {n : Nat} {Y F P V T Fm : Nat → Int32} {pl tmp sn hrs : Int32} (h : Rel C G n Y F P V T Fm) : Out 3 (fE_X6_leastSpeed C J pl tmp sn hrs) (fR_X6_leastSpeed C J pl tmp sn hrs) (fR_X7_leastSpeed P S Fm pl tmp sn hrs) (fF_X7_leastSpeed P S Fm pl tmp sn hrs) (Rel C G n Y F P V T (fF_X7_leastSpeed P S Fm pl tmp sn hrs)) := by
  unfold fE_X6_leastSpeed fR_X6_leastSpeed fR_X7_leastSpeed fF_X7_leastSpeed
  by_cases h0 : fR_X7_isPlow P pl = 0
  · simp only [cP_p h.1 h0, if_pos h0, if_neg three0]
    exact Out_err (by decide) rfl h
  obtain ⟨c0, x0, k0⟩ := cP_q h.1 h0
  simp only [c0, if_neg h0, if_true]
  by_cases h1 : fR_X7_isWeather tmp sn = 0
  · simp only [cW_p h1, if_pos h1, if_neg Nat.one_ne_zero]
    exact Out_err (by decide) rfl h
  obtain ⟨c1, ht, sz, hs, es⟩ := cW_q h1
  simp only [c1, if_neg h1, if_true]
  by_cases h2 : fR_X7_in hrs 0 50 = 0
  · simp only [cA_p h2, if_pos h2, if_neg Nat.one_ne_zero]
    exact Out_err (by decide) rfl h
  simp only [cA_q h2, if_neg h2, if_true, eL_least, least_F]
  obtain ⟨l1, l2⟩ := in_nat (n := 50) (by decide) rfl (by decide) h2
  refine Out_ask h ?_
  rw [es]
  exact least_eq h.1 k0 ht hs l2 _ _ _ _ _ (by omega)
theorem empty_eq {n m sz : Nat} {c : Nat → Nat} {tmp : Int32} {C : Nat → Int32} (hs : sz ≤ 100) (ht : tmpR tmp) : ∀ (k B j : Nat) (J P S F : Nat → Int32), Tr n m c B J P → B + 100 * k ≤ 300000 → fR_X6_emptyIn_L18 C tmp (nI sz) k j J = fR_X7_emptyIn_L41 tmp (nI sz) k j P S F
  | 0, B, j, J, P, S, F, h, hB => by
    rw [fR_X6_emptyIn_L18, fR_X7_emptyIn_L41, ag_c h.1 (by decide) (by decide), ite_self]
  | k + 1, B, j, J, P, S, F, h, hB => by
    rw [fR_X6_emptyIn_L18, fR_X7_emptyIn_L41, ag_c h.1 (by decide) (by decide)]
    (try dsimp only)
    rw [empty_eq hs ht k (B + 100) (j + 1) _ _ S F (Tr_hour h ht hs (by omega)) (by omega)]
theorem empty_F {tmp sn : Int32} : ∀ (k j : Nat) (P S F : Nat → Int32), fF_X7_emptyIn_L41 tmp sn k j P S F = F
  | 0, j, P, S, F => by rw [fF_X7_emptyIn_L41, ite_self, ite_self]
  | k + 1, j, P, S, F => by
    rw [fF_X7_emptyIn_L41]
    (try dsimp only)
    rw [empty_F k, ite_self, ite_self]
theorem empty_P {tmp sn : Int32} {P : Nat → Int32} : ∀ (k j : Nat) (Pl S F : Nat → Int32), WF Pl → (∀ x, x < 241 → S x = P x) → (∀ x, 241 ≤ x → Pl x = P x) → fP_X7_emptyIn_L41 tmp sn k j Pl S F = P
  | 0, j, Pl, S, F, hw, hS, h1 => by
    rw [fP_X7_emptyIn_L41]
    (try dsimp only)
    rw [bring_back hS h1, ite_self, ite_self]
  | k + 1, j, Pl, S, F, hw, hS, h1 => by
    rw [fP_X7_emptyIn_L41]
    (try dsimp only)
    rw [bring_back hS h1, ite_self, empty_P k (j + 1) _ S F (WF_hour hw) hS (fun x hx => (fr_hour hw hx).trans (h1 x hx)), ite_self]
theorem M_emptyIn {C J S : Nat → Int32} {G : Nat → Nat → Int32} {n : Nat} {Y F P V T Fm : Nat → Int32} {tmp sn : Int32} (h : Rel C G n Y F P V T Fm) : Out 1 (fE_X6_emptyIn C J tmp sn) (fR_X6_emptyIn C J tmp sn) (fR_X7_emptyIn P S Fm tmp sn) (fF_X7_emptyIn P S Fm tmp sn) (Rel C G n Y F (fP_X7_emptyIn P S Fm tmp sn) V T (fF_X7_emptyIn P S Fm tmp sn)) := by
  unfold fE_X6_emptyIn fR_X6_emptyIn fR_X7_emptyIn fF_X7_emptyIn fP_X7_emptyIn
  by_cases h1 : fR_X7_isWeather tmp sn = 0
  · simp only [cW_p h1, if_pos h1, if_neg Nat.one_ne_zero]
    exact Out_err (by decide) rfl h
  obtain ⟨c1, ht, sz, hs, es⟩ := cW_q h1
  simp only [c1, if_neg h1, if_true, eL_empty, empty_F, empty_P 200 0 P (fS_X7_bring_ms P S 0 0) (upd Fm 6 0) h.1.2.2.1.1 (fun x hx => bring_ms hx) (fun x hx => rfl)]
  refine Out_ask h ?_
  rw [es]
  exact empty_eq hs ht _ _ _ _ _ _ _ (Cg.copy (X := J) h.1).tr (by omega)
theorem mean_eq {C P : Nat → Int32} {F : Nat → Int32} {n m : Nat} {c : Nat → Nat} (h : Ag n m c C P) : ∀ (k : Nat) (a b : Int64) (j : Nat), j + k ≤ n → fR_X6_meanDepth_L7 C k a b j = fR_X7_meanDepth_L12 P k a b j F
  | 0, a, b, j, _ => by rw [fR_X6_meanDepth_L7, fR_X7_meanDepth_L12]
  | k + 1, a, b, j, hj => by
    rw [fR_X6_meanDepth_L7, fR_X7_meanDepth_L12]
    (try dsimp only)
    rw [ag_s h (by omega) 2 (by omega), ag_s h (by omega) 0 (by omega)]
    exact mean_eq h k _ _ _ (by omega)
theorem mean_F {P : Nat → Int32} : ∀ (k : Nat) (a b : Int64) (j : Nat) (F : Nat → Int32), fF_X7_meanDepth_L12 P k a b j F = F
  | 0, a, b, j, F => by rw [fF_X7_meanDepth_L12, ite_self]
  | k + 1, a, b, j, F => by
    rw [fF_X7_meanDepth_L12]
    (try dsimp only)
    exact mean_F k _ _ _ _
theorem M_meanDepth {C : Nat → Int32} {G : Nat → Nat → Int32} {n : Nat} {Y F P V T Fm : Nat → Int32} (h : Rel C G n Y F P V T Fm) : fF_X7_meanDepth P Fm 6 = 0 ∧ fR_X6_meanDepth C = fR_X7_meanDepth P Fm ∧ Rel C G n Y F P V T (fF_X7_meanDepth P Fm) := by
  have e : fF_X7_meanDepth P Fm = upd Fm 6 0 := mean_F _ _ _ _ _
  rw [e]
  refine ⟨upd_s, ?_, Rel_err h⟩
  unfold fR_X6_meanDepth fR_X7_meanDepth
  rw [h.ns]
  exact mean_eq h.1.1 _ _ _ _ (by omega)
