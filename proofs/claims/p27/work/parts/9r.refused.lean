/-! Calls that are refused: the answer, and that nothing changes. -/
theorem in_hi {x a b : Int32} (h : b < x) : fR_X7_in x a b = 0 := by
  unfold fR_X7_in
  by_cases h1 : x < a
  · rw [if_pos h1]
  · rw [if_neg h1, if_pos h]
theorem pred_lt {m : Nat} (hm : m < 100) : nI m - 1 < nI m := by
  cases m with
  | zero => decide
  | succ m => rw [nI_pred]; exact nI_lt (by omega) (by omega)
theorem cP_hi {C P : Nat → Int32} (h : Cg C P) : fE_X6_checkPlow C (nI (np P)) = 3 := cP_p h (by
  have := h.2.2.m3
  unfold fR_X7_isPlow
  rw [h.2.2.oN.2.2.1]
  exact in_hi (pred_lt (by omega)))
theorem cP_lo {C P : Nat → Int32} (h : Cg C P) : fE_X6_checkPlow C (-1) = 3 := cP_p h (by
  unfold fR_X7_isPlow fR_X7_in
  exact if_pos (by decide))
theorem cS_hi {C P : Nat → Int32} (h : Cg C P) : fE_X6_checkStreet C (nI (ns P)) = 3 := cS_p h (by
  have := h.2.2.n20
  unfold fR_X7_isStreet
  rw [h.2.2.oN.1]
  exact in_hi (pred_lt (by omega)))
theorem cW_hi : fE_X6_checkWeather 301 0 = 1 := by decide
theorem cW_sn : fE_X6_checkWeather 0 (-1) = 1 := by decide
theorem cW_00 : fE_X6_checkWeather 0 0 = 0 := by decide
theorem cW_101 : fE_X6_checkWeather 0 101 = 1 := by decide
theorem cW_999 : fE_X6_checkWeather 999 0 = 1 := by decide
theorem X_st1 {C P : Nat → Int32} {G Q : Nat → Nat → Int32} {n : Nat} (h : Sd C G n P Q) : ans (fE_X6_addStreet C G n 2001 0) (fR_X6_addStreet C G n 2001 0) = -90100 ∧ fn_X6_addStreet C G n 2001 0 = n ∧ Sd (fC_X6_addStreet C G n 2001 0) (fG_X6_addStreet C G n 2001 0) n P Q := by
  unfold fE_X6_addStreet fR_X6_addStreet fC_X6_addStreet fG_X6_addStreet fn_X6_addStreet
  simp only [show fE_X6_checkArgument 2001 10 2000 = 1 from by decide, if_neg Nat.one_ne_zero]
  exact ⟨rfl, trivial, h⟩
theorem X_st2 {C P : Nat → Int32} {G Q : Nat → Nat → Int32} {n : Nat} (h : Sd C G n P Q) : ans (fE_X6_addStreet C G n 10 (-1)) (fR_X6_addStreet C G n 10 (-1)) = -90100 ∧ fn_X6_addStreet C G n 10 (-1) = n ∧ Sd (fC_X6_addStreet C G n 10 (-1)) (fG_X6_addStreet C G n 10 (-1)) n P Q := by
  unfold fE_X6_addStreet fR_X6_addStreet fC_X6_addStreet fG_X6_addStreet fn_X6_addStreet
  simp only [show fE_X6_checkArgument 10 10 2000 = 0 from by decide, show fE_X6_checkArgument (-1) 0 2 = 1 from by decide, if_true, if_neg Nat.one_ne_zero]
  exact ⟨rfl, trivial, h⟩
theorem X_pl1 {C P : Nat → Int32} {G Q : Nat → Nat → Int32} {n : Nat} (h : Sd C G n P Q) : ans (fE_X6_addPlow C G n 5001 0) (fR_X6_addPlow C G n 5001 0) = -90100 ∧ fn_X6_addPlow C G n 5001 0 = n ∧ Sd (fC_X6_addPlow C G n 5001 0) (fG_X6_addPlow C G n 5001 0) n P Q := by
  unfold fE_X6_addPlow fR_X6_addPlow fC_X6_addPlow fG_X6_addPlow fn_X6_addPlow
  simp only [show fE_X6_checkArgument 5001 100 5000 = 1 from by decide, if_neg Nat.one_ne_zero]
  exact ⟨rfl, trivial, h⟩
theorem X_pl2 {C P : Nat → Int32} {G Q : Nat → Nat → Int32} {n : Nat} (h : Sd C G n P Q) : ans (fE_X6_addPlow C G n 100 (-1)) (fR_X6_addPlow C G n 100 (-1)) = -90100 ∧ fn_X6_addPlow C G n 100 (-1) = n ∧ Sd (fC_X6_addPlow C G n 100 (-1)) (fG_X6_addPlow C G n 100 (-1)) n P Q := by
  unfold fE_X6_addPlow fR_X6_addPlow fC_X6_addPlow fG_X6_addPlow fn_X6_addPlow
  simp only [show fE_X6_checkArgument 100 100 5000 = 0 from by decide, show fE_X6_checkArgument (-1) 0 5000 = 1 from by decide, if_true, if_neg Nat.one_ne_zero]
  exact ⟨rfl, trivial, h⟩
theorem X_so1 {C P : Nat → Int32} {G Q : Nat → Nat → Int32} {n : Nat} (h : Sd C G n P Q) : ans (fE_X6_addStop C G n (nI (np P)) 0) (fR_X6_addStop C G n (nI (np P)) 0) = -90300 ∧ fn_X6_addStop C G n (nI (np P)) 0 = n ∧ Sd (fC_X6_addStop C G n (nI (np P)) 0) (fG_X6_addStop C G n (nI (np P)) 0) n P Q := by
  unfold fE_X6_addStop fR_X6_addStop fC_X6_addStop fG_X6_addStop fn_X6_addStop
  simp only [cP_hi h.1, if_neg three0]
  exact ⟨rfl, trivial, h⟩
theorem X_so2 {C P : Nat → Int32} {G Q : Nat → Nat → Int32} {n : Nat} (h : Sd C G n P Q) : ans (fE_X6_addStop C G n (-1) 0) (fR_X6_addStop C G n (-1) 0) = -90300 ∧ fn_X6_addStop C G n (-1) 0 = n ∧ Sd (fC_X6_addStop C G n (-1) 0) (fG_X6_addStop C G n (-1) 0) n P Q := by
  unfold fE_X6_addStop fR_X6_addStop fC_X6_addStop fG_X6_addStop fn_X6_addStop
  simp only [cP_lo h.1, if_neg three0]
  exact ⟨rfl, trivial, h⟩
theorem X_so3 {C P : Nat → Int32} {G Q : Nat → Nat → Int32} {n : Nat} (h : Sd C G n P Q) : ans (fE_X6_addStop C G n 0 (nI (ns P))) (fR_X6_addStop C G n 0 (nI (ns P))) = -90300 ∧ fn_X6_addStop C G n 0 (nI (ns P)) = n ∧ Sd (fC_X6_addStop C G n 0 (nI (ns P))) (fG_X6_addStop C G n 0 (nI (ns P))) n P Q := by
  have h3 : fE_X6_checkPlow C 0 = 0 ∨ fE_X6_checkPlow C 0 = 3 := cP_v
  unfold fE_X6_addStop fR_X6_addStop fC_X6_addStop fG_X6_addStop fn_X6_addStop
  rcases h3 with h3 | h3
  · simp only [h3, cS_hi h.1, if_true, if_neg three0]
    exact ⟨rfl, trivial, h⟩
  · simp only [h3, if_neg three0]
    exact ⟨rfl, trivial, h⟩
theorem X_cl1 {C P : Nat → Int32} {G Q : Nat → Nat → Int32} {n : Nat} (h : Sd C G n P Q) : ans (fE_X6_clearRoute C G n (nI (np P))) (fR_X6_clearRoute C G n (nI (np P))) = -90300 ∧ fn_X6_clearRoute C G n (nI (np P)) = n ∧ Sd (fC_X6_clearRoute C G n (nI (np P))) (fG_X6_clearRoute C G n (nI (np P))) n P Q := by
  unfold fE_X6_clearRoute fR_X6_clearRoute fC_X6_clearRoute fG_X6_clearRoute fn_X6_clearRoute
  simp only [cP_hi h.1, if_neg three0]
  exact ⟨rfl, trivial, h⟩
theorem X_ex1 {C P : Nat → Int32} {G Q : Nat → Nat → Int32} {n : Nat} (h : Sd C G n P Q) : ans (fE_X6_exchange C G n (nI (np P)) 0) (fR_X6_exchange C G n (nI (np P)) 0) = -90300 ∧ fn_X6_exchange C G n (nI (np P)) 0 = n ∧ Sd (fC_X6_exchange C G n (nI (np P)) 0) (fG_X6_exchange C G n (nI (np P)) 0) n P Q := by
  unfold fE_X6_exchange fR_X6_exchange fC_X6_exchange fG_X6_exchange fn_X6_exchange
  simp only [cP_hi h.1, if_neg three0]
  exact ⟨rfl, trivial, h⟩
theorem X_te1 {C P : Nat → Int32} {G Q : Nat → Nat → Int32} {n : Nat} (h : Sd C G n P Q) : ans (fE_X6_setTerms C G n 3 0 0 0) (fR_X6_setTerms C G n 3 0 0 0) = -90300 ∧ fn_X6_setTerms C G n 3 0 0 0 = n ∧ Sd (fC_X6_setTerms C G n 3 0 0 0) (fG_X6_setTerms C G n 3 0 0 0) n P Q := by
  unfold fE_X6_setTerms fR_X6_setTerms fC_X6_setTerms fG_X6_setTerms fn_X6_setTerms
  simp only [show fE_X6_checkIndex 3 3 = 3 from by decide, if_neg three0]
  exact ⟨rfl, trivial, h⟩
theorem X_te2 {C P : Nat → Int32} {G Q : Nat → Nat → Int32} {n : Nat} (h : Sd C G n P Q) : ans (fE_X6_setTerms C G n 0 0 1 1) (fR_X6_setTerms C G n 0 0 1 1) = -90100 ∧ fn_X6_setTerms C G n 0 0 1 1 = n ∧ Sd (fC_X6_setTerms C G n 0 0 1 1) (fG_X6_setTerms C G n 0 0 1 1) n P Q := by
  unfold fE_X6_setTerms fR_X6_setTerms fC_X6_setTerms fG_X6_setTerms fn_X6_setTerms
  simp only [show fE_X6_checkIndex 0 3 = 0 from by decide, show fE_X6_checkArgument 0 1 200 = 1 from by decide, if_true, if_neg Nat.one_ne_zero]
  exact ⟨rfl, trivial, h⟩
theorem X_sp1 {C P : Nat → Int32} {G Q : Nat → Nat → Int32} {n : Nat} (h : Sd C G n P Q) : ans (fE_X6_setSpread C G n 51) (fR_X6_setSpread C G n 51) = -90100 ∧ fn_X6_setSpread C G n 51 = n ∧ Sd (fC_X6_setSpread C G n 51) (fG_X6_setSpread C G n 51) n P Q := by
  unfold fE_X6_setSpread fR_X6_setSpread fC_X6_setSpread fG_X6_setSpread fn_X6_setSpread
  simp only [show fE_X6_checkArgument 51 0 50 = 1 from by decide, if_neg Nat.one_ne_zero]
  exact ⟨rfl, trivial, h⟩
theorem X_de1 {C P : Nat → Int32} {G Q : Nat → Nat → Int32} {n : Nat} (h : Sd C G n P Q) : ans (fE_X6_deliver C G n (-1)) (fR_X6_deliver C G n (-1)) = -90100 ∧ fn_X6_deliver C G n (-1) = n ∧ Sd (fC_X6_deliver C G n (-1)) (fG_X6_deliver C G n (-1)) n P Q := by
  unfold fE_X6_deliver fR_X6_deliver fC_X6_deliver fG_X6_deliver fn_X6_deliver
  simp only [show fE_X6_checkArgument (-1) 0 100000 = 1 from by decide, if_neg Nat.one_ne_zero]
  exact ⟨rfl, trivial, h⟩
theorem X_de2 {C P : Nat → Int32} {G Q : Nat → Nat → Int32} {n : Nat} (h : Sd C G n P Q) : ans (fE_X6_deliver C G n 100001) (fR_X6_deliver C G n 100001) = -90100 ∧ fn_X6_deliver C G n 100001 = n ∧ Sd (fC_X6_deliver C G n 100001) (fG_X6_deliver C G n 100001) n P Q := by
  unfold fE_X6_deliver fR_X6_deliver fC_X6_deliver fG_X6_deliver fn_X6_deliver
  simp only [show fE_X6_checkArgument 100001 0 100000 = 1 from by decide, if_neg Nat.one_ne_zero]
  exact ⟨rfl, trivial, h⟩
theorem X_ru1 {C P : Nat → Int32} {G Q : Nat → Nat → Int32} {n : Nat} (h : Sd C G n P Q) : ans (fE_X6_run C G n 301 0 1) (fR_X6_run C G n 301 0 1) = -90100 ∧ fn_X6_run C G n 301 0 1 = n ∧ Sd (fC_X6_run C G n 301 0 1) (fG_X6_run C G n 301 0 1) n P Q := by
  unfold fE_X6_run fR_X6_run fC_X6_run fG_X6_run fn_X6_run
  simp only [cW_hi, if_neg Nat.one_ne_zero]
  exact ⟨rfl, trivial, h⟩
theorem X_ru2 {C P : Nat → Int32} {G Q : Nat → Nat → Int32} {n : Nat} (h : Sd C G n P Q) : ans (fE_X6_run C G n 0 (-1) 1) (fR_X6_run C G n 0 (-1) 1) = -90100 ∧ fn_X6_run C G n 0 (-1) 1 = n ∧ Sd (fC_X6_run C G n 0 (-1) 1) (fG_X6_run C G n 0 (-1) 1) n P Q := by
  unfold fE_X6_run fR_X6_run fC_X6_run fG_X6_run fn_X6_run
  simp only [cW_sn, if_neg Nat.one_ne_zero]
  exact ⟨rfl, trivial, h⟩
theorem X_ru3 {C P : Nat → Int32} {G Q : Nat → Nat → Int32} {n : Nat} (h : Sd C G n P Q) : ans (fE_X6_run C G n 0 0 (-1)) (fR_X6_run C G n 0 0 (-1)) = -90100 ∧ fn_X6_run C G n 0 0 (-1) = n ∧ Sd (fC_X6_run C G n 0 0 (-1)) (fG_X6_run C G n 0 0 (-1)) n P Q := by
  unfold fE_X6_run fR_X6_run fC_X6_run fG_X6_run fn_X6_run
  simp only [cW_00, show fE_X6_checkArgument (-1) 0 100 = 1 from by decide, if_true, if_neg Nat.one_ne_zero]
  exact ⟨rfl, trivial, h⟩
theorem X_va1 {C P : Nat → Int32} (h : Cg C P) : ans (fE_X6_value C 10) (fR_X6_value C 10) = -90100 := by
  unfold fE_X6_value fR_X6_value
  simp only [show fE_X6_checkArgument 10 0 9 = 1 from by decide, if_neg Nat.one_ne_zero]
  rfl
theorem X_va2 {C P : Nat → Int32} (h : Cg C P) : ans (fE_X6_value C (-1)) (fR_X6_value C (-1)) = -90100 := by
  unfold fE_X6_value fR_X6_value
  simp only [show fE_X6_checkArgument (-1) 0 9 = 1 from by decide, if_neg Nat.one_ne_zero]
  rfl
theorem X_se1 {C P : Nat → Int32} (h : Cg C P) : ans (fE_X6_street C (nI (ns P)) 9) (fR_X6_street C (nI (ns P)) 9) = -90300 := by
  unfold fE_X6_street fR_X6_street
  simp only [cS_hi h, if_neg three0]
  rfl
theorem X_pw1 {C P : Nat → Int32} (h : Cg C P) : ans (fE_X6_plow C (nI (np P)) 9) (fR_X6_plow C (nI (np P)) 9) = -90300 := by
  unfold fE_X6_plow fR_X6_plow
  simp only [cP_hi h, if_neg three0]
  rfl
theorem X_sx1 {C P : Nat → Int32} (h : Cg C P) : ans (fE_X6_stop C (nI (np P)) 0) (fR_X6_stop C (nI (np P)) 0) = -90300 := by
  unfold fE_X6_stop fR_X6_stop
  simp only [cP_hi h, if_neg three0]
  rfl
theorem X_tr1 {C P : Nat → Int32} (h : Cg C P) : ans (fE_X6_terms C (-1) 9) (fR_X6_terms C (-1) 9) = -90300 := by
  unfold fE_X6_terms fR_X6_terms
  simp only [show fE_X6_checkIndex (-1) 3 = 3 from by decide, if_neg three0]
  rfl
theorem X_ci1 {C J P : Nat → Int32} (h : Cg C P) : ans (fE_X6_creditsIn C J 0 101 0) (fR_X6_creditsIn C J 0 101 0) = -90100 := by
  unfold fE_X6_creditsIn fR_X6_creditsIn
  simp only [cW_101, if_neg Nat.one_ne_zero]
  rfl
theorem X_be1 {C J P : Nat → Int32} (h : Cg C P) : ans (fE_X6_bestExchange C J (nI (np P)) 999 0 0) (fR_X6_bestExchange C J (nI (np P)) 999 0 0) = -90300 := by
  unfold fE_X6_bestExchange fR_X6_bestExchange
  simp only [cP_hi h, if_neg three0]
  rfl
theorem X_ls1 {C J P : Nat → Int32} (h : Cg C P) : ans (fE_X6_leastSpeed C J (nI (np P)) 999 0 0) (fR_X6_leastSpeed C J (nI (np P)) 999 0 0) = -90300 := by
  unfold fE_X6_leastSpeed fR_X6_leastSpeed
  simp only [cP_hi h, if_neg three0]
  rfl
theorem X_em1 {C J P : Nat → Int32} (h : Cg C P) : ans (fE_X6_emptyIn C J 999 0) (fR_X6_emptyIn C J 999 0) = -90100 := by
  unfold fE_X6_emptyIn fR_X6_emptyIn
  simp only [cW_999, if_neg Nat.one_ne_zero]
  rfl
theorem X_be2 {C J P : Nat → Int32} {T S : Int32} {k : Nat} (h : Cg C P) (h0 : np P = 0) : ans (fE_X6_bestExchange C J 0 T S (nI k)) (fR_X6_bestExchange C J 0 T S (nI k)) = -90300 := by
  have c := cP_hi h
  rw [h0] at c
  unfold fE_X6_bestExchange fR_X6_bestExchange
  rw [show (0 : Int32) = nI 0 from rfl]
  simp only [c, if_neg three0]
  rfl
theorem X_ap1 {Y F : Nat → Int32} (hf : F 1 = 0) : ans (fE_X6_append Y F 128) (fR_X6_append Y F 128) = -90100 ∧ fF_X6_append Y F 128 1 = 0 := by
  unfold fE_X6_append fR_X6_append fF_X6_append
  simp only [show fE_X6_checkArgument 128 0 127 = 1 from by decide, if_neg Nat.one_ne_zero]
  exact ⟨rfl, hf⟩
/-- a text of no bytes is run: a state is saved, nothing else -/
theorem E_runText {C P : Nat → Int32} {G Q : Nat → Nat → Int32} {n : Nat} {Y X U Z F : Nat → Int32} (h : Sd C G n P Q) (hf : F 1 = 0) : ans (fE_X6_runText C G n Y X U Z F) (fR_X6_runText C G n Y X U Z F) = 0 ∧ fn_X6_runText C G n Y X U Z F = svN n + 1 ∧ Sd (fC_X6_runText C G n Y X U Z F) (fG_X6_runText C G n Y X U Z F) (svN n + 1) P (svQ Q n P) ∧ fF_X6_runText C G n Y X U Z F 1 = 0 := by
  have hl : tl5 (upd (upd (upd F 5 0) 6 0) 7 (-1)) ≤ ta5 (upd (upd (upd F 5 0) 6 0) 7 (-1)) := by
    unfold tl5
    rw [upd_n (by decide), upd_n (by decide), upd_n (by decide), hf]
    exact Nat.zero_le _
  have eF : fF_X5_readItems Y X U Z F = upd (upd (upd F 5 0) 6 0) 7 (-1) := by
    unfold fF_X5_readItems
    (try dsimp only)
    rw [fF_X5_readItems_L15, if_pos hl]
  have eR : fR_X5_readItems Y X U Z F = -1 := by
    unfold fR_X5_readItems
    (try dsimp only)
    rw [fR_X5_readItems_L15, if_pos hl, upd_s]
  have et : ti5 (upd (upd (upd F 5 0) 6 0) 7 (-1)) = 0 := by
    unfold ti5
    rw [upd_n (by decide), upd_n (by decide), upd_s]
    rfl
  obtain ⟨k, k1, k2⟩ := h.1.h0
  have e0 : C 0 = P 0 := ag_c h.1.1 (by decide) (by decide)
  have eH : ∀ Z', fE_X6_checkHoursToCome C (fR_X5_hoursOfItems Z' (upd (upd (upd F 5 0) 6 0) 7 (-1))) = 0 := fun Z' => by
    unfold fR_X5_hoursOfItems
    rw [et, fR_X5_hoursOfItems_L4]
    refine cH_q ?_
    rw [e0, k2, Int32.add_zero]
    exact nI_le (b := 2000) k1 (by decide)
  unfold fE_X6_runText fR_X6_runText fn_X6_runText fC_X6_runText fG_X6_runText fF_X6_runText
  simp only [eF, eR, eH, et, if_true]
  rw [fE_X6_runText_L44, fR_X6_runText_L44, fn_X6_runText_L44, fC_X6_runText_L44, fG_X6_runText_L44, fF_X6_runText_L44]
  refine ⟨rfl, rfl, Sd_done h h.1, ?_⟩
  rw [upd_n (by decide), upd_n (by decide), upd_n (by decide)]
  exact hf
