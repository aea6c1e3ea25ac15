/-! What is read, and what is asked, in pages. -/
theorem Cg.self {C P : Nat → Int32} (h : Cg C P) : Cg P P := ⟨fun _ _ => rfl, h.2⟩
theorem dq33 {C P : Nat → Int32} {h0 : Int64} {q : Nat} (h : ∀ j, j < 8 + nc P q → C (169 + 20 * q + j) = P (169 + 20 * q + j)) : ∀ (k : Nat) (a : Int64) (j : Nat), j + k ≤ nc P q → fR_X6_mixPlow_L33 C h0 q k a j = fR_X6_mixPlow_L33 P h0 q k a j
  | 0, a, j, _ => by rw [fR_X6_mixPlow_L33, fR_X6_mixPlow_L33]
  | k + 1, a, j, hj => by
    rw [fR_X6_mixPlow_L33, fR_X6_mixPlow_L33]
    (try dsimp only)
    have e := h (8 + j) (by omega)
    rw [show 169 + 20 * q + 8 + j = 169 + 20 * q + (8 + j) by omega, e]
    exact dq33 h k _ _ (by omega)
theorem dq5 {C P : Nat → Int32} {h0 : Int64} {q : Nat} (hn : nc C q = nc P q) (h : ∀ j, j < 8 + nc P q → C (169 + 20 * q + j) = P (169 + 20 * q + j)) : ∀ (k : Nat) (a : Int64) (j : Nat), j + k = 8 → fR_X6_mixPlow_L5 C h0 q k a j = fR_X6_mixPlow_L5 P h0 q k a j
  | 0, a, j, hj => by
    rw [fR_X6_mixPlow_L5, fR_X6_mixPlow_L5, hn, dq33 h _ _ _ (by omega)]
  | k + 1, a, j, hj => by
    rw [fR_X6_mixPlow_L5, fR_X6_mixPlow_L5]
    (try dsimp only)
    rw [show fR_X1_number C q j = fR_X1_number P q j from h j (by omega)]
    exact dq5 hn h k _ _ (by omega)
theorem dqT {C P : Nat → Int32} {h0 : Int64} {t : Nat} (h : ∀ j, j < 4 → C (229 + 4 * t + j) = P (229 + 4 * t + j)) : ∀ (k : Nat) (a : Int64) (j : Nat), j + k ≤ 4 → fR_X6_mixTerms_L5 C h0 t k a j = fR_X6_mixTerms_L5 P h0 t k a j
  | 0, a, j, _ => by rw [fR_X6_mixTerms_L5, fR_X6_mixTerms_L5]
  | k + 1, a, j, hj => by
    rw [fR_X6_mixTerms_L5, fR_X6_mixTerms_L5]
    (try dsimp only)
    rw [show fR_X4_number C t j = fR_X4_number P t j from h j (by omega)]
    exact dqT h k _ _ (by omega)
theorem dq112 {C P : Nat → Int32} {n : Nat} {F F' : Nat → Int32} (h : Cg C P) : ∀ (k : Nat) (a : Int64) (j : Nat), j + k ≤ 3 → fR_X6_digest_L112 C n F k a j = fR_X6_digest_L112 P n F' k a j
  | 0, a, j, _ => by rw [fR_X6_digest_L112, fR_X6_digest_L112]
  | k + 1, a, j, hj => by
    rw [fR_X6_digest_L112, fR_X6_digest_L112]
    (try dsimp only)
    rw [show fR_X6_mixTerms C a j = fR_X6_mixTerms P a j from dqT (fun x hx => ag_t h.1 (by omega) x hx) _ _ _ (by omega)]
    exact dq112 h k _ _ (by omega)
theorem dq79 {C P F F' : Nat → Int32} {n : Nat} (h : Cg C P) : ∀ (k : Nat) (a : Int64) (j : Nat), j + k = np P → fR_X6_digest_L79 C n F k a j = fR_X6_digest_L79 P n F' k a j
  | 0, a, j, _ => by
    rw [fR_X6_digest_L79, fR_X6_digest_L79]
    exact dq112 h _ _ _ (by omega)
  | k + 1, a, j, hj => by
    rw [fR_X6_digest_L79, fR_X6_digest_L79]
    (try dsimp only)
    have e : fR_X6_mixPlow C a j = fR_X6_mixPlow P a j := dq5 (nc_ag h.1 (by omega)) (fun x hx => ag_p h.1 (by omega) x hx) _ _ _ (by omega)
    rw [e]
    exact dq79 h k _ _ (by omega)
theorem dq6 {C P : Nat → Int32} {h0 : Int64} {i : Nat} (h : Cg C P) (hi : i < ns P) : ∀ (k : Nat) (a : Int64) (j : Nat), j + k = 9 → fR_X6_mixStreet_L6 C h0 i k a j = fR_X6_mixStreet_L6 P h0 i k a j
  | 0, a, j, _ => by rw [fR_X6_mixStreet_L6, fR_X6_mixStreet_L6]
  | k + 1, a, j, hj => by
    rw [fR_X6_mixStreet_L6, fR_X6_mixStreet_L6]
    (try dsimp only)
    rw [street_eq h hi (by omega), ← street_eq h.self hi (by omega)]
    exact dq6 h hi k _ _ (by omega)
theorem dq45 {C P F F' : Nat → Int32} {n : Nat} (h : Cg C P) : ∀ (k : Nat) (a : Int64) (j : Nat), j + k = ns P → fR_X6_digest_L45 C n F k a j = fR_X6_digest_L45 P n F' k a j
  | 0, a, j, _ => by
    rw [fR_X6_digest_L45, fR_X6_digest_L45, np_ag h.1]
    exact dq79 h _ _ _ (by omega)
  | k + 1, a, j, hj => by
    rw [fR_X6_digest_L45, fR_X6_digest_L45]
    (try dsimp only)
    have e : fR_X6_mixStreet C a j = fR_X6_mixStreet P a j := dq6 h (by omega) _ _ _ (by omega)
    rw [e]
    exact dq45 h k _ _ (by omega)
theorem dq17 {C P F F' : Nat → Int32} {n : Nat} (h : Cg C P) : ∀ (k : Nat) (a : Int64) (j : Nat), j + k = 10 → fR_X6_digest_L17 C n F k a j = fR_X6_digest_L17 P n F' k a j
  | 0, a, j, _ => by
    rw [fR_X6_digest_L17, fR_X6_digest_L17, ns_ag h.1]
    exact dq45 h _ _ _ (by omega)
  | k + 1, a, j, hj => by
    rw [fR_X6_digest_L17, fR_X6_digest_L17]
    (try dsimp only)
    rw [value_eq h (by omega), ← value_eq h.self (by omega)]
    exact dq17 h k _ _ (by omega)
/-- the digest of a state, by its page -/
def dgP (P : Nat → Int32) (n : Nat) : Int64 := fR_X6_digest P n (fun _ => 0)
theorem digest_c {C P F : Nat → Int32} {n : Nat} (h : Cg C P) (hf : F 1 = 0) : fR_X6_digest C n F = dgP P n := by
  unfold dgP fR_X6_digest
  (try dsimp only)
  rw [hf]
  exact dq17 h _ _ _ (by omega)
/-- value, street, plow, stop, terms -/
theorem R_value {C P : Nat → Int32} {x : Int32} {k : Nat} (h : Cg C P) (hx : x = nI k) (hk : k ≤ 9) : ans (fE_X6_value C x) (fR_X6_value C x) = fR_X7_valueOf P k := by
  subst hx
  have i1 : ¬ fR_X7_in (nI k) 0 9 = 0 := in_ok (a := 0) (b := 9) rfl rfl (Nat.zero_le _) hk (by decide)
  unfold fE_X6_value fR_X6_value
  simp only [cA_q i1, if_true, nI_clamp (show k < 2 ^ 31 by omega), ans_0]
  exact value_eq h hk
theorem R_street {C P : Nat → Int32} {y : Int32} {i k : Nat} (h : Cg C P) (hi : i < ns P) (hy : y = nI k) (hk : k ≤ 8) : ans (fE_X6_street C (nI i) y) (fR_X6_street C (nI i) y) = fR_X7_ofStreet P i k := by
  subst hy
  have h20 := h.2.2.n20
  have i1 : ¬ fR_X7_in (nI k) 0 8 = 0 := in_ok (a := 0) (b := 8) rfl rfl (Nat.zero_le _) hk (by decide)
  obtain ⟨c1, -, -⟩ := cS_q h (isStreet_ok h.2.2.oN hi)
  unfold fE_X6_street fR_X6_street
  simp only [c1, cA_q i1, if_true, nI_clamp (show k < 2 ^ 31 by omega), nI_clamp (show i < 2 ^ 31 by omega), ans_0]
  exact street_eq h hi hk
theorem R_plow {C P : Nat → Int32} {y : Int32} {q k : Nat} (h : Cg C P) (hq : q < np P) (hy : y = nI k) (hk : k ≤ 7) : ans (fE_X6_plow C (nI q) y) (fR_X6_plow C (nI q) y) = P (169 + 20 * q + k) := by
  subst hy
  have hm := h.2.2.m3
  have i1 : ¬ fR_X7_in (nI k) 0 7 = 0 := in_ok (a := 0) (b := 7) rfl rfl (Nat.zero_le _) hk (by decide)
  obtain ⟨c1, -, -⟩ := cP_q h (isPlow_ok h.2.2.oN hq)
  unfold fE_X6_plow fR_X6_plow
  simp only [c1, cA_q i1, if_true, nI_clamp (show k < 2 ^ 31 by omega), nI_clamp (show q < 2 ^ 31 by omega), ans_0]
  exact ag_p h.1 hq k (by omega)
theorem R_stop {C P : Nat → Int32} {q j : Nat} (h : Cg C P) (hq : q < np P) (hj : j < nc P q) : ans (fE_X6_stop C (nI q) (nI j)) (fR_X6_stop C (nI q) (nI j)) = P (169 + 20 * q + 8 + j) := by
  have hm := h.2.2.m3
  have hQ := (h.2.2.gP hq).1.1
  have h12 := hQ.2
  obtain ⟨c1, -, -⟩ := cP_q h (isPlow_ok h.2.2.oN hq)
  have e3 : C (169 + 20 * q + 3) = nI (nc P q) := by rw [ag_p h.1 hq 3 (by omega)]; exact hQ.1
  have c2 : fE_X6_checkIndex (nI j) (C (169 + 20 * q + 3)) = 0 := by
    rw [e3]
    unfold fE_X6_checkIndex
    rw [if_neg (nI_pos (by omega)), if_pos (nI_lt hj (by omega))]
  unfold fE_X6_stop fR_X6_stop
  simp only [c1, if_true, nI_clamp (show j < 2 ^ 31 by omega), nI_clamp (show q < 2 ^ 31 by omega)]
  have en : nc C q = nc P q := nc_ag h.1 hq
  have c3 : fE_X6_checkIndex (nI j) (nI (nc P q)) = 0 := by rw [← e3]; exact c2
  simp only [c2, c3, en, if_true, ans_0]
  have e := ag_p h.1 hq (8 + j) (by omega)
  rw [← Nat.add_assoc] at e
  exact e
theorem R_stop_i {C P : Nat → Int32} {q j : Nat} (h : Cg C P) (hq : q < np P) (hj : nc P q ≤ j) (hj2 : j < 100) : ans (fE_X6_stop C (nI q) (nI j)) (fR_X6_stop C (nI q) (nI j)) = -90300 := by
  have hm := h.2.2.m3
  have hQ := (h.2.2.gP hq).1.1
  have h12 := hQ.2
  obtain ⟨c1, -, -⟩ := cP_q h (isPlow_ok h.2.2.oN hq)
  have e3 : C (169 + 20 * q + 3) = nI (nc P q) := by rw [ag_p h.1 hq 3 (by omega)]; exact hQ.1
  have c3 : fE_X6_checkIndex (nI j) (nI (nc P q)) = 3 := by
    unfold fE_X6_checkIndex
    rw [if_neg (nI_pos (by omega)), if_neg (nI_nlt hj (by omega))]
  unfold fE_X6_stop fR_X6_stop
  have en : nc C q = nc P q := nc_ag h.1 hq
  simp only [c1, if_true, nI_clamp (show q < 2 ^ 31 by omega), e3, en, c3, if_neg three0]
  rfl
theorem R_terms {C P : Nat → Int32} {x y : Int32} {t k : Nat} (h : Cg C P) (hx : x = nI t) (ht : t ≤ 2) (hy : y = nI k) (hk : k ≤ 3) : ans (fE_X6_terms C x y) (fR_X6_terms C x y) = P (229 + 4 * t + k) := by
  subst hx hy
  have i1 : ¬ fR_X7_in (nI t) 0 2 = 0 := in_ok (a := 0) (b := 2) rfl rfl (Nat.zero_le _) ht (by decide)
  have i2 : ¬ fR_X7_in (nI k) 0 3 = 0 := in_ok (a := 0) (b := 3) rfl rfl (Nat.zero_le _) hk (by decide)
  unfold fE_X6_terms fR_X6_terms
  simp only [cI3_q i1, cA_q i2, if_true, nI_clamp (show k < 2 ^ 31 by omega), nI_clamp (show t < 2 ^ 31 by omega), ans_0]
  exact ag_t h.1 (by omega) k (by omega)
/-- the questions -/
theorem A_credits {C J P : Nat → Int32} {T S : Int32} {k : Nat} (h : Cg C P) (hw : ¬ fR_X7_isWeather T S = 0) (hk : k ≤ 100) : ans (fE_X6_creditsIn C J T S (nI k)) (fR_X6_creditsIn C J T S (nI k)) = fR_X7_hours P T S k := by
  obtain ⟨c1, ht, sz, hs, es⟩ := cW_q hw
  have i2 : ¬ fR_X7_in (nI k) 0 100 = 0 := in_ok (a := 0) (b := 100) rfl rfl (Nat.zero_le _) hk (by decide)
  unfold fE_X6_creditsIn fR_X6_creditsIn
  simp only [c1, cA_q i2, if_true, nI_clamp (show k < 2 ^ 31 by omega), ans_0]
  rw [es]
  exact Tr_hours (Cg.copy (X := J) h).tr ht hs (by omega)
def bestP (P : Nat → Int32) (q : Nat) (T S : Int32) (k : Nat) : Int32 := fR_X7_bestExchange_L65 P (nI q) T S (nI k) 12 (-1) (fR_X7_hours P T S k) 0 (fun _ => 0) (fun _ => 0)
theorem A_best {C J P : Nat → Int32} {T S : Int32} {q k : Nat} (h : Cg C P) (hq : q < np P) (hw : ¬ fR_X7_isWeather T S = 0) (hk : k ≤ 50) : ans (fE_X6_bestExchange C J (nI q) T S (nI k)) (fR_X6_bestExchange C J (nI q) T S (nI k)) = bestP P q T S k := by
  obtain ⟨c1, ht, sz, hs, es⟩ := cW_q hw
  have hm := h.2.2.m3
  have i2 : ¬ fR_X7_in (nI k) 0 50 = 0 := in_ok (a := 0) (b := 50) rfl rfl (Nat.zero_le _) hk (by decide)
  obtain ⟨c0, -, -⟩ := cP_q h (isPlow_ok h.2.2.oN hq)
  have eq := nI_clamp (n := q) (by omega)
  have ek := nI_clamp (n := k) (by omega)
  unfold fE_X6_bestExchange fR_X6_bestExchange
  simp only [c0, c1, cA_q i2, if_true, eL_best, ans_0]
  rw [es]
  unfold bestP
  have e3 : fR_X0_passHours (fP_X0_copyFrom J C) T (nI sz) (nI k).toNatClampNeg = fR_X7_hours P T (nI sz) k := by
    rw [ek]
    exact Tr_hours (Cg.copy (X := J) h).tr ht hs (by omega)
  rw [e3]
  exact best_eq h (by rw [eq]; exact hq) ht hs (by omega) _ _ _ _ _ _ _ (by omega)
def leastP (P : Nat → Int32) (q : Nat) (T S : Int32) (k : Nat) : Int32 := fR_X7_leastSpeed_L77 P (nI q) T S (nI k) 50 (-1) (P 5) 100 (fun _ => 0) (fun _ => 0)
theorem A_least {C J P : Nat → Int32} {T S : Int32} {q k : Nat} (h : Cg C P) (hq : q < np P) (hw : ¬ fR_X7_isWeather T S = 0) (hk : k ≤ 50) : ans (fE_X6_leastSpeed C J (nI q) T S (nI k)) (fR_X6_leastSpeed C J (nI q) T S (nI k)) = leastP P q T S k := by
  obtain ⟨c1, ht, sz, hs, es⟩ := cW_q hw
  have hm := h.2.2.m3
  have i2 : ¬ fR_X7_in (nI k) 0 50 = 0 := in_ok (a := 0) (b := 50) rfl rfl (Nat.zero_le _) hk (by decide)
  obtain ⟨c0, -, -⟩ := cP_q h (isPlow_ok h.2.2.oN hq)
  have eq := nI_clamp (n := q) (by omega)
  have ek := nI_clamp (n := k) (by omega)
  unfold fE_X6_leastSpeed fR_X6_leastSpeed
  simp only [c0, c1, cA_q i2, if_true, eL_least, ans_0]
  rw [es]
  exact least_eq h (by rw [eq]; exact hq) ht hs (by omega) _ _ _ _ _ (by omega)
def emptyP (P : Nat → Int32) (T S : Int32) : Int32 := fR_X7_emptyIn_L41 T S 200 0 P (fun _ => 0) (fun _ => 0)
theorem A_empty {C J P : Nat → Int32} {T S : Int32} (h : Cg C P) (hw : ¬ fR_X7_isWeather T S = 0) : ans (fE_X6_emptyIn C J T S) (fR_X6_emptyIn C J T S) = emptyP P T S := by
  obtain ⟨c1, ht, sz, hs, es⟩ := cW_q hw
  unfold fE_X6_emptyIn fR_X6_emptyIn
  simp only [c1, if_true, eL_empty, ans_0]
  rw [es]
  exact empty_eq hs ht _ _ _ _ _ _ _ (Cg.copy (X := J) h).tr (by omega)
