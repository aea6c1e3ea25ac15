/-! What a good page is made of; the first public methods, class against reference. -/
def gP (n : Nat) (P : Nat → Int32) (q : Nat) : Prop := okE P q ∧ (0 < nc P q → P (169 + 20 * q + 4) = nI (pa P q) ∧ pa P q < nc P q ∧ ∀ j, j < nc P q → P (169 + 20 * q + 8 + j) = nI (rt P q j) ∧ rt P q j < n)
theorem nc_pos {P : Nat → Int32} {q : Nat} (hQ : okQ P q) : ¬ P (169 + 20 * q + 3) ≤ 0 ↔ 0 < nc P q := by
  have h12 := hQ.2
  rw [hQ.1]
  constructor
  · intro h
    by_cases e : nc P q = 0
    · rw [e] at h
      exact absurd (by decide) h
    · omega
  · intro h1 hle
    exact nI_nle h1 (by omega) hle
theorem Good_mk {P : Nat → Int32} (hN : okN P) (hR : ∀ i, i < ns P → okR P i) (hP : ∀ q, q < np P → gP (ns P) P q) (hh : ∃ h, h ≤ 2000 ∧ P 0 = nI h ∧ rng (ns P) (np P) (100 * h) P) : Good P := by
  have hW : ∀ q, q < np P → ¬ P (169 + 20 * q + 3) ≤ 0 → okW P q ∧ ∀ j, j < nc P q → rt P q j < ns P := fun q hq h0 => by
    have h1 := (nc_pos (hP q hq).1.1).mp h0
    obtain ⟨a, b, d⟩ := (hP q hq).2 h1
    have := hN.2.1
    exact ⟨⟨(hP q hq).1.1.1, (hP q hq).1.1.2, a, b, fun j hj => ⟨(d j hj).1, by have := (d j hj).2; omega, hR _ (d j hj).2⟩⟩, fun j hj => (d j hj).2⟩
  exact ⟨⟨⟨hN, hR, fun q hq h0 => (hW q hq h0).1⟩, rfl, rfl, fun q hq h0 => ⟨(hW q hq h0).1, rfl, (hW q hq h0).2⟩⟩, fun q hq => (hP q hq).1, hh⟩
theorem Good.oN {P : Nat → Int32} (h : Good P) : okN P := h.1.1.1
theorem Good.oR {P : Nat → Int32} (h : Good P) {i : Nat} (hi : i < ns P) : okR P i := h.1.1.2.1 i hi
theorem Good.gP {P : Nat → Int32} (h : Good P) {q : Nat} (hq : q < np P) : gP (ns P) P q := ⟨h.2.1 q hq, fun h0 => by
  obtain ⟨a, b, d⟩ := h.1.2.2.2 q hq ((nc_pos (h.2.1 q hq).1).mpr h0)
  exact ⟨a.2.2.1, a.2.2.2.1, fun j hj => ⟨(a.2.2.2.2 j hj).1, d j hj⟩⟩⟩
theorem gP_f {n n' : Nat} {P P1 : Nat → Int32} {q : Nat} (h3 : P1 (169 + 20 * q + 3) = P (169 + 20 * q + 3)) (h4 : P1 (169 + 20 * q + 4) = P (169 + 20 * q + 4)) (hr : ∀ j, j < 12 → P1 (169 + 20 * q + 8 + j) = P (169 + 20 * q + 8 + j)) (hn : n ≤ n') (h : gP n P q) : gP n' P1 q := by
  have e := nc_c h3
  refine ⟨okE_f h3 (fun _ => h4) h.1, fun h0 => ?_⟩
  rw [e] at h0
  obtain ⟨a, b, d⟩ := h.2 h0
  have h12 := h.1.1.2
  rw [e, pa_c h4, h4]
  refine ⟨a, b, fun j hj => ?_⟩
  rw [rt_c (hr j (by omega)), hr j (by omega)]
  exact ⟨(d j hj).1, by have := (d j hj).2; omega⟩
theorem nI_t {n : Nat} (h : n < 2 ^ 31) : (nI n).toNatClampNeg = n := nI_clamp h
theorem cA_p {x a b : Int32} (h : fR_X7_in x a b = 0) : fE_X6_checkArgument x a b = 1 := by rw [cA_e, if_pos h]
theorem cA_q {x a b : Int32} (h : ¬ fR_X7_in x a b = 0) : fE_X6_checkArgument x a b = 0 := by rw [cA_e, if_neg h]
/-- a street more -/
theorem Good_street {P P1 : Nat → Int32} (h : Good P) (hi : ns P < 20) (fr : ∀ x, x ≠ 1 → ¬ (9 + 8 * ns P ≤ x ∧ x < 9 + 8 * ns P + 8) → P1 x = P x) (h1 : P1 1 = nI (ns P + 1)) (hp : ∃ p, p < 3 ∧ P1 (9 + 8 * ns P + 1) = nI p) (hl : rS P1 (ns P) 0) : Good P1 := by
  have e1 : ns P1 = ns P + 1 := by
    unfold ns at *
    rw [h1]
    exact nI_t (by omega)
  have e2 : np P1 = np P := np_c (fr 2 (by omega) (by omega))
  have hm := h.m3
  refine Good_mk ⟨by rw [e1]; exact h1, by omega, by rw [e2, fr 2 (by omega) (by omega)]; exact h.oN.2.2.1, by omega⟩ (fun i hi2 => ?_) (fun q hq => ?_) ?_
  · by_cases e : i = ns P
    · subst e
      obtain ⟨p, a, b⟩ := hp
      have e3 : pr P1 (ns P) = p := by
        unfold pr
        rw [b]
        exact nI_t (by omega)
      exact ⟨by rw [e3]; exact b, by omega⟩
    · exact okR_c (fr _ (by omega) (by omega)) (h.oR (by omega))
  · exact gP_f (fr _ (by omega) (by omega)) (fr _ (by omega) (by omega)) (fun j hj => fr _ (by omega) (by omega)) (by omega) (h.gP (by omega))
  · obtain ⟨k, a, b, d1, d2⟩ := h.2.2
    refine ⟨k, a, by rw [fr 0 (by omega) (by omega)]; exact b, fun i hi2 => ?_, ?_⟩
    · by_cases e : i = ns P
      · subst e
        exact rS_mono hl (by omega)
      · exact rS_c (fr _ (by omega) (by omega)) (fr _ (by omega) (by omega)) (fr _ (by omega) (by omega)) (fr _ (by omega) (by omega)) (d1 i (by omega))
    · rw [e2]
      exact rO_c (fun q hq => ⟨fr _ (by omega) (by omega), fr _ (by omega) (by omega)⟩) (fr _ (by omega) (by omega)) (fr _ (by omega) (by omega)) (fun r hr => fr _ (by omega) (by omega)) d2
/-- agreement grows by a street, a plow, places -/
theorem ag_str {n m : Nat} {c : Nat → Nat} {P P' : Nat → Int32} (h : Ag n m c P P') (hs : ∀ k, k < 8 → P (9 + 8 * n + k) = P' (9 + 8 * n + k)) : Ag (n + 1) m c P P' := fun j hj => by
  rcases hj with a | ⟨i, k, h1, h2, rfl⟩ | ⟨q, k, h1, h2, rfl⟩ | ⟨k, h1, rfl⟩
  · exact h _ (Or.inl a)
  · by_cases e : i = n
    · subst e
      exact hs k h2
    · exact h _ (Or.inr (Or.inl ⟨i, k, by omega, h2, rfl⟩))
  · exact h _ (Or.inr (Or.inr (Or.inl ⟨q, k, h1, h2, rfl⟩)))
  · exact h _ (Or.inr (Or.inr (Or.inr ⟨k, h1, rfl⟩)))
theorem ag_plw {n m : Nat} {c c' : Nat → Nat} {P P' : Nat → Int32} (h : Ag n m c P P') (hc : ∀ q, q < m → c' q = c q) (hs : ∀ k, k < 8 + c' m → P (169 + 20 * m + k) = P' (169 + 20 * m + k)) : Ag n (m + 1) c' P P' := fun j hj => by
  rcases hj with a | ⟨i, k, h1, h2, rfl⟩ | ⟨q, k, h1, h2, rfl⟩ | ⟨k, h1, rfl⟩
  · exact h _ (Or.inl a)
  · exact h _ (Or.inr (Or.inl ⟨i, k, h1, h2, rfl⟩))
  · by_cases e : q = m
    · subst e
      exact hs k h2
    · exact h _ (Or.inr (Or.inr (Or.inl ⟨q, k, by omega, by rw [← hc q (by omega)]; exact h2, rfl⟩)))
  · exact h _ (Or.inr (Or.inr (Or.inr ⟨k, h1, rfl⟩)))
theorem ag_plc {n m : Nat} {c c' : Nat → Nat} {P P' : Nat → Int32} (h : Ag n m c P P') (hs : ∀ q j, q < m → c q ≤ j → j < c' q → P (169 + 20 * q + 8 + j) = P' (169 + 20 * q + 8 + j)) : Ag n m c' P P' := fun j hj => by
  rcases hj with a | ⟨i, k, h1, h2, rfl⟩ | ⟨q, k, h1, h2, rfl⟩ | ⟨k, h1, rfl⟩
  · exact h _ (Or.inl a)
  · exact h _ (Or.inr (Or.inl ⟨i, k, h1, h2, rfl⟩))
  · by_cases e : k < 8 + c q
    · exact h _ (Or.inr (Or.inr (Or.inl ⟨q, k, h1, e, rfl⟩)))
    · have := hs q (k - 8) h1 (by omega) (by omega)
      rw [show 169 + 20 * q + 8 + (k - 8) = 169 + 20 * q + k by omega] at this
      exact this
  · exact h _ (Or.inr (Or.inr (Or.inr ⟨k, h1, rfl⟩)))
theorem stL74P {len pri : Int32} {i : Nat} {P V F : Nat → Int32} : fP_X7_addStreet_L74 len pri 8 (9 + 8 * i) 0 P V F = upd (fP_X3_begin P i len pri) 1 (fP_X3_begin P i len pri 1 + 1) := by
  simp [fP_X7_addStreet_L74, fP_X3_begin]
theorem stL74R {len pri : Int32} {i : Nat} {P V F : Nat → Int32} : fR_X7_addStreet_L74 len pri 8 (9 + 8 * i) 0 P V F = fP_X7_addStreet_L74 len pri 8 (9 + 8 * i) 0 P V F 1 - 1 := by
  simp [fP_X7_addStreet_L74, fR_X7_addStreet_L74]
theorem stL74V {len pri : Int32} {i : Nat} {P V F : Nat → Int32} : fV_X7_addStreet_L74 len pri 8 (9 + 8 * i) 0 P V F = V := by
  simp [fV_X7_addStreet_L74]
theorem stL74F {len pri : Int32} {i : Nat} {P V F : Nat → Int32} : fF_X7_addStreet_L74 len pri 8 (9 + 8 * i) 0 P V F = F := by
  simp [fF_X7_addStreet_L74]
theorem begS_f {P : Nat → Int32} {i x : Nat} {len pri : Int32} (h : ¬ (9 + 8 * i ≤ x ∧ x < 9 + 8 * i + 8)) : fP_X3_begin P i len pri x = P x := by
  unfold fP_X3_begin
  rw [upd_n (by omega), upd_n (by omega), upd_n (by omega), upd_n (by omega), upd_n (by omega), upd_n (by omega), upd_n (by omega), upd_n (by omega)]
theorem begS_v {P : Nat → Int32} {i : Nat} {len pri : Int32} : fP_X3_begin P i len pri (9 + 8 * i + 0) = len ∧ fP_X3_begin P i len pri (9 + 8 * i + 1) = pri ∧ fP_X3_begin P i len pri (9 + 8 * i + 2) = 0 ∧ fP_X3_begin P i len pri (9 + 8 * i + 3) = 0 ∧ fP_X3_begin P i len pri (9 + 8 * i + 4) = 0 ∧ fP_X3_begin P i len pri (9 + 8 * i + 5) = 0 ∧ fP_X3_begin P i len pri (9 + 8 * i + 6) = 0 ∧ fP_X3_begin P i len pri (9 + 8 * i + 7) = -1 := by
  unfold fP_X3_begin
  refine ⟨?_, ?_, ?_, ?_, ?_, ?_, ?_, ?_⟩ <;> (repeat first | rw [upd_s] | rw [upd_n (by omega)])

def Out (c1 e : Nat) (a a' : Int32) (Fm : Nat → Int32) (R : Prop) : Prop := kq c1 e = Fm 6 ∧ (e = 0 → a = a') ∧ R
theorem Out_err {c1 e : Nat} {a a' x : Int32} {C : Nat → Int32} {G : Nat → Nat → Int32} {n : Nat} {Y F P V T Fm : Nat → Int32} (he : ¬ e = 0) (hx : (if e = c1 then (1 : Int32) else 2) = x) (h : Rel C G n Y F P V T Fm) : Out c1 e a a' (upd Fm 6 x) (Rel C G n Y F P V T (upd Fm 6 x)) := ⟨by unfold kq; rw [if_neg he, hx, upd_s], fun h0 => absurd h0 he, Rel_err h⟩
theorem Out_done {c1 : Nat} {a a' : Int32} {C C' : Nat → Int32} {G : Nat → Nat → Int32} {n : Nat} {Y F P P' V T Fm : Nat → Int32} (h : Rel C G n Y F P V T Fm) (ha : a = a') (hC : Cg C' P') : Out c1 0 a a' (fF_X7_keep P V (upd Fm 6 0)) (Rel C' (svL G n C) (svN n + 1) Y F P' (fV_X7_keep P V (upd Fm 6 0)) T (fF_X7_keep P V (upd Fm 6 0))) := ⟨by rw [done_6 h.2.1]; rfl, fun _ => ha, Rel_done h hC⟩
theorem Rel.ns {C : Nat → Int32} {G : Nat → Nat → Int32} {n : Nat} {Y F P V T Fm : Nat → Int32} (h : Rel C G n Y F P V T Fm) : ns C = ns P := ns_ag h.1.1
theorem Rel.np {C : Nat → Int32} {G : Nat → Nat → Int32} {n : Nat} {Y F P V T Fm : Nat → Int32} (h : Rel C G n Y F P V T Fm) : np C = np P := np_ag h.1.1
theorem begS_ag {n m i : Nat} {c : Nat → Nat} {P P' : Nat → Int32} {len pri : Int32} (h : Ag n m c P P') : Ag n m c (fP_X3_begin P i len pri) (fP_X3_begin P' i len pri) := ag_u (ag_u (ag_u (ag_u (ag_u (ag_u (ag_u (ag_u h rfl) rfl) rfl) rfl) rfl) rfl) rfl) rfl
theorem M_addStreet {C : Nat → Int32} {G : Nat → Nat → Int32} {n : Nat} {Y F P V T Fm : Nat → Int32} {len pri : Int32} (h : Rel C G n Y F P V T Fm) : Out 1 (fE_X6_addStreet C G n len pri) (fR_X6_addStreet C G n len pri) (fR_X7_addStreet P V Fm len pri) (fF_X7_addStreet P V Fm len pri) (Rel (fC_X6_addStreet C G n len pri) (fG_X6_addStreet C G n len pri) (fn_X6_addStreet C G n len pri) Y F (fP_X7_addStreet P V Fm len pri) (fV_X7_addStreet P V Fm len pri) T (fF_X7_addStreet P V Fm len pri)) := by
  unfold fE_X6_addStreet fR_X6_addStreet fR_X7_addStreet fF_X7_addStreet fC_X6_addStreet fG_X6_addStreet fn_X6_addStreet fP_X7_addStreet fV_X7_addStreet
  by_cases h1 : fR_X7_in len 10 2000 = 0
  · simp only [cA_p h1, if_pos h1, if_neg Nat.one_ne_zero]
    exact Out_err (by decide) rfl h
  simp only [cA_q h1, if_neg h1, if_true]
  by_cases h2 : fR_X7_in pri 0 2 = 0
  · simp only [cA_p h2, if_pos h2, if_neg Nat.one_ne_zero]
    exact Out_err (by decide) rfl h
  simp only [cA_q h2, if_neg h2, if_true]
  have hg := h.1.2.2
  have h20 := hg.n20
  by_cases h3 : ns P = 20
  · simp only [h.ns, if_pos h3, if_neg (show ¬ ns P < 20 by omega)]
    exact Out_err (by decide) rfl h
  simp only [h.ns, if_neg h3, if_pos (show ns P < 20 by omega), stL74R, stL74V, stL74F, stL74P]
  have hag : Ag (ns P) (np P) (nc P) (upd (fP_X3_begin C (ns P) len pri) 1 (fP_X3_begin C (ns P) len pri 1 + 1)) (upd (fP_X3_begin P (ns P) len pri) 1 (fP_X3_begin P (ns P) len pri 1 + 1)) := ag_u (begS_ag h.1.1) (by rw [ag_c (begS_ag h.1.1) (by decide) (by decide)])
  obtain ⟨v0, v1, v2, v3, v4, v5, v6, v7⟩ := begS_v (P := P) (i := ns P) (len := len) (pri := pri)
  obtain ⟨w0, w1, w2, w3, w4, w5, w6, w7⟩ := begS_v (P := C) (i := ns P) (len := len) (pri := pri)
  have p1 : upd (fP_X3_begin P (ns P) len pri) 1 (fP_X3_begin P (ns P) len pri 1 + 1) 1 = nI (ns P + 1) := by rw [upd_s, begS_f (by omega), hg.oN.1, nI_1]
  have fr : ∀ x, x ≠ 1 → ¬ (9 + 8 * ns P ≤ x ∧ x < 9 + 8 * ns P + 8) → upd (fP_X3_begin P (ns P) len pri) 1 (fP_X3_begin P (ns P) len pri 1 + 1) x = P x := fun x hx1 hx2 => by rw [upd_n hx1, begS_f hx2]
  have e1 : ns (upd (fP_X3_begin P (ns P) len pri) 1 (fP_X3_begin P (ns P) len pri 1 + 1)) = ns P + 1 := by
    unfold ns at p1 ⊢
    rw [p1]
    exact nI_t (by unfold ns at h3 h20; omega)
  refine Out_done h (by rw [ag_c hag (by decide) (by decide)]) ⟨?_, ?_, ?_⟩
  · rw [e1, np_c (fr 2 (by omega) (by omega))]
    have hm := hg.m3
    refine ag_cc (fun q hq => nc_c (fr _ (by omega) (by omega))) (ag_str hag (fun k hk => ?_))
    rw [upd_n (by omega), upd_n (by omega)]
    rcases (show k = 0 ∨ k = 1 ∨ k = 2 ∨ k = 3 ∨ k = 4 ∨ k = 5 ∨ k = 6 ∨ k = 7 by omega) with rfl | rfl | rfl | rfl | rfl | rfl | rfl | rfl
    · rw [v0, w0]
    · rw [v1, w1]
    · rw [v2, w2]
    · rw [v3, w3]
    · rw [v4, w4]
    · rw [v5, w5]
    · rw [v6, w6]
    · rw [v7, w7]
  · rw [fr 5 (by omega) (by omega), h.1.2.1]
    exact (cs_c (fr _ (by omega) (by omega)) (fr _ (by omega) (by omega)) (fr _ (by omega) (by omega))).symm
  · obtain ⟨l1, l2⟩ := in_nat (n := 2000) (by decide) rfl (by decide) h1
    obtain ⟨q1, q2⟩ := in_nat (n := 2) (by decide) rfl (by decide) h2
    refine Good_street hg (by omega) fr p1 ⟨pri.toNatClampNeg, by omega, by rw [upd_n (by omega), v1]; exact q1⟩ ⟨len.toNatClampNeg, 0, 0, 0, l2, by omega, by omega, by omega, by rw [upd_n (by omega), v0]; exact l1, by rw [upd_n (by omega), v2]; rfl, by rw [upd_n (by omega), v3]; rfl, by rw [upd_n (by omega), v4]; rfl⟩
