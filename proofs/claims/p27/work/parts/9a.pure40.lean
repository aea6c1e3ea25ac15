/-! The relation of the class's state and the reference's. -/
/-- a plow's places are a number up to 12; one with none stands at its start -/
def okE (P : Nat → Int32) (q : Nat) : Prop := okQ P q ∧ (nc P q = 0 → P (169 + 20 * q + 4) = 0)
def Good (P : Nat → Int32) : Prop := hrI (ns P) (np P) (nc P) P ∧ (∀ q, q < np P → okE P q) ∧ ∃ h, h ≤ 2000 ∧ P 0 = nI h ∧ rng (ns P) (np P) (100 * h) P
/-- a contract's page and the reference's -/
def Cg (C P : Nat → Int32) : Prop := Ag (ns P) (np P) (nc P) C P ∧ P 5 = cs P ∧ Good P
def Rel (C : Nat → Int32) (G : Nat → Nat → Int32) (n : Nat) (Y F P V T Fm : Nat → Int32) : Prop := Cg C P ∧ okC Fm ∧ n = sc Fm ∧ (∀ i, i < n → Cg (G i) (svp V i)) ∧ okT5 F ∧ okT Fm ∧ F 1 = Fm 5 ∧ ∀ j, j < tl Fm → Y j = T j
theorem hrI_cc {n m : Nat} {c c' : Nat → Nat} {P : Nat → Int32} (hc : ∀ q, q < m → c q = c' q) (h : hrI n m c P) : hrI n m c' P := ⟨h.1, h.2.1, h.2.2.1, fun q hq h0 => by
  obtain ⟨a, b, d⟩ := h.2.2.2 q hq h0
  exact ⟨a, by rw [← hc q hq]; exact b, fun j hj => d j (by rw [hc q hq]; exact hj)⟩⟩
theorem ag_cc {n m : Nat} {c c' : Nat → Nat} {P P' : Nat → Int32} (hc : ∀ q, q < m → c' q = c q) (h : Ag n m c P P') : Ag n m c' P P' := ag_mono h (fun q hq => by rw [hc q hq]; exact Nat.le_refl _)
theorem rng_B {n m B B' : Nat} {P : Nat → Int32} (h : rng n m B P) (hB : B ≤ B') : rng n m B' P := ⟨fun i hi => rS_mono (h.1 i hi) hB, h.2⟩
theorem rng_ag {n m B : Nat} {c : Nat → Nat} {P P' : Nat → Int32} (h : Ag n m c P P') (hr : rng n m B P') : rng n m B P :=
  rng_c (fun i k hi hk => ag_s h hi k (by omega)) (fun q k hq hk => ag_p h hq k (by omega)) (ag_c h (by decide) (by decide)) (ag_c h (by decide) (by decide)) (fun r hr => ag_t h hr 1 (by decide)) hr
theorem ns_ag {n m : Nat} {c : Nat → Nat} {P P' : Nat → Int32} (h : Ag n m c P P') : ns P = ns P' := ns_c (ag_c h (by decide) (by decide))
theorem np_ag {n m : Nat} {c : Nat → Nat} {P P' : Nat → Int32} (h : Ag n m c P P') : np P = np P' := np_c (ag_c h (by decide) (by decide))
theorem nc_ag {n m : Nat} {c : Nat → Nat} {P P' : Nat → Int32} (h : Ag n m c P P') {q : Nat} (hq : q < m) : nc P q = nc P' q := nc_c (ag_p h hq 3 (by omega))
theorem okQ_ag {n m : Nat} {c : Nat → Nat} {P P' : Nat → Int32} (h : Ag n m c P P') {q : Nat} (hq : q < m) (hQ : okQ P' q) : okQ P q := by
  unfold okQ
  rw [nc_ag h hq, ag_p h hq 3 (by omega)]
  exact hQ
theorem okE_ag {n m : Nat} {c : Nat → Nat} {P P' : Nat → Int32} (h : Ag n m c P P') {q : Nat} (hq : q < m) (hQ : okE P' q) : okE P q := ⟨okQ_ag h hq hQ.1, fun e => by
  rw [ag_p h hq 4 (by omega)]
  exact hQ.2 (by rw [← nc_ag h hq]; exact e)⟩
/-- what agrees with a good page is one -/
theorem Good_ag {P P' : Nat → Int32} (h : Ag (ns P') (np P') (nc P') P P') (hG : Good P') : Good P := by
  have e1 := ns_ag h
  have e2 := np_ag h
  refine ⟨?_, fun q hq => okE_ag h (by omega) (hG.2.1 q (by omega)), ?_⟩
  · rw [e1, e2]
    exact hrI_cc (fun q hq => (nc_ag h hq).symm) (hrI_ag h hG.1)
  · obtain ⟨k, h1, h2, h3⟩ := hG.2.2
    refine ⟨k, h1, by rw [ag_c h (by decide) (by decide)]; exact h2, ?_⟩
    rw [e1, e2]
    exact rng_ag h h3
theorem Ag_of {n m : Nat} {c : Nat → Nat} {P P1 : Nat → Int32} (hn : n ≤ 20) (hm : m ≤ 3) (hc : ∀ q, q < m → c q ≤ 12) (h : ∀ j, j < 241 → P1 j = P j) : Ag n m c P1 P := fun j hj => h j (by
  rcases hj with h1 | ⟨i, k, h1, h2, rfl⟩ | ⟨q, k, h1, h2, rfl⟩ | ⟨k, h1, rfl⟩
  · omega
  · omega
  · have := hc q h1
    omega
  · omega)
theorem Good.n20 {P : Nat → Int32} (h : Good P) : ns P ≤ 20 := h.1.1.1.2.1
theorem Good.m3 {P : Nat → Int32} (h : Good P) : np P ≤ 3 := h.1.1.1.2.2.2
theorem Good.agc {P P1 : Nat → Int32} (h : Good P) (he : ∀ j, j < 241 → P1 j = P j) : Ag (ns P) (np P) (nc P) P1 P := Ag_of h.n20 h.m3 (fun q hq => (h.2.1 q hq).1.2) he
theorem Cg.c {C P P1 : Nat → Int32} (h : Cg C P) (he : ∀ j, j < 241 → P1 j = P j) : Cg C P1 := by
  have ha := h.2.2.agc he
  refine ⟨?_, by rw [he 5 (by decide), h.2.1]; exact (cs_c (he _ (by decide)) (he _ (by decide)) (he _ (by decide))).symm, Good_ag ha h.2.2⟩
  rw [ns_ag ha, np_ag ha]
  exact ag_cc (fun q hq => nc_ag ha hq) (ag_trans h.1 (ag_symm ha))
theorem Cg.okN {C P : Nat → Int32} (h : Cg C P) : okN C := okN_c (ag_c h.1 (by decide) (by decide)) (ag_c h.1 (by decide) (by decide)) h.2.2.1.1.1
theorem Cg.good {C P : Nat → Int32} (h : Cg C P) : Good C := Good_ag h.1 h.2.2
theorem Cg.okQ {C P : Nat → Int32} (h : Cg C P) : ∀ q, q < np C → okQ C q := fun q hq => (h.good.2.1 q hq).1
theorem Cg.copy {C P X : Nat → Int32} (h : Cg C P) : Cg (fP_X0_copyFrom X C) P := by
  refine ⟨?_, h.2⟩
  have h1 := copy_ag (P := X) h.okN
  rw [ns_ag h.1, np_ag h.1] at h1
  exact ag_trans (ag_mono h1 (fun q hq => (h.2.2.2.1 q hq).1.2)) h.1
/-- the saved states after one more is saved -/
theorem Rel_save {C : Nat → Int32} {G : Nat → Nat → Int32} {n : Nat} {P V Fm : Nat → Int32} (hC : Cg C P) (hc : okC Fm) (hn : n = sc Fm) (hG : ∀ i, i < n → Cg (G i) (svp V i)) : svN n + 1 = sc (fF_X7_keep P V Fm) ∧ ∀ i, i < svN n + 1 → Cg (svL G n C i) (svp (fV_X7_keep P V Fm) i) := by
  have h4 := hc.2
  have hk : keN Fm = svN n + 1 := by
    unfold keN svN
    rw [hn]
    by_cases h : sc Fm = 4
    · rw [if_pos h, if_neg (by omega)]
    · rw [if_neg h, if_pos (by omega)]
  refine ⟨by rw [(keep_C hc).2, hk], fun i hi => ?_⟩
  have hv : ∀ j, j < 241 → svp (fV_X7_keep P V Fm) i j = if i + 1 = keN Fm then P j else if sc Fm = 4 then svp V (i + 1) j else svp V i j := fun j hj => keep_V hc (by omega) hj
  unfold svL upN
  by_cases h : i = svN n
  · rw [if_pos h]
    refine (Cg.copy hC).c (fun j hj => ?_)
    rw [hv j hj, if_pos (by omega)]
  · rw [if_neg h]
    by_cases h5 : n < 4
    · rw [if_pos h5]
      have e : svN n = n := by unfold svN; rw [if_pos h5]
      refine (hG i (by omega)).c (fun j hj => ?_)
      rw [hv j hj, if_neg (by omega), if_neg (by omega)]
    · rw [if_neg h5]
      have e : svN n = 3 := by unfold svN; rw [if_neg h5]
      have h6 : rotL G i = G (i + 1) := by unfold rotL; rw [if_neg (by omega)]
      rw [h6]
      refine (hG (i + 1) (by omega)).c (fun j hj => ?_)
      rw [hv j hj, if_neg (by omega), if_pos (by omega)]
theorem Rel.n4 {C : Nat → Int32} {G : Nat → Nat → Int32} {n : Nat} {Y F P V T Fm : Nat → Int32} (h : Rel C G n Y F P V T Fm) : n ≤ 4 := by
  have := h.2.1.2
  rw [h.2.2.1]
  exact this
theorem Rel.oG {C : Nat → Int32} {G : Nat → Nat → Int32} {n : Nat} {Y F P V T Fm : Nat → Int32} (h : Rel C G n Y F P V T Fm) : ∀ i, i < n → okN (G i) := fun i hi => (h.2.2.2.1 i hi).okN
