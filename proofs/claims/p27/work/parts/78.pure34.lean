/-! The class's checks against the reference's questions; pages that a copy makes. -/
theorem cA_e {x a b : Int32} : fE_X6_checkArgument x a b = if fR_X7_in x a b = 0 then 1 else 0 := by
  unfold fE_X6_checkArgument fR_X7_in
  by_cases h1 : x < a
  · rw [if_pos h1, if_pos h1, if_pos rfl]
  · rw [if_neg h1, if_neg h1]
    by_cases h2 : x ≤ b
    · rw [if_pos h2, if_neg (fun h => Int32.lt_irrefl (Int32.lt_of_le_of_lt h2 h)), if_neg (by decide)]
    · rw [if_neg h2, if_pos (Int32.not_le.1 h2), if_pos rfl]
theorem cA_0 {x a b : Int32} (h : fE_X6_checkArgument x a b = 0) : ¬ fR_X7_in x a b = 0 := fun h2 => by
  rw [cA_e, if_pos h2] at h
  exact absurd h (by decide)
theorem cI_n {x : Int32} {n : Nat} (hn : n < 2 ^ 31) (h : fE_X6_checkIndex x (nI n) = 0) : x = nI x.toNatClampNeg ∧ x.toNatClampNeg < n := by
  unfold fE_X6_checkIndex at h
  by_cases h1 : x < 0
  · rw [if_pos h1] at h; exact absurd h (by decide)
  · rw [if_neg h1] at h
    by_cases h2 : x < nI n
    · obtain ⟨j, hj, rfl⟩ := nI_of h1
      rw [nI_clamp hj]
      exact ⟨rfl, (nI_ltI hj hn).mp h2⟩
    · rw [if_neg h2] at h; exact absurd h (by decide)
theorem cI_e {x : Int32} {n : Nat} (hn : n < 2 ^ 31) : fE_X6_checkIndex x (nI n) = if fR_X7_in x 0 (nI n - 1) = 0 then 3 else 0 := by
  by_cases h : fR_X7_in x 0 (nI n - 1) = 0
  · rw [if_pos h]
    unfold fE_X6_checkIndex
    rcases in_0 h with h1 | h1
    · rw [if_pos h1]
    · by_cases h2 : x < 0
      · rw [if_pos h2]
      · rw [if_neg h2]
        obtain ⟨j, hj, rfl⟩ := nI_of h2
        rw [if_neg]
        intro h3
        have h4 := (nI_ltI hj hn).mp h3
        cases n with
        | zero => omega
        | succ n =>
          rw [nI_pred] at h1
          have := (nI_ltI (a := n) (b := j) (by omega) hj).mp h1
          omega
  · rw [if_neg h]
    obtain ⟨a, b⟩ := in_m1 rfl hn h
    rw [a]
    unfold fE_X6_checkIndex
    rw [if_neg (fun h1 => by
      have := (nI_ltI (a := x.toNatClampNeg) (b := 0) (by omega) (by omega)).mp h1
      omega), if_pos ((nI_ltI (by omega) hn).mpr b)]
theorem cS_e {C : Nat → Int32} {x : Int32} (hN : okN C) : fE_X6_checkStreet C x = if fR_X7_isStreet C x = 0 then 3 else 0 := by
  have h20 := hN.2.1
  unfold fE_X6_checkStreet fR_X7_isStreet
  rw [hN.1, cI_e (by omega)]
  split <;> simp_all
theorem cP_e {C : Nat → Int32} {x : Int32} (hN : okN C) : fE_X6_checkPlow C x = if fR_X7_isPlow C x = 0 then 3 else 0 := by
  have h3 := hN.2.2.2
  unfold fE_X6_checkPlow fR_X7_isPlow
  rw [hN.2.2.1, cI_e (by omega)]
  split <;> simp_all
theorem cS_n {C : Nat → Int32} {x : Int32} (hN : okN C) (h : fE_X6_checkStreet C x = 0) : x = nI x.toNatClampNeg ∧ x.toNatClampNeg < ns C := by
  refine isStreet_n hN (fun h2 => ?_)
  rw [cS_e hN, if_pos h2] at h
  exact absurd h (by decide)
theorem cP_n {C : Nat → Int32} {x : Int32} (hN : okN C) (h : fE_X6_checkPlow C x = 0) : x = nI x.toNatClampNeg ∧ x.toNatClampNeg < np C := by
  refine isPlow_n hN (fun h2 => ?_)
  rw [cP_e hN, if_pos h2] at h
  exact absurd h (by decide)
theorem cX_e {C : Nat → Int32} {q : Nat} {x : Int32} (hQ : okQ C q) : fE_X6_checkIndex x (C (169 + 20 * q + 3) - 1) = if fR_X7_isPair C q x = 0 then 3 else 0 := by
  have h12 := hQ.2
  have e : fR_X7_ofPlow C q 3 = nI (nc C q) := hQ.1
  unfold fR_X7_isPair
  rw [e, hQ.1]
  rcases (show nc C q = 0 ∨ ∃ n, nc C q = n + 1 by cases nc C q <;> simp) with hz | ⟨n, hn⟩
  · rw [hz]
    have h0 : fR_X7_in x 0 (nI 0 - 2) = 0 := by
      by_cases h : fR_X7_in x 0 (nI 0 - 2) = 0
      · exact h
      · obtain ⟨a, b⟩ := in_v h
        exact absurd (Int32.lt_of_lt_of_le (show nI 0 - 2 < 0 by decide) (Int32.not_lt.mp a)) b
    rw [if_pos h0]
    unfold fE_X6_checkIndex
    by_cases h1 : x < 0
    · rw [if_pos h1]
    · rw [if_neg h1, if_neg]
      intro h2
      exact h1 (Int32.lt_trans h2 (by decide))
  · have e2 : nI (nc C q) - 2 = nI n - 1 := by
      rw [hn, nI_succ, show (2 : Int32) = 1 + 1 from by decide, ← Int32.sub_sub, Int32.add_sub_cancel]
    rw [e2, hn, nI_pred]
    exact cI_e (by omega)
theorem cX_n {C : Nat → Int32} {q : Nat} {x : Int32} (hQ : okQ C q) (h : fE_X6_checkIndex x (C (169 + 20 * q + 3) - 1) = 0) : x = nI x.toNatClampNeg ∧ x.toNatClampNeg + 1 < nc C q ∧ x.toNatClampNeg + 1 < 12 := by
  refine isPair_n hQ (fun h2 => ?_)
  rw [cX_e hQ, if_pos h2] at h
  exact absurd h (by decide)
theorem swap_eq {P : Nat → Int32} {q k : Nat} : fP_X1_swapWithNext P q k = fP_X7_exchanges P q k := rfl
theorem nc_gt {C : Nat → Int32} {q j : Nat} (hQ : okQ C q) (hj : j ≤ 12) (h : ¬ C (169 + 20 * q + 3) - 1 ≤ nI j) : j + 1 < nc C q := by
  have h12 := hQ.2
  rw [hQ.1] at h
  rcases (show nc C q = 0 ∨ ∃ n, nc C q = n + 1 by cases nc C q <;> simp) with hz | ⟨n, hn⟩
  · rw [hz] at h
    exact absurd (Int32.le_trans (show nI 0 - 1 ≤ nI 0 by decide) (nI_le (Nat.zero_le j) (by omega))) h
  · rw [hn, nI_pred] at h
    have : ¬ n ≤ j := fun h2 => h (nI_le h2 (by omega))
    omega
/-! a copy -/
theorem copyL80 {O : Nat → Int32} : ∀ (k j : Nat) (P : Nat → Int32), j + k = 3 → ∀ x, fP_X0_copyFrom_L80 O k j P x = if x = 0 ∨ x = 3 ∨ x = 4 ∨ x = 6 ∨ x = 7 ∨ x = 8 ∨ (229 + 4 * j ≤ x ∧ x < 241) then O x else P x
  | 0, j, P, hk, x => by
    rw [fP_X0_copyFrom_L80]
    (try dsimp only)
    simp only [upd]
    by_cases h8 : x = 8
    · subst h8; simp
    by_cases h7 : x = 7
    · subst h7; simp
    by_cases h6 : x = 6
    · subst h6; simp
    by_cases h4 : x = 4
    · subst h4; simp
    by_cases h3 : x = 3
    · subst h3; simp
    by_cases h0 : x = 0
    · subst h0; simp
    rw [if_neg h8, if_neg h7, if_neg h6, if_neg h4, if_neg h3, if_neg h0, if_neg (by omega)]
  | k + 1, j, P, hk, x => by
    rw [fP_X0_copyFrom_L80]
    (try dsimp only)
    rw [copyL80 k (j + 1) _ (by omega) x, copyT_eq]
    by_cases h : 229 + 4 * j ≤ x ∧ x < 229 + 4 * j + 4
    · rw [rng_i h, ite_self, if_pos (by omega)]
    · rw [rng_o h]
      by_cases h2 : x = 0 ∨ x = 3 ∨ x = 4 ∨ x = 6 ∨ x = 7 ∨ x = 8 ∨ (229 + 4 * j ≤ x ∧ x < 241)
      · rw [if_pos h2, if_pos (by omega)]
      · rw [if_neg h2, if_neg (by omega)]
theorem copyL49 {O : Nat → Int32} : ∀ (k j : Nat) (P : Nat → Int32), j + k ≤ 3 → ∀ x, fP_X0_copyFrom_L49 O k j P x = if x = 0 ∨ x = 3 ∨ x = 4 ∨ x = 6 ∨ x = 7 ∨ x = 8 ∨ (229 ≤ x ∧ x < 241) ∨ (169 + 20 * j ≤ x ∧ x < 169 + 20 * (j + k)) then O x else P x
  | 0, j, P, hk, x => by
    rw [fP_X0_copyFrom_L49, copyL80 3 0 P rfl x]
    by_cases h2 : x = 0 ∨ x = 3 ∨ x = 4 ∨ x = 6 ∨ x = 7 ∨ x = 8 ∨ (229 + 4 * 0 ≤ x ∧ x < 241)
    · rw [if_pos h2, if_pos (by omega)]
    · rw [if_neg h2, if_neg (by omega)]
  | k + 1, j, P, hk, x => by
    rw [fP_X0_copyFrom_L49]
    (try dsimp only)
    rw [copyL49 k (j + 1) _ (by omega) x, copyP_eq]
    by_cases h : 169 + 20 * j ≤ x ∧ x < 169 + 20 * j + 20
    · rw [rng_i h, ite_self, if_pos (by omega)]
    · rw [rng_o h]
      by_cases h2 : x = 0 ∨ x = 3 ∨ x = 4 ∨ x = 6 ∨ x = 7 ∨ x = 8 ∨ (229 ≤ x ∧ x < 241) ∨ (169 + 20 * j ≤ x ∧ x < 169 + 20 * (j + (k + 1)))
      · rw [if_pos h2, if_pos (by omega)]
      · rw [if_neg h2, if_neg (by omega)]
theorem copyL10 {O : Nat → Int32} (h3 : np O ≤ 3) (hO : O 2 = nI (np O)) : ∀ (k j : Nat) (P : Nat → Int32), j + k ≤ 20 → ∀ x, fP_X0_copyFrom_L10 O k j P x = if x = 0 ∨ x = 2 ∨ x = 3 ∨ x = 4 ∨ x = 6 ∨ x = 7 ∨ x = 8 ∨ (229 ≤ x ∧ x < 241) ∨ (169 ≤ x ∧ x < 169 + 20 * np O) ∨ (9 + 8 * j ≤ x ∧ x < 9 + 8 * (j + k)) then O x else P x
  | 0, j, P, hk, x => by
    rw [fP_X0_copyFrom_L10]
    (try dsimp only)
    rw [copyL49 (np O) 0 _ (by omega) x]
    by_cases h2 : x = 0 ∨ x = 3 ∨ x = 4 ∨ x = 6 ∨ x = 7 ∨ x = 8 ∨ (229 ≤ x ∧ x < 241) ∨ (169 + 20 * 0 ≤ x ∧ x < 169 + 20 * (0 + np O))
    · rw [if_pos h2, if_pos (by omega)]
    · rw [if_neg h2]
      by_cases h : x = 2
      · subst h
        rw [upd_s, if_pos (by omega), hO]
      · rw [upd_n h, if_neg (by omega)]
  | k + 1, j, P, hk, x => by
    rw [fP_X0_copyFrom_L10]
    (try dsimp only)
    rw [copyL10 h3 hO k (j + 1) _ (by omega) x, copyS_eq]
    by_cases h : 9 + 8 * j ≤ x ∧ x < 9 + 8 * j + 8
    · rw [rng_i h, ite_self, if_pos (by omega)]
    · rw [rng_o h]
      by_cases h2 : x = 0 ∨ x = 2 ∨ x = 3 ∨ x = 4 ∨ x = 6 ∨ x = 7 ∨ x = 8 ∨ (229 ≤ x ∧ x < 241) ∨ (169 ≤ x ∧ x < 169 + 20 * np O) ∨ (9 + 8 * j ≤ x ∧ x < 9 + 8 * (j + (k + 1)))
      · rw [if_pos h2, if_pos (by omega)]
      · rw [if_neg h2, if_neg (by omega)]
/-- a copy is the other page where that one lives -/
theorem copy_ag {P O : Nat → Int32} (hO : okN O) : Ag (ns O) (np O) (fun _ => 12) (fP_X0_copyFrom P O) O := fun x hx => by
  have h20 := hO.2.1
  have h3 := hO.2.2.2
  unfold fP_X0_copyFrom
  (try dsimp only)
  rw [copyL10 h3 hO.2.2.1 (ns O) 0 _ (by omega) x]
  by_cases h1 : x = 1
  · subst h1
    rw [if_neg (by omega), upd_s, hO.1]
  · rw [if_pos]
    rcases hx with h | ⟨i, k, h5, h6, rfl⟩ | ⟨q, k, h5, h6, rfl⟩ | ⟨k, h5, rfl⟩
    · omega
    · omega
    · have h6 : k < 8 + 12 := h6
      omega
    · omega
theorem ag_mono {n m : Nat} {c c' : Nat → Nat} {P P' : Nat → Int32} (h : Ag n m c P P') (hc : ∀ q, q < m → c' q ≤ c q) : Ag n m c' P P' := fun j hj => h j (by
  rcases hj with h1 | h1 | ⟨q, k, h5, h6, rfl⟩ | h1
  · exact Or.inl h1
  · exact Or.inr (Or.inl h1)
  · exact Or.inr (Or.inr (Or.inl ⟨q, k, h5, by have := hc q h5; omega, rfl⟩))
  · exact Or.inr (Or.inr (Or.inr h1)))
theorem ag_symm {n m : Nat} {c : Nat → Nat} {P P' : Nat → Int32} (h : Ag n m c P P') : Ag n m c P' P := fun j hj => (h j hj).symm
theorem ag_trans {n m : Nat} {c : Nat → Nat} {P P' Q : Nat → Int32} (h : Ag n m c P P') (h2 : Ag n m c P' Q) : Ag n m c P Q := fun j hj => (h j hj).trans (h2 j hj)
/-- one can walk on a page that agrees -/
theorem hrI_ag {n m : Nat} {c : Nat → Nat} {P P' : Nat → Int32} (h : Ag n m c P P') (hI : hrI n m c P') : hrI n m c P := by
  obtain ⟨⟨hN, hR, hW⟩, e1, e2, hL⟩ := hI
  have h1 : P 1 = P' 1 := ag_c h (by decide) (by decide)
  have h2 : P 2 = P' 2 := ag_c h (by decide) (by decide)
  have n1 : ns P = n := (ns_c h1).trans e1
  have n2 : np P = m := (np_c h2).trans e2
  have hRi : ∀ i, i < n → okR P i := fun i hi => okR_c (ag_s h hi 1 (by decide)) (hR i (by omega))
  have hWq : ∀ q, q < m → ¬ P (169 + 20 * q + 3) ≤ 0 → rtL n c q P := fun q hq h0 => by
    have e3 : P (169 + 20 * q + 3) = P' (169 + 20 * q + 3) := ag_p h hq 3 (by omega)
    have e4 : P (169 + 20 * q + 4) = P' (169 + 20 * q + 4) := ag_p h hq 4 (by omega)
    rw [e3] at h0
    obtain ⟨⟨a1, a2, a3, a4, a5⟩, b1, b2⟩ := hL q hq h0
    have f3 : nc P q = nc P' q := by unfold nc; rw [e3]
    have f4 : pa P q = pa P' q := by unfold pa; rw [e4]
    have er : ∀ j, j < c q → P (169 + 20 * q + 8 + j) = P' (169 + 20 * q + 8 + j) := fun j hj => by
      have := ag_p h hq (8 + j) (by omega)
      rwa [← Nat.add_assoc] at this
    have fr : ∀ j, j < c q → rt P q j = rt P' q j := fun j hj => by unfold rt; rw [er j hj]
    refine ⟨⟨by rw [e3, f3]; exact a1, by rw [f3]; exact a2, by rw [e4, f4]; exact a3, by rw [f3, f4]; exact a4, fun j hj => ?_⟩, by rw [f3]; exact b1, fun j hj => by rw [fr j hj]; exact b2 j hj⟩
    rw [f3, b1] at hj
    have hb := b2 j hj
    rw [fr j hj, er j hj]
    exact ⟨(a5 j (by omega)).1, (a5 j (by omega)).2.1, hRi _ hb⟩
  refine ⟨⟨okN_c h1 h2 hN, fun i hi => hRi i (by omega), fun q hq h0 => (hWq q (by omega) h0).1⟩, n1, n2, hWq⟩
theorem hrI_copy {P O : Nat → Int32} (hO : hrI (ns O) (np O) (nc O) O) (hQ : ∀ q, q < np O → okQ O q) : hrI (ns O) (np O) (nc O) (fP_X0_copyFrom P O) := hrI_ag (ag_mono (copy_ag hO.1.1) (fun q hq => (hQ q hq).2)) hO
def fG_X2_save (C : Nat → Int32) (G : Nat → Nat → Int32) (n : Nat) : Nat → Nat → Int32 := svL G n C
def fn_X2_save (C : Nat → Int32) (G : Nat → Nat → Int32) (n : Nat) : Nat := svN n + 1
def fC_X2_restore (C : Nat → Int32) (G : Nat → Nat → Int32) (n : Nat) : Nat → Int32 := fP_X0_copyFrom C (G (n - 1))
def fn_X2_restore (C : Nat → Int32) (G : Nat → Nat → Int32) (n : Nat) : Nat := n - 1
