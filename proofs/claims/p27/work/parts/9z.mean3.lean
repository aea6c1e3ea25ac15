/-! The mean depth of a page, against the least and the greatest depth. -/
theorem mean_L {C : Nat → Int32} {n : Nat} {dep len : Nat → Nat} (hd : ∀ i, i < n → C (9 + 8 * i + 2) = nI (dep i) ∧ dep i ≤ 200000) (hl : ∀ i, i < n → C (9 + 8 * i + 0) = nI (len i) ∧ 10 ≤ len i ∧ len i ≤ 2000) (mn mx : Nat) (hb : ∀ i, i < n → mn ≤ dep i ∧ dep i ≤ mx) : ∀ (k s a j : Nat), j + k = n → mn * a ≤ s → s ≤ mx * a → ∃ s' a', fR_X6_meanDepth_L7 C k (lN s) (lN a) j = (if lg_cmp (lN a') 0 = 0 then FP.dconst0 else FP.ddiv (FP.l2d (lN s')) (FP.l2d (lN a'))) ∧ (0 < a + k → 0 < a') ∧ a' ≤ a + 2000 * k ∧ s' ≤ s + 400000000 * k ∧ mn * a' ≤ s' ∧ s' ≤ mx * a'
  | 0, s, a, j, _, h1, h2 => ⟨s, a, by rw [fR_X6_meanDepth_L7], fun h => by omega, by omega, by omega, h1, h2⟩
  | k + 1, s, a, j, hj, h1, h2 => by
    obtain ⟨d1, d2⟩ := hd j (by omega)
    obtain ⟨l1, l2, l3⟩ := hl j (by omega)
    obtain ⟨b1, b2⟩ := hb j (by omega)
    have q1 : mn * len j ≤ dep j * len j := Nat.mul_le_mul_right _ b1
    have q2 : dep j * len j ≤ mx * len j := Nat.mul_le_mul_right _ b2
    have q3 : dep j * len j ≤ 200000 * 2000 := Nat.mul_le_mul d2 l3
    obtain ⟨s', a', e1, e2, e3, e4, e5, e6⟩ := mean_L hd hl mn mx hb k (s + dep j * len j) (a + len j) (j + 1) (by omega) (by rw [Nat.mul_add]; omega) (by rw [Nat.mul_add]; omega)
    refine ⟨s', a', ?_, fun _ => e2 (by omega), by omega, by omega, e5, e6⟩
    rw [fR_X6_meanDepth_L7]
    (try dsimp only)
    rw [d1, l1, nI_l (show dep j < 2 ^ 31 by omega), nI_l (show len j < 2 ^ 31 by omega), lN_mul, lN_add, lN_add]
    exact e1
theorem dbl_n {n : Nat} (h : n < 2 ^ 31) : FP.i2d (nI n) = FP.Core.l2d (lN n) := by
  show FP.Core.i2d (nI n) = _
  rw [FP.Core.i2d_l2d, nI_l h]
theorem dcmp_n {a b : Nat} (ha : a < 2 ^ 31) (hb : b < 2 ^ 31) : FP.dcmp (FP.i2d (nI a)) (FP.i2d (nI b)) = some (if a < b then .lt else if a = b then .eq else .gt) := by
  rw [dbl_n ha, dbl_n hb]
  show FP.Core.dcmp _ _ = _
  rw [FP.Core.dcmp_l2d (lN_small (by omega)) (lN_small (by omega)), lN_big (by omega), lN_big (by omega)]
  by_cases h1 : a < b
  · rw [if_pos h1, if_pos (by omega)]
  · rw [if_neg h1, if_neg (by omega)]
    by_cases h2 : a = b
    · rw [if_pos h2, if_pos (by omega)]
    · rw [if_neg h2, if_neg (by omega)]
/-- the mean is neither below the least nor above the greatest -/
theorem mean_b {C P : Nat → Int32} {h : Nat} (hC : Cg C P) (hI : Iv h P) (hn : 0 < ns P) {mn mx : Nat} (h1 : mn < 2 ^ 31) (h2 : mx < 2 ^ 31) (hb : ∀ i, i < ns P → ∀ d, d < 2 ^ 31 → P (9 + 8 * i + 2) = nI d → mn ≤ d ∧ d ≤ mx) : (FP.dcmp (fR_X6_meanDepth C) (FP.i2d (nI mn)) = some .gt ∨ FP.dcmp (fR_X6_meanDepth C) (FP.i2d (nI mn)) = some .eq) ∧ (FP.dcmp (fR_X6_meanDepth C) (FP.i2d (nI mx)) = some .lt ∨ FP.dcmp (fR_X6_meanDepth C) (FP.i2d (nI mx)) = some .eq) := by
  have h20 := hC.2.2.n20
  obtain ⟨hh, hh1, hh2, hr⟩ := hC.2.2.2.2
  obtain ⟨-, -, sp, hW, -⟩ := hI
  have ed : ∀ i, i < ns P → P (9 + 8 * i + 2) = nI (P (9 + 8 * i + 2)).toNatClampNeg ∧ (P (9 + 8 * i + 2)).toNatClampNeg ≤ 200000 := fun i hi => by
    obtain ⟨L, d, w, a, -, d1, -, -, -, d2, -⟩ := hr.1 i hi
    rw [d2, nI_clamp (by omega)]
    exact ⟨rfl, by omega⟩
  have el : ∀ i, i < ns P → P (9 + 8 * i + 0) = nI (P (9 + 8 * i + 0)).toNatClampNeg ∧ 10 ≤ (P (9 + 8 * i + 0)).toNatClampNeg ∧ (P (9 + 8 * i + 0)).toNatClampNeg ≤ 2000 := fun i hi => by
    obtain ⟨L, l1, l2, l3⟩ := hW.2.2.2.1 i hi
    rw [l3, nI_clamp (by omega)]
    exact ⟨rfl, l1, l2⟩
  obtain ⟨s, a, e1, e2, e3, e4, e5, e6⟩ := mean_L (C := C) (n := ns P) (dep := fun i => (P (9 + 8 * i + 2)).toNatClampNeg) (len := fun i => (P (9 + 8 * i + 0)).toNatClampNeg) (fun i hi => by rw [ag_s hC.1 hi 2 (by omega)]; exact ed i hi) (fun i hi => by rw [ag_s hC.1 hi 0 (by omega)]; exact el i hi) mn mx (fun i hi => hb i hi _ (by have := (ed i hi).2; omega) (ed i hi).1) (ns P) 0 0 0 (by omega) (by omega) (by omega)
  have e2 := e2 (by omega)
  have ez : ¬ lg_cmp (lN a) 0 = 0 := fun hz => by
    have := (lg_cmp_eq _ 0).mp hz
    have h3 := (lN_eq (a := a) (b := 0) (by omega) (by omega)).mp this
    omega
  rw [if_neg ez] at e1
  have em : fR_X6_meanDepth C = FP.ddiv (FP.l2d (lN s)) (FP.l2d (lN a)) := by
    unfold fR_X6_meanDepth
    rw [ns_ag hC.1]
    exact e1
  rw [em, dbl_n h1, dbl_n h2]
  obtain ⟨n1, n2, -⟩ := ddiv_b (s := s) (a := a) (k := mn) (by omega) e2 (by omega) (by omega)
  obtain ⟨-, -, n3⟩ := ddiv_b (s := s) (a := a) (k := mx) (by omega) e2 (by omega) (by omega)
  exact ⟨FP.Core.dcmp_ge.mpr ⟨n1, (zval_lN (by omega)).2.2, n2 e5⟩, FP.Core.dcmp_le.mpr ⟨n1, (zval_lN (by omega)).2.2, n3 e6⟩⟩
/-- without streets it is zero -/
theorem mean_0 {C P : Nat → Int32} (hC : Cg C P) (hn : ns P = 0) : fR_X6_meanDepth C = FP.dconst0 := by
  unfold fR_X6_meanDepth
  rw [ns_ag hC.1, hn, fR_X6_meanDepth_L7, if_pos (by decide)]
theorem cmp_z : FP.dcmp FP.dconst0 FP.dconst0 = some .eq := by decide +kernel
theorem big_d : (4696837146684686336 : UInt64) = FP.i2d (nI 1000000) := by decide +kernel
theorem zero_d : FP.dconst0 = FP.i2d (nI 0) := by decide +kernel
