/-! The mean depth lies between the least depth and the greatest. -/
theorem lN_big {n : Nat} (h : n < 2 ^ 53) : (lN n).toInt = (n : Int) := Int64.toInt_ofNat_of_lt (by omega)
theorem lN_small {n : Nat} (h : n < 2 ^ 53) : FP.Core.Small53 (lN n) := by
  unfold FP.Core.Small53
  rw [lN_big h]
  omega
theorem pow_cross {c d s a k Qp Qm Rp Rm E F : Nat} (hq : c * 2 ^ Qp = s * 2 ^ Qm) (hr : d * 2 ^ Rp = a * 2 ^ Rm) (hF : Qm + F + Rp = Qp + Rm + E) : (k * a ≤ s → k * d * 2 ^ E ≤ c * 2 ^ F) ∧ (s ≤ k * a → c * 2 ^ F ≤ k * d * 2 ^ E) := by
  have hF2 : 2 ^ Qm * 2 ^ F * 2 ^ Rp = 2 ^ Qp * 2 ^ Rm * 2 ^ E := by rw [← Nat.pow_add, ← Nat.pow_add, ← Nat.pow_add, ← Nat.pow_add, hF]
  have pA := Nat.two_pow_pos Qp
  have pC := Nat.two_pow_pos Rp
  generalize 2 ^ Qp = A at *
  generalize 2 ^ Qm = B at *
  generalize 2 ^ Rp = C at *
  generalize 2 ^ Rm = D at *
  generalize 2 ^ E = U at *
  generalize 2 ^ F = V at *
  have e1 : k * d * U * (A * C) = k * a * (A * D * U) := by
    rw [show k * d * U * (A * C) = k * (d * C) * (U * A) by ac_rfl, hr]
    ac_rfl
  have e2 : c * V * (A * C) = s * (A * D * U) := by
    rw [show c * V * (A * C) = (c * A) * (V * C) by ac_rfl, hq, show s * B * (V * C) = s * (B * V * C) by ac_rfl, hF2]
  have pAC : 0 < A * C := Nat.mul_pos pA pC
  constructor
  · intro h
    refine Nat.le_of_mul_le_mul_right ?_ pAC
    rw [e1, e2]
    exact Nat.mul_le_mul_right _ h
  · intro h
    refine Nat.le_of_mul_le_mul_right ?_ pAC
    rw [e1, e2]
    exact Nat.mul_le_mul_right _ h
theorem zval_lN {n : Nat} (h : n < 2 ^ 53) : FP.Core.zmag FP.Core.b64 (FP.Core.val64 (FP.Core.l2d (lN n))) = n * FP.Core.one64 ∧ FP.Core.sgn (FP.Core.val64 (FP.Core.l2d (lN n))) = false ∧ FP.Core.val64 (FP.Core.l2d (lN n)) ≠ .nan := by
  have hw := FP.Core.l2d_whole (lN_small h)
  rw [lN_big h] at hw
  obtain ⟨c, q, e⟩ := FP.Core.l2d_shape (lN n)
  have hz := FP.Core.whole_zval FP.Core.good_b64 (FP.Core.val64_fits (FP.Core.l2d (lN n))) hw
  rw [FP.Core.pow_qmin64] at hz
  have hneg : decide ((lN n).toInt < 0) = false := by rw [lN_big h]; exact decide_eq_false (by omega)
  rw [hneg] at e
  rw [e] at hz ⊢
  refine ⟨?_, rfl, by simp⟩
  have h2 : FP.Core.zval FP.Core.b64 (.fin false c q) = ((FP.Core.zmag FP.Core.b64 (.fin false c q) : Nat) : Int) := rfl
  rw [h2] at hz
  have h3 : ((FP.Core.zmag FP.Core.b64 (.fin false c q) : Nat) : Int) = ((n * FP.Core.one64 : Nat) : Int) := by rw [hz, Int.natCast_mul]
  exact Int.ofNat.inj h3
theorem ddiv_b {s a k : Nat} (hs : s < 2 ^ 53) (ha : 0 < a) (ha2 : a < 2 ^ 53) (hk : k < 2 ^ 53) : FP.Core.val64 (FP.Core.ddiv (FP.Core.l2d (lN s)) (FP.Core.l2d (lN a))) ≠ .nan ∧ (k * a ≤ s → FP.Core.zval FP.Core.b64 (FP.Core.val64 (FP.Core.l2d (lN k))) ≤ FP.Core.zval FP.Core.b64 (FP.Core.val64 (FP.Core.ddiv (FP.Core.l2d (lN s)) (FP.Core.l2d (lN a))))) ∧ (s ≤ k * a → FP.Core.zval FP.Core.b64 (FP.Core.val64 (FP.Core.ddiv (FP.Core.l2d (lN s)) (FP.Core.l2d (lN a)))) ≤ FP.Core.zval FP.Core.b64 (FP.Core.val64 (FP.Core.l2d (lN k)))) := by
  have ws := FP.Core.l2d_whole (lN_small hs)
  have wa := FP.Core.l2d_whole (lN_small ha2)
  rw [lN_big hs] at ws
  rw [lN_big ha2] at wa
  obtain ⟨c, q, e⟩ := FP.Core.l2d_shape (lN s)
  obtain ⟨d, r, e'⟩ := FP.Core.l2d_shape (lN a)
  rw [show decide ((lN s).toInt < 0) = false by rw [lN_big hs]; exact decide_eq_false (by omega)] at e
  rw [show decide ((lN a).toInt < 0) = false by rw [lN_big ha2]; exact decide_eq_false (by omega)] at e'
  rw [e] at ws
  rw [e'] at wa
  have hq := FP.Core.whole_natAbs ws
  have hr := FP.Core.whole_natAbs wa
  have hd : d ≠ 0 := fun h => by
    have := (FP.Core.whole_zero wa).mp h
    omega
  rw [Int.natAbs_natCast] at hq hr
  obtain ⟨z1, z2, z3⟩ := zval_lN hk
  have fV := FP.Core.val64_fits (FP.Core.l2d (lN k))
  have hval : FP.Core.val64 (FP.Core.ddiv (FP.Core.l2d (lN s)) (FP.Core.l2d (lN a))) = FP.Core.roundRatio FP.Core.b64 false c d (q - r) := by
    rw [FP.Core.val64_ddiv, e, e']
    show (if d = 0 then _ else _) = _
    rw [if_neg hd]
    rfl
  rw [hval]
  generalize hR : FP.Core.roundRatio FP.Core.b64 false c d (q - r) = R
  have hsg : FP.Core.sgn R = false := by rw [← hR]; exact FP.Core.sgn_roundRatio _ _ _ _ _
  have hnn : R ≠ .nan := by rw [← hR]; exact FP.Core.roundRatio_ne_nan _ _ _ _ _
  have zR : FP.Core.zval FP.Core.b64 R = ((FP.Core.zmag FP.Core.b64 R : Nat) : Int) := by unfold FP.Core.zval; rw [hsg]; rfl
  have zV : FP.Core.zval FP.Core.b64 (FP.Core.val64 (FP.Core.l2d (lN k))) = ((k * FP.Core.one64 : Nat) : Int) := by unfold FP.Core.zval; rw [z2, z1]; rfl
  obtain ⟨e0, h0, h1⟩ : ∃ e0 : Int, e0 ≤ FP.Core.b64.qmin ∧ e0 ≤ q - r := ⟨min FP.Core.b64.qmin (q - r), by omega, by omega⟩
  have qm := FP.Core.qmin_b64
  have hone : FP.Core.one64 * 2 ^ (FP.Core.b64.qmin - e0).toNat = 2 ^ (-e0).toNat := by
    unfold FP.Core.one64
    rw [← Nat.pow_add]
    congr 1
    omega
  obtain ⟨p1, p2⟩ := pow_cross (c := c) (d := d) (s := s) (a := a) (k := k) (E := (-e0).toNat) (F := (q - r - e0).toNat) hq hr (by omega)
  have hX : k * FP.Core.one64 * 2 ^ (FP.Core.b64.qmin - e0).toNat * d = k * d * 2 ^ (-e0).toNat := by
    rw [Nat.mul_assoc k, hone]
    ac_rfl
  refine ⟨hnn, fun h => ?_, fun h => ?_⟩
  · rw [zR, zV]
    have := FP.Core.zmag_roundRatio_ge FP.Core.good_b64 (s := false) (A := c) (B := d) (e := q - r) (e0 := e0) (V := FP.Core.val64 (FP.Core.l2d (lN k))) (by omega) fV h0 h1 (by
      rw [z1, hX]
      exact p1 h)
    rw [z1, hR] at this
    exact Int.ofNat_le.mpr this
  · rw [zR, zV]
    have := FP.Core.zmag_roundRatio_le FP.Core.good_b64 (s := false) (A := c) (B := d) (e := q - r) (e0 := e0) (V := FP.Core.val64 (FP.Core.l2d (lN k))) (by omega) fV z3 h0 h1 (by
      rw [z1, hX]
      exact p2 h)
    rw [z1, hR] at this
    exact Int.ofNat_le.mpr this
