/-! Facts that the law's check of ranges and accounts wants. -/
def duS (P : Nat → Int32) : Nat → Int32
  | 0 => 0
  | j + 1 => duS P j + (if fR_X7_isDue P j = 0 then 0 else 1)
def coS (P : Nat → Int32) : Nat → Int32
  | 0 => 0
  | j + 1 => coS P j + P (229 + 4 * j + 3)
theorem due_L {P : Nat → Int32} : ∀ (k j : Nat), fR_X7_due_L4 P k (duS P j) j = duS P (j + k)
  | 0, j => by rw [fR_X7_due_L4]; rfl
  | k + 1, j => by
    rw [fR_X7_due_L4]
    (try dsimp only)
    rw [show j + (k + 1) = j + 1 + k by omega, ← due_L k (j + 1)]
    by_cases h : fR_X7_isDue P j = 0
    · rw [if_pos h, duS, if_pos h]
    · rw [if_neg h, duS, if_neg h]
theorem due_sum {P : Nat → Int32} : fR_X7_due P = duS P (ns P) := by
  have := due_L (P := P) (ns P) 0
  rw [Nat.zero_add] at this
  exact this
theorem co_sum {P : Nat → Int32} : cs P = coS P 3 := by
  unfold cs coS coS coS coS
  simp
theorem due_t {P : Nat → Int32} {i : Nat} (h : P (9 + 8 * i + 2) < P (229 + 4 * pr P i + 0)) : (0 : Int32) = if fR_X7_isDue P i = 0 then 0 else 1 := by
  have : fR_X7_isDue P i = 0 := if_pos h
  rw [if_pos this]
theorem due_f {P : Nat → Int32} {i : Nat} (h : ¬ P (9 + 8 * i + 2) < P (229 + 4 * pr P i + 0)) : (1 : Int32) = if fR_X7_isDue P i = 0 then 0 else 1 := by
  have : fR_X7_isDue P i = 1 := if_neg h
  rw [if_neg (by rw [this]; decide)]
theorem due_0 {c : Prop} [Decidable c] (h : ¬ (if c then (0 : Int32) else 1) = 1) : (0 : Int32) = if c then 0 else 1 := by
  by_cases hc : c
  · rw [if_pos hc]
  · exact absurd (if_neg hc) h
theorem cv_ge {o : Option Ordering} {op : CmpOp} (h : o = some .gt ∨ o = some .eq) : ¬ Op.cmpValue o op < 0 := by
  rcases h with rfl | rfl <;> exact of_decide_eq_true rfl
theorem cv_le {o : Option Ordering} {op : CmpOp} (h : o = some .lt ∨ o = some .eq) : ¬ 0 < Op.cmpValue o op := by
  rcases h with rfl | rfl <;> exact of_decide_eq_true rfl
theorem dg_ge {a b : Nat} {op : CmpOp} (ha : a < 2 ^ 31) (hb : b < 2 ^ 31) (h : 0 ≤ Op.cmpValue (FP.dcmp (FP.i2d (nI a)) (FP.i2d (nI b))) op) : b ≤ a := by
  rw [dcmp_n ha hb] at h
  by_cases h1 : a < b
  · rw [if_pos h1] at h
    exact absurd h (by show ¬ (0 : Int32) ≤ -1; decide)
  · omega
theorem dg_lt {a b : Nat} {op : CmpOp} (ha : a < 2 ^ 31) (hb : b < 2 ^ 31) (h : ¬ 0 ≤ Op.cmpValue (FP.dcmp (FP.i2d (nI a)) (FP.i2d (nI b))) op) : a < b := by
  rw [dcmp_n ha hb] at h
  by_cases h1 : a < b
  · exact h1
  · rw [if_neg h1] at h
    by_cases h2 : a = b
    · rw [if_pos h2] at h
      exact absurd (show (0 : Int32) ≤ 0 by decide) h
    · rw [if_neg h2] at h
      exact absurd (show (0 : Int32) ≤ 1 by decide) h
theorem dl_le {a b : Nat} {op : CmpOp} (ha : a < 2 ^ 31) (hb : b < 2 ^ 31) (h : Op.cmpValue (FP.dcmp (FP.i2d (nI a)) (FP.i2d (nI b))) op ≤ 0) : a ≤ b := by
  rw [dcmp_n ha hb] at h
  by_cases h1 : a < b
  · omega
  · rw [if_neg h1] at h
    by_cases h2 : a = b
    · omega
    · rw [if_neg h2] at h
      exact absurd h (by show ¬ (1 : Int32) ≤ 0; decide)
theorem dl_gt {a b : Nat} {op : CmpOp} (ha : a < 2 ^ 31) (hb : b < 2 ^ 31) (h : ¬ Op.cmpValue (FP.dcmp (FP.i2d (nI a)) (FP.i2d (nI b))) op ≤ 0) : b < a := by
  rw [dcmp_n ha hb] at h
  by_cases h1 : a < b
  · rw [if_pos h1] at h
    exact absurd (show (-1 : Int32) ≤ 0 by decide) h
  · rw [if_neg h1] at h
    by_cases h2 : a = b
    · rw [if_pos h2] at h
      exact absurd (show (0 : Int32) ≤ 0 by decide) h
    · omega
/-- a street -/
theorem snd_street {P : Nat → Int32} {h i : Nat} (hI : Iv h P) (hi : i < ns P) : ∃ d we ic wa cl L, P (9 + 8 * i + 2) = nI d ∧ d ≤ 200000 ∧ P (9 + 8 * i + 3) = nI we ∧ we ≤ 100 ∧ P (9 + 8 * i + 4) = nI ic ∧ ic ≤ 100 ∧ P (9 + 8 * i + 5) = nI wa ∧ wa ≤ h ∧ P (9 + 8 * i + 6) = nI cl ∧ cl ≤ 72000 ∧ (cl = 0 → P (9 + 8 * i + 7) = -1) ∧ (¬ cl = 0 → ¬ P (9 + 8 * i + 7) = -1) ∧ P (9 + 8 * i + 7) < nI h ∧ P (9 + 8 * i + 1) = nI (pr P i) ∧ pr P i < 3 ∧ P (9 + 8 * i + 0) = nI L ∧ 10 ≤ L ∧ L ≤ 2000 := by
  obtain ⟨hC, hh, sp, hW, h0, hS, hP, hs, h6⟩ := hI
  obtain ⟨hh0, hh1, hh2, hr⟩ := hC.2.2.2.2
  obtain ⟨L', d, w, a, r1, r2, r3, r4, r5, r6, r7, r8⟩ := hr.1 i hi
  obtain ⟨⟨wa, wa1, wa2⟩, cl, cl1, cl2, cl3, cl4⟩ := hS i hi
  obtain ⟨L, l1, l2, l3⟩ := hW.2.2.2.1 i hi
  have hp := hC.2.2.oR hi
  refine ⟨d, w, a, wa, cl, L, r6, by omega, r7, r3, r8, r4, wa2, wa1, cl2, by omega, cl3, fun hz => ?_, ?_, hp.1, hp.2, l3, l1, l2⟩
  · obtain ⟨t, t1, t2⟩ := cl4 (by omega)
    rw [t2]
    intro he
    have hn := nI_pos (n := t) (by omega)
    rw [he] at hn
    exact hn (by decide)
  · by_cases hz : cl = 0
    · rw [cl3 hz]
      rw [Int32.lt_iff_toInt_lt, nI_toInt (by omega)]
      exact Int.lt_of_lt_of_le (show (-1 : Int32).toInt < 0 by decide) (by omega)
    · obtain ⟨t, t1, t2⟩ := cl4 (by omega)
      rw [t2]
      exact nI_lt t1 (by omega)
/-- a plow -/
theorem snd_plow {P : Nat → Int32} {h q : Nat} (hI : Iv h P) (hq : q < np P) : ∃ K b a g s ro me, P (169 + 20 * q + 0) = nI s ∧ s ≤ 5000 ∧ P (169 + 20 * q + 1) = nI K ∧ K ≤ 5000 ∧ P (169 + 20 * q + 2) = nI b ∧ b ≤ K ∧ P (169 + 20 * q + 3) = nI (nc P q) ∧ nc P q ≤ 12 ∧ P (169 + 20 * q + 4) = nI a ∧ (0 < a → a < nc P q) ∧ a ≤ 12 ∧ P (169 + 20 * q + 5) = nI g ∧ g ≤ 2000 ∧ (0 < g → a < nc P q ∧ ∃ rr L, P (169 + 20 * q + 8 + a) = nI rr ∧ rr < ns P ∧ P (9 + 8 * rr + 0) = nI L ∧ L ≤ 2000 ∧ g < L) ∧ P (169 + 20 * q + 6) = nI ro ∧ ro ≤ h ∧ P (169 + 20 * q + 7) = nI me ∧ ∃ z, z = s * h ∧ me ≤ z ∧ z ≤ 10000000 := by
  obtain ⟨hC, hh, sp, hW, h0, hS, hP, hs, h6⟩ := hI
  obtain ⟨hh0, hh1, hh2, hr⟩ := hC.2.2.2.2
  obtain ⟨K, b, k1, k2, k3, k4⟩ := hr.2.1 q hq
  obtain ⟨⟨hQ, hE⟩, hg⟩ := hC.2.2.gP hq
  obtain ⟨⟨ro, ro1, ro2⟩, me, me1, me2⟩ := hP q hq
  obtain ⟨s1, s2⟩ := hW.2.2.1 q hq
  obtain ⟨g, g1, g2, g3⟩ := hW.2.2.2.2.2 q hq
  have h12 := hQ.2
  have hsh : sp q * h ≤ 10000000 := Nat.le_trans (Nat.mul_le_mul s2 hh) (by decide)
  by_cases hz : nc P q = 0
  · refine ⟨K, b, 0, g, sp q, ro, me, s1, s2, k3, k1, k4, k2, hQ.1, hQ.2, hE hz, by omega, by omega, g2, g1, fun h0 => ?_, ro2, ro1, me2, _, rfl, me1, hsh⟩
    have := (g3 h0).1
    omega
  · obtain ⟨a1, a2, a3⟩ := hg (by omega)
    refine ⟨K, b, pa P q, g, sp q, ro, me, s1, s2, k3, k1, k4, k2, hQ.1, hQ.2, a1, fun _ => a2, by omega, g2, g1, fun h0 => ⟨a2, ?_⟩, ro2, ro1, me2, _, rfl, me1, hsh⟩
    obtain ⟨-, L, l1, l2, l3⟩ := g3 h0
    obtain ⟨b1, b2⟩ := a3 _ a2
    exact ⟨rt P q (pa P q), L, b1, b2, l2, l1, l3⟩
/-- the rest -/
theorem snd_rest {P : Nat → Int32} {h : Nat} (hI : Iv h P) : P 0 = nI h ∧ h ≤ 2000 ∧ ns P ≤ 20 ∧ np P ≤ 3 ∧ P 1 = nI (ns P) ∧ P 2 = nI (np P) ∧ P 5 = coS P 3 ∧ P 7 = P 8 + P 3 + ldS P (np P) ∧ (∃ S9, S9 ≤ 100000 ∧ P 3 = nI S9) ∧ ∃ k9, k9 ≤ 40000000 ∧ P 6 = nI k9 := by
  obtain ⟨hC, hh, sp, hW, h0, hS, hP, hs, k, k1, k2⟩ := hI
  exact ⟨h0, hh, hC.2.2.n20, hC.2.2.m3, hC.2.2.oN.1, hC.2.2.oN.2.2.1, hC.2.1.trans co_sum, hs.symm, hC.2.2.s3, k, by omega, k2⟩
theorem bnd_step {P : Nat → Int32} {j mn mx mn2 mx2 d : Nat} (hb : ∀ i, i < j → ∀ d, d < 2 ^ 31 → P (9 + 8 * i + 2) = nI d → mn ≤ d ∧ d ≤ mx) (h1 : mn2 ≤ mn ∧ mn2 ≤ d) (h2 : mx ≤ mx2 ∧ d ≤ mx2 ∧ mx2 ≤ 1000000) (f2 : P (9 + 8 * j + 2) = nI d) (hd : d ≤ 200000) : ∀ i, i < j + 1 → ∀ d, d < 2 ^ 31 → P (9 + 8 * i + 2) = nI d → mn2 ≤ d ∧ d ≤ mx2 := fun i hi d' h3 h4 => by
  by_cases e : i = j
  · subst e
    rw [f2] at h4
    have := (nI_eq (by omega) h3).mp h4
    omega
  · have := hb i (by omega) d' h3 h4
    omega
