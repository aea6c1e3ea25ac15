/-! Hours: what stays so, and what they add. -/
def Wi (n m : Nat) (c sp : Nat → Nat) (P : Nat → Int32) : Prop := hrI n m c P ∧ (∀ p, p < m → okQ P p) ∧ (∀ p, p < m → P (169 + 20 * p + 0) = nI (sp p) ∧ sp p ≤ 5000) ∧ (∀ i, i < n → ∃ L, 10 ≤ L ∧ L ≤ 2000 ∧ P (9 + 8 * i + 0) = nI L) ∧ (∀ r, r < 3 → ∃ k, k ≤ 1000 ∧ P (229 + 4 * r + 2) = nI k) ∧ ∀ p, p < m → Pg P p
theorem Wi.n20 {n m : Nat} {c sp : Nat → Nat} {P : Nat → Int32} (h : Wi n m c sp P) : n ≤ 20 ∧ m ≤ 3 := by
  have h1 := h.1.1.1.2.1
  have h2 := h.1.1.1.2.2.2
  have h3 := h.1.2.1
  have h4 := h.1.2.2.1
  omega
theorem fr_p {p k : Nat} (hp : p < 3) (hk : k = 0 ∨ k = 1 ∨ k = 3 ∨ (8 ≤ k ∧ k < 20)) : frH (169 + 20 * p + k) := Or.inr (Or.inr (Or.inr (Or.inr (Or.inr (Or.inl ⟨p, k, hp, hk, rfl⟩)))))
theorem fr_s {i k : Nat} (hi : i < 20) (hk : k = 0 ∨ k = 1) : frH (9 + 8 * i + k) := Or.inr (Or.inr (Or.inr (Or.inr (Or.inl ⟨i, k, hi, hk, rfl⟩))))
theorem fr_t {r k : Nat} (hr : r < 3) (hk : k < 3) : frH (229 + 4 * r + k) := Or.inr (Or.inr (Or.inr (Or.inr (Or.inr (Or.inr ⟨r, k, hr, hk, rfl⟩)))))
theorem Wi.hr {n m : Nat} {c sp : Nat → Nat} {P : Nat → Int32} {T S : Int32} (h : Wi n m c sp P) : HR n m sp P (fP_X7_hour P T S) (fR_X7_hour P T S) := HR_hour h.1 h.2.1 h.2.2.1 (fun i hi => (h.2.2.2.1 i hi).elim fun L hL => ⟨L, hL.2⟩) h.2.2.2.2.1 h.2.2.2.2.2
theorem Wi.hour {n m : Nat} {c sp : Nat → Nat} {P : Nat → Int32} {T S : Int32} (h : Wi n m c sp P) : Wi n m c sp (fP_X7_hour P T S) := by
  have hh := h.hr (T := T) (S := S)
  obtain ⟨hn, hm⟩ := h.n20
  refine ⟨hrI_hour h.1, fun p hp => ?_, fun p hp => ?_, fun i hi => ?_, fun r hr => ?_, fun p hp => (hh.2.2.2.1 p hp).2.2.1⟩
  · have e := hh.1 _ (fr_p (p := p) (k := 3) (by omega) (by omega))
    unfold okQ
    rw [nc_c e, e]
    exact h.2.1 p hp
  · rw [hh.1 _ (fr_p (p := p) (k := 0) (by omega) (by omega))]
    exact h.2.2.1 p hp
  · rw [hh.1 _ (fr_s (i := i) (k := 0) (by omega) (by omega))]
    exact h.2.2.2.1 i hi
  · rw [hh.1 _ (fr_t (r := r) (k := 2) hr (by omega))]
    exact h.2.2.2.2.1 r hr
def Sv (h : Nat) (P : Nat → Int32) (i : Nat) : Prop := (∃ w, w ≤ h ∧ P (9 + 8 * i + 5) = nI w) ∧ ∃ c, c ≤ 36 * h ∧ P (9 + 8 * i + 6) = nI c ∧ (c = 0 → P (9 + 8 * i + 7) = -1) ∧ (0 < c → ∃ t, t < h ∧ P (9 + 8 * i + 7) = nI t)
def Pv (s h : Nat) (P : Nat → Int32) (p : Nat) : Prop := (∃ r, r ≤ h ∧ P (169 + 20 * p + 6) = nI r) ∧ ∃ a, a ≤ s * h ∧ P (169 + 20 * p + 7) = nI a
def Jv (n m : Nat) (c sp : Nat → Nat) (h : Nat) (P : Nat → Int32) : Prop := Wi n m c sp P ∧ P 0 = nI h ∧ (∀ i, i < n → Sv h P i) ∧ (∀ p, p < m → Pv (sp p) h P p) ∧ P 8 + P 3 + ldS P m = P 7 ∧ ∃ k, k ≤ 20000 * h ∧ P 6 = nI k
theorem Jv_hour {n m h : Nat} {c sp : Nat → Nat} {P : Nat → Int32} {T S : Int32} (hj : Jv n m c sp h P) : Jv n m c sp (h + 1) (fP_X7_hour P T S) := by
  obtain ⟨hW, h0, hS, hP, hs, k, k1, k2⟩ := hj
  obtain ⟨f1, f2, ⟨z, z1, z2, -⟩, f4, f5, f6, f7⟩ := hW.hr (T := T) (S := S)
  obtain ⟨hn, hm⟩ := hW.n20
  refine ⟨hW.hour, by rw [f2, h0, nI_1], fun i hi => ?_, fun p hp => ?_, ?_, k + z, by omega, by rw [z2, k2, nI_add]⟩
  · obtain ⟨⟨w, w1, w2⟩, cc, c1, c2, c3, c4⟩ := hS i hi
    obtain ⟨a, a1, a2, a3, a4⟩ := f5 i (by omega)
    refine ⟨?_, cc + a, by omega, by rw [a2, c2, nI_add], fun e => ?_, fun e => ?_⟩
    · rcases f7 i hi with e | e
      · exact ⟨0, by omega, e⟩
      · exact ⟨w + 1, by omega, by rw [e, w2, nI_1]⟩
    · rw [a3 (by omega), c3 (by omega)]
    · by_cases ha : 0 < a
      · exact ⟨h, by omega, by rw [a4 ha, h0]⟩
      · obtain ⟨t, t1, t2⟩ := c4 (by omega)
        exact ⟨t, by omega, by rw [a3 (by omega), t2]⟩
  · obtain ⟨⟨r, r1, r2⟩, a, a1, a2⟩ := hP p hp
    obtain ⟨⟨a', b1, b2⟩, ⟨b, d1, d2⟩, -, -⟩ := f4 p hp
    refine ⟨⟨r + b, by omega, by rw [d2, r2, nI_add]⟩, a + a', ?_, by rw [b2, a2, nI_add]⟩
    rw [Nat.mul_add, Nat.mul_one]
    omega
  · rw [f6, hs, f1 7 (Or.inr (Or.inr (Or.inr (Or.inl rfl))))]
/-- what k hours, begun at hour h, add -/
def Df (n m : Nat) (sp : Nat → Nat) (h k : Nat) (P X : Nat → Int32) : Prop := (∀ p, p < m → (∃ a, a ≤ sp p * k ∧ X (169 + 20 * p + 7) = P (169 + 20 * p + 7) + nI a) ∧ (∃ b, b ≤ k ∧ X (169 + 20 * p + 6) = P (169 + 20 * p + 6) + nI b) ∧ (nc P p = 0 → X (169 + 20 * p + 2) = P (169 + 20 * p + 2) ∧ X (169 + 20 * p + 7) = P (169 + 20 * p + 7))) ∧ (∀ i, i < n → ∃ a, a ≤ 36 * k ∧ X (9 + 8 * i + 6) = P (9 + 8 * i + 6) + nI a ∧ (a = 0 → X (9 + 8 * i + 7) = P (9 + 8 * i + 7)) ∧ (0 < a → ∃ t, h ≤ t ∧ t < h + k ∧ X (9 + 8 * i + 7) = nI t)) ∧ ∀ x, frH x → X x = P x
theorem Df_0 {n m h : Nat} {sp : Nat → Nat} {P : Nat → Int32} : Df n m sp h 0 P P := ⟨fun p hp => ⟨⟨0, by omega, (Int32.add_zero _).symm⟩, ⟨0, by omega, (Int32.add_zero _).symm⟩, fun _ => ⟨rfl, rfl⟩⟩, fun i hi => ⟨0, by omega, (Int32.add_zero _).symm, fun _ => rfl, fun h => absurd h (by omega)⟩, fun _ _ => rfl⟩
theorem Df_step {n m h k : Nat} {sp : Nat → Nat} {P X Y : Nat → Int32} {R : Int32} (hn : n ≤ 20) (hm : m ≤ 3) (h0 : P 0 = nI h) (f : HR n m sp P X R) (d : Df n m sp (h + 1) k X Y) : Df n m sp h (k + 1) P Y := by
  obtain ⟨f1, f2, -, f4, f5, f6, f7⟩ := f
  obtain ⟨d1, d2, d3⟩ := d
  refine ⟨fun p hp => ?_, fun i hi => ?_, fun x hx => (d3 x hx).trans (f1 x hx)⟩
  · obtain ⟨⟨a, a1, a2⟩, ⟨b, b1, b2⟩, -, g⟩ := f4 p hp
    obtain ⟨⟨a', e1, e2⟩, ⟨b', i1, i2⟩, g'⟩ := d1 p hp
    have e3 : nc X p = nc P p := nc_c (f1 _ (fr_p (p := p) (k := 3) (by omega) (by omega)))
    refine ⟨⟨a + a', ?_, by rw [e2, a2, nI_add3]⟩, ⟨b + b', by omega, by rw [i2, b2, nI_add3]⟩, fun hz => ?_⟩
    · rw [Nat.mul_add, Nat.mul_one]
      omega
    · obtain ⟨q1, q2⟩ := g hz
      obtain ⟨q3, q4⟩ := g' (by rw [e3]; exact hz)
      exact ⟨q3.trans q1, q4.trans q2⟩
  · obtain ⟨a, a1, a2, a3, a4⟩ := f5 i (by omega)
    obtain ⟨b, b1, b2, b3, b4⟩ := d2 i hi
    refine ⟨a + b, by omega, by rw [b2, a2, nI_add3], fun e => by rw [b3 (by omega), a3 (by omega)], fun e => ?_⟩
    by_cases hb : 0 < b
    · obtain ⟨t, t1, t2, t3⟩ := b4 hb
      exact ⟨t, by omega, by omega, t3⟩
    · exact ⟨h, by omega, by omega, by rw [b3 (by omega), a4 (by omega), h0]⟩
theorem Jv_hours {n m : Nat} {c sp : Nat → Nat} {T S : Int32} {many : Nat} : ∀ (k h : Nat) (acc : Int32) (j : Nat) (P : Nat → Int32), Jv n m c sp h P → Jv n m c sp (h + k) (fP_X7_hours_L6 T S many k acc j P) ∧ Df n m sp h k P (fP_X7_hours_L6 T S many k acc j P) ∧ ∃ z, z ≤ 20000 * k ∧ fP_X7_hours_L6 T S many k acc j P 6 = P 6 + nI z ∧ fR_X7_hours_L6 T S many k acc j P = acc + nI z
  | 0, h, acc, j, P, hj => by
    rw [fP_X7_hours_L6, fR_X7_hours_L6]
    exact ⟨hj, Df_0, 0, by omega, (Int32.add_zero _).symm, (Int32.add_zero _).symm⟩
  | k + 1, h, acc, j, P, hj => by
    rw [fP_X7_hours_L6, fR_X7_hours_L6]
    (try dsimp only)
    have f := hj.1.hr (T := T) (S := S)
    obtain ⟨hn, hm⟩ := hj.1.n20
    obtain ⟨a1, a2, y, y1, y2, y3⟩ := Jv_hours (many := many) k (h + 1) (acc + fR_X7_hour P T S) (j + 1) (fP_X7_hour P T S) (Jv_hour hj)
    obtain ⟨z, z1, z2, z3⟩ := f.2.2.1
    refine ⟨by rw [show h + (k + 1) = h + 1 + k by omega]; exact a1, Df_step hn hm hj.2.1 f a2, z + y, by omega, by rw [y2, z2, nI_add3], by rw [y3, z3, nI_add3]⟩
/-- the credits of one hour more -/
theorem hours_more {T S : Int32} {many many' : Nat} : ∀ (k : Nat) (acc : Int32) (j j' : Nat) (P : Nat → Int32), fR_X7_hours_L6 T S many (k + 1) acc j P = fR_X7_hours_L6 T S many' k acc j' P + fR_X7_hour (fP_X7_hours_L6 T S many' k acc j' P) T S
  | 0, acc, j, j', P => by
    rw [fR_X7_hours_L6, fR_X7_hours_L6, fR_X7_hours_L6, fP_X7_hours_L6]
  | k + 1, acc, j, j', P => by
    have e1 : fR_X7_hours_L6 T S many (k + 1 + 1) acc j P = fR_X7_hours_L6 T S many (k + 1) (acc + fR_X7_hour P T S) (j + 1) (fP_X7_hour P T S) := by rw [fR_X7_hours_L6]
    have e2 : fR_X7_hours_L6 T S many' (k + 1) acc j' P = fR_X7_hours_L6 T S many' k (acc + fR_X7_hour P T S) (j' + 1) (fP_X7_hour P T S) := by rw [fR_X7_hours_L6]
    have e3 : fP_X7_hours_L6 T S many' (k + 1) acc j' P = fP_X7_hours_L6 T S many' k (acc + fR_X7_hour P T S) (j' + 1) (fP_X7_hour P T S) := by rw [fP_X7_hours_L6]
    rw [e1, e2, e3]
    exact hours_more k (acc + fR_X7_hour P T S) (j + 1) (j' + 1) (fP_X7_hour P T S)
theorem Wi_hoursL {n m : Nat} {c sp : Nat → Nat} {T S : Int32} {many : Nat} : ∀ (k : Nat) (acc : Int32) (j : Nat) (P : Nat → Int32), Wi n m c sp P → Wi n m c sp (fP_X7_hours_L6 T S many k acc j P) ∧ ∃ z, z ≤ 20000 * k ∧ fR_X7_hours_L6 T S many k acc j P = acc + nI z
  | 0, acc, j, P, h => by
    rw [fP_X7_hours_L6, fR_X7_hours_L6]
    exact ⟨h, 0, by omega, (Int32.add_zero _).symm⟩
  | k + 1, acc, j, P, h => by
    rw [fP_X7_hours_L6, fR_X7_hours_L6]
    (try dsimp only)
    obtain ⟨z, z1, -, z3⟩ := (h.hr (T := T) (S := S)).2.2.1
    obtain ⟨a1, y, y1, y2⟩ := Wi_hoursL (many := many) k (acc + fR_X7_hour P T S) (j + 1) _ h.hour
    exact ⟨a1, z + y, by omega, by rw [y2, z3, nI_add3]⟩
/-- credits are numbers; an hour more, no less -/
theorem cr_nat {n m : Nat} {c sp : Nat → Nat} {T S : Int32} {P : Nat → Int32} (h : Wi n m c sp P) (k : Nat) : ∃ z, z ≤ 20000 * k ∧ fR_X7_hours P T S k = nI z := by
  obtain ⟨-, z, z1, z2⟩ := Wi_hoursL (T := T) (S := S) (many := k) k 0 0 P h
  exact ⟨z, z1, by unfold fR_X7_hours; rw [z2, Int32.zero_add]⟩
theorem cr_more {n m : Nat} {c sp : Nat → Nat} {T S : Int32} {P : Nat → Int32} (h : Wi n m c sp P) (k : Nat) : ∃ z y, z ≤ 20000 * k ∧ y ≤ 20000 ∧ fR_X7_hours P T S k = nI z ∧ fR_X7_hours P T S (k + 1) = nI (z + y) := by
  obtain ⟨a, z, z1, z2⟩ := Wi_hoursL (T := T) (S := S) (many := k) k 0 0 P h
  obtain ⟨y, y1, -, y3⟩ := (a.hr (T := T) (S := S)).2.2.1
  refine ⟨z, y, z1, y1, by unfold fR_X7_hours; rw [z2, Int32.zero_add], ?_⟩
  unfold fR_X7_hours
  rw [hours_more (many' := k) k 0 0 0 P, z2, Int32.zero_add, y3, nI_add]
