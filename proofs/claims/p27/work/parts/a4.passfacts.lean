/-! Facts that the law's check of hours wants. -/
theorem pass_f {P : Nat → Int32} {h u k9 : Nat} {T S : Int32} (hI : Iv h P) (hw : ¬ fR_X7_isWeather T S = 0) (hu : u ≤ 49) : ∃ zc, zc ≤ 1000000 ∧ fR_X7_hours P T S u = nI zc ∧ (h + u ≤ 2000 → Iv (h + u) (fP_X7_hours P T S u) ∧ ns (fP_X7_hours P T S u) = ns P ∧ np (fP_X7_hours P T S u) = np P ∧ fP_X7_hours P T S u 6 = P 6 + nI zc) := by
  obtain ⟨-, -, sp, hJ⟩ := id hI
  obtain ⟨zc, z1, z2⟩ := cr_nat (T := T) (S := S) hJ.1 u
  refine ⟨zc, by omega, z2, fun hk => ?_⟩
  obtain ⟨a1, a2, a3, -, z, b1, b2, b3⟩ := Iv_run hI hw hk
  refine ⟨a1, a2, a3, ?_⟩
  rw [z2] at b3
  rw [b2, b3]
theorem pass_p {P : Nat → Int32} {h u q : Nat} {T S : Int32} (hI : Iv h P) (hw : ¬ fR_X7_isWeather T S = 0) (hu : u ≤ 49) (hk : h + u ≤ 2000) (hq : q < np P) : ∃ s me a ro b z, fP_X7_hours P T S u (169 + 20 * q + 0) = nI s ∧ s ≤ 5000 ∧ P (169 + 20 * q + 7) = nI me ∧ me ≤ 10000000 ∧ fP_X7_hours P T S u (169 + 20 * q + 7) = nI (me + a) ∧ z = u * s ∧ a ≤ z ∧ z ≤ 245000 ∧ P (169 + 20 * q + 6) = nI ro ∧ ro ≤ 2000 ∧ fP_X7_hours P T S u (169 + 20 * q + 6) = nI (ro + b) ∧ b ≤ u ∧ fP_X7_hours P T S u (169 + 20 * q + 3) = nI (nc P q) ∧ nc P q ≤ 12 ∧ (nc P q = 0 → a = 0 ∧ fP_X7_hours P T S u (169 + 20 * q + 2) = P (169 + 20 * q + 2)) := by
  obtain ⟨K, b0, a0, g, s0, ro, me, p0, p1, p2, p3, p4, p5, p6, p7, p8, p9, pa, pb, pc, pd, pe, pf, pg, z, ph, pi, pj⟩ := snd_plow hI hq
  obtain ⟨a1, a2, a3, ⟨sp, s1, d1, d2, d3⟩, -⟩ := Iv_run hI hw hk
  obtain ⟨⟨a, e1, e2⟩, ⟨b, e3, e4⟩, e5⟩ := d1 q hq
  obtain ⟨f1, f2⟩ := s1 q hq
  have hm := hI.1.2.2.m3
  have hh := hI.2.1
  refine ⟨sp q, me, a, ro, b, u * sp q, ?_, f2, pg, by omega, by rw [e2, pg, nI_add], rfl, by rw [Nat.mul_comm]; exact e1, Nat.le_trans (Nat.mul_le_mul hu f2) (by decide), pe, by omega, by rw [e4, pe, nI_add], e3, ?_, p7, fun h0 => ?_⟩
  · rw [d3 _ (fr_p (p := q) (k := 0) (by omega) (by omega))]
    exact f1
  · rw [d3 _ (fr_p (p := q) (k := 3) (by omega) (by omega))]
    exact p6
  · obtain ⟨g1, g2⟩ := e5 h0
    refine ⟨?_, g1⟩
    rw [e2, pg, nI_add] at g2
    have hs : sp q * u ≤ 5000 * 49 := Nat.mul_le_mul f2 hu
    have := (nI_eq (a := me + a) (b := me) (by omega) (by omega)).mp g2
    omega
theorem pass_s {P : Nat → Int32} {h u j : Nat} {T S : Int32} (hI : Iv h P) (hw : ¬ fR_X7_isWeather T S = 0) (hu : u ≤ 49) (hk : h + u ≤ 2000) (hj : j < ns P) : ∃ cl a, P (9 + 8 * j + 6) = nI cl ∧ cl ≤ 72000 ∧ fP_X7_hours P T S u (9 + 8 * j + 6) = nI (cl + a) ∧ a ≤ 1764 ∧ (0 < a → ¬ fP_X7_hours P T S u (9 + 8 * j + 7) < nI h) ∧ (a = 0 → fP_X7_hours P T S u (9 + 8 * j + 7) < nI h) := by
  obtain ⟨d, we, ic, wa, cl, L, f2, d1, f3, w1, f4, i1, f5, wa1, f6, cl1, f7a, f7b, f7c, f1, p1, f0, L1, L2⟩ := snd_street hI hj
  obtain ⟨a1, a2, a3, ⟨sp, s1, e1, e2, e3⟩, -⟩ := Iv_run hI hw hk
  obtain ⟨a, g1, g2, g3, g4⟩ := e2 j hj
  refine ⟨cl, a, f6, cl1, by rw [g2, f6, nI_add], by omega, fun h0 => ?_, fun h0 => ?_⟩
  · obtain ⟨t, t1, t2, t3⟩ := g4 h0
    rw [t3]
    exact nI_nlt t1 (by omega)
  · rw [g3 h0]
    exact f7c
theorem X3_step {P X9 X10 X11 : Nat → Int32} {q : Nat} (hX : ∀ p, p < q → X9 p = P (169 + 20 * p + 7) ∧ X10 p = P (169 + 20 * p + 6) ∧ X11 p = P (169 + 20 * p + 2)) : ∀ p, p < q + 1 → upd X9 q (P (169 + 20 * q + 7)) p = P (169 + 20 * p + 7) ∧ upd X10 q (P (169 + 20 * q + 6)) p = P (169 + 20 * p + 6) ∧ upd X11 q (P (169 + 20 * q + 2)) p = P (169 + 20 * p + 2) := fun p hp => by
  by_cases e : p = q
  · subst e
    exact ⟨upd_s, upd_s, upd_s⟩
  · rw [upd_n e, upd_n e, upd_n e]
    exact hX p (by omega)
theorem X1_step {P X12 : Nat → Int32} {j : Nat} (hX : ∀ i, i < j → X12 i = P (9 + 8 * i + 6)) : ∀ i, i < j + 1 → upd X12 j (P (9 + 8 * j + 6)) i = P (9 + 8 * i + 6) := fun i hi => by
  by_cases e : i = j
  · subst e
    exact upd_s
  · rw [upd_n e]
    exact hX i (by omega)
/-- undo, behind a call that saved P -/
theorem E_undo1 {C P P2 : Nat → Int32} {G Q : Nat → Nat → Int32} {n : Nat} (h : Sd C G (svN n + 1) P2 (svQ Q n P)) : ans (fE_X6_undo C G (svN n + 1)) (fR_X6_undo C G (svN n + 1)) = nI (svN n + 1 - 1) ∧ fn_X6_undo C G (svN n + 1) = svN n + 1 - 1 ∧ Sd (fC_X6_undo C G (svN n + 1)) G (svN n + 1 - 1) P (svQ Q n P) := by
  have := E_undo (n := svN n + 1) (by omega) h
  rw [svQ_top] at this
  exact this
