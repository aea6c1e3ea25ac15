/-! Facts that the law's check of questions wants. -/
theorem T50_in : ∀ a : Fin 101, ¬ fR_X7_in (nI a.1 - 50) (-300) 300 = 0 := by decide +kernel
theorem T60_in : ∀ a : Fin 121, ¬ fR_X7_in (nI a.1 - 60) (-300) 300 = 0 := by decide +kernel
theorem wth_ok {T : Int32} {s : Nat} (hT : ¬ fR_X7_in T (-300) 300 = 0) (hs : s ≤ 100) : ¬ fR_X7_isWeather T (nI s) = 0 := by
  have i2 : ¬ fR_X7_in (nI s) 0 100 = 0 := in_ok (a := 0) (b := 100) rfl rfl (Nat.zero_le _) hs (by decide)
  unfold fR_X7_isWeather
  rw [if_neg hT, if_neg i2]
  decide
theorem rem100 {t : Nat} (h : t ≤ 50) : nI (100 * t) - nI (100 * t) / 100 * 100 = 0 := by
  have := pk_rem (a := 100 * t) (d := 100) (by omega) (by decide) (by decide)
  rw [Nat.mul_mod_right] at this
  exact this
theorem th_empty {P : Nat → Int32} {T S : Int32} {s : Nat} (h3 : P 3 = nI s) (hs : s ≤ 100000) : (emptyP P T S = 0 ↔ s = 0) ∧ ¬ emptyP P T S < -1 ∧ ¬ 200 < emptyP P T S := by
  obtain ⟨e1, e2⟩ := empty_v (T := T) (S := S) h3 hs
  refine ⟨e1.trans ?_, ?_, ?_⟩
  · rw [h3]
    exact nI_eq (a := s) (b := 0) (by omega) (by decide)
  · rcases e2 with e | ⟨i, i1, e⟩
    · rw [e]; decide
    · rw [e]
      intro h
      have h2 : nI i < 0 := Int32.lt_of_lt_of_le h (by decide)
      exact nI_pos (by omega) h2
  · rcases e2 with e | ⟨i, i1, e⟩
    · rw [e]; decide
    · rw [e]
      exact nI_nlt (a := 200) (b := i) i1 (by decide)
theorem th_best {P : Nat → Int32} {h q k zc : Nat} {T S : Int32} (hI : Iv h P) (hq : q < np P) (hk : k ≤ 50) (hz : zc ≤ 1000000) (hzc : fR_X7_hours P T S k = nI zc) : ¬ bestP P q T S k < -1 ∧ bestP P q T S k ≤ 10 ∧ (¬ bestP P q T S k = -1 → 0 < zc) ∧ ((bestP P q T S k = -1 ∧ ∀ i, exOK P q i → nI zc ≤ fR_X7_hours (fP_X7_exchanges P q i) T S k) ∨ ∃ i, bestP P q T S k = nI i ∧ i ≤ 10 ∧ exOK P q i ∧ fR_X7_hours (fP_X7_exchanges P q i) T S k < nI zc) := by
  have hm := hI.good.m3
  have hQ := (hI.good.gP hq).1.1
  have h12 := hQ.2
  have hb := best_v (T := T) (S := S) (k := k) (q := q) (P := P) (by omega) hQ (by omega)
  rw [hzc] at hb
  rcases hb with ⟨b1, b2⟩ | ⟨i, b1, b2, b3⟩
  · rw [b1]
    exact ⟨by decide, by decide, fun h => absurd rfl h, Or.inl ⟨rfl, b2⟩⟩
  · have i10 : i ≤ 10 := by have := b2.1; omega
    obtain ⟨hJ, -, -⟩ := Iv_exchange hI hq b2.1 b2.2
    obtain ⟨-, -, sp, hJ2⟩ := hJ
    obtain ⟨y, y1, y2⟩ := cr_nat (T := T) (S := S) hJ2.1 k
    have b4 := b3
    rw [y2] at b4
    have := (nI_ltI (a := y) (b := zc) (by omega) (by omega)).mp b4
    rw [b1]
    refine ⟨fun hh => ?_, nI_le (b := 10) i10 (by decide), fun _ => by omega, Or.inr ⟨i, rfl, i10, b2, b3⟩⟩
    have h2 : nI i < 0 := Int32.lt_of_lt_of_le hh (by decide)
    exact nI_pos (by omega) h2
theorem th_case {P : Nat → Int32} {q : Nat} (k : Nat) : nc P q ≤ k + 1 ∨ (k + 1 < nc P q ∧ ¬ fR_X7_isBusy P q (nI k) = 0) ∨ exOK P q k := by
  by_cases h1 : nc P q ≤ k + 1
  · exact Or.inl h1
  · by_cases h2 : fR_X7_isBusy P q (nI k) = 0
    · exact Or.inr (Or.inr ⟨by omega, h2⟩)
    · exact Or.inr (Or.inl ⟨by omega, h2⟩)
theorem th_route {P : Nat → Int32} {h q k : Nat} (hI : Iv h P) (hq : q < np P) (hk : k < nc P q) : ∃ rr, P (169 + 20 * q + 8 + k) = nI rr ∧ rr < ns P := by
  obtain ⟨a1, a2, a3⟩ := (hI.good.gP hq).2 (by omega)
  exact ⟨_, a3 k hk⟩
