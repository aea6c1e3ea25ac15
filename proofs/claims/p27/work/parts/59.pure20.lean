/-! The class's weather and waiting are the reference's, where the page's numbers are in range. -/
theorem max_sub {a c : Nat} (ha : a ≤ 1000) (hc : c ≤ 1000) : (if nI a - nI c < 0 then 0 else nI a - nI c) = nI a - fR_X7_lesser (nI a) (nI c) := by
  unfold fR_X7_lesser
  by_cases h : c ≤ a
  · have h1 : nI c ≤ nI a := (nI_leI (by omega) (by omega)).mpr h
    have h2 : ¬ nI (a - c) < 0 := fun h3 => by
      have := (nI_ltI (a := a - c) (b := 0) (by omega) (by omega)).mp h3
      omega
    rw [if_pos h1, pk_sub h, if_neg h2]
  · have h1 : ¬ nI c ≤ nI a := fun h3 => h ((nI_leI (by omega) (by omega)).mp h3)
    have h2 : nI a - nI c < 0 := by
      rw [Int32.lt_iff_toInt_lt, pk_sub_toInt (by omega) (by omega)]
      show (a : Int) - c < 0
      omega
    rw [if_neg h1, Int32.sub_self, if_pos h2]
theorem div5 : ∀ t : Fin 301, nI t.1 / 5 = nI (t.1 / 5) := by decide +kernel
theorem takeWeather_eq {P : Nat → Int32} {i a : Nat} {tmp sn : Int32} (hice : P (9 + 8 * i + 4) = nI a) (ha : a ≤ 100) (ht : tmp ≤ 0 ∨ ∃ t, t ≤ 300 ∧ tmp = nI t) : fP_X3_takeWeather P i tmp sn = fP_X7_weather P i tmp sn := by
  unfold fP_X3_takeWeather fP_X7_weather fP_X3_thaw fP_X3_freeze
  (try dsimp only)
  simp only [less_a]
  by_cases h1 : tmp ≤ 0
  · rw [if_pos h1, if_pos h1]
  · rw [if_neg h1, if_neg h1, if_pos (Int32.le_of_lt (Int32.not_le.1 h1))]
    obtain ⟨t, ht1, rfl⟩ := ht.resolve_left h1
    rw [div5 ⟨t, by omega⟩]
    refine congrArg (upd _ _) ?_
    rw [upd_n (by omega), upd_n (by omega), upd_n (by omega), hice]
    exact max_sub (by omega) (by omega)
theorem isDue_1 {P : Nat → Int32} {i : Nat} : fR_X7_isDue P i = 0 ∨ fR_X7_isDue P i = 1 := by
  unfold fR_X7_isDue
  split
  · exact Or.inl rfl
  · exact Or.inr rfl
/-- the class's page where a street has waited: the reference's but for word 5, with the credit that was paid added to word 6 -/
theorem letWait_eq {P : Nat → Int32} {i : Nat} (hi : i < 20) (hl : 0 ≤ P (229 + 4 * pr P i + 1)) : fP_X0_letWait P i = fun j => if j = 5 then P 5 else if j = 6 then P 6 + fR_X7_waits P i else fP_X7_waits P i j := by
  have hz : ∀ x : Int32, x + 0 = x := Int32.add_zero
  unfold fP_X0_letWait fP_X7_waits fR_X7_waits fR_X7_term
  (try dsimp only)
  rw [isDue_eq]
  have e1 : pr (upd P (9 + 8 * i + 5) 0) i = pr P i := by unfold pr; rw [upd_n (by omega)]
  have e2 : ∀ x, pr (upd P (9 + 8 * i + 5) x) i = pr P i := fun x => by unfold pr; rw [upd_n (by omega)]
  have e3 : ∀ x y z, pr (upd (upd (upd P (9 + 8 * i + 5) x) 5 y) (229 + 4 * pr P i + 3) z) i = pr P i := fun x y z => by unfold pr; rw [upd_n (by omega), upd_n (by omega), upd_n (by omega)]
  simp only [e2, e3]
  by_cases hd : fR_X7_isDue P i = 0
  · have h0 : ¬ upd P (9 + 8 * i + 5) 0 (229 + 4 * pr P i + 1) < upd P (9 + 8 * i + 5) 0 (9 + 8 * i + 5) := by
      rw [upd_s, upd_n (by omega)]
      exact Int32.not_lt.2 hl
    rw [if_pos hd, if_pos hd, if_pos hd, if_neg h0, if_neg h0]
    funext j
    by_cases h5 : j = 5
    · rw [if_pos h5, h5, upd_n (by omega)]
    · rw [if_neg h5]
      by_cases h6 : j = 6
      · rw [if_pos h6, h6, upd_n (by omega), hz]
      · rw [if_neg h6]
  · rw [if_neg hd, if_neg hd, if_neg hd]
    by_cases hc : upd P (9 + 8 * i + 5) (P (9 + 8 * i + 5) + 1) (229 + 4 * pr P i + 1) < upd P (9 + 8 * i + 5) (P (9 + 8 * i + 5) + 1) (9 + 8 * i + 5)
    · rw [if_neg (Int32.not_le.2 hc), if_pos hc, if_pos hc]
      funext j
      by_cases h5 : j = 5
      · rw [if_pos h5, h5, upd_n (by omega), upd_n (by omega), upd_n (by omega)]
      · rw [if_neg h5]
        by_cases h6 : j = 6
        · rw [if_pos h6, h6, upd_s, upd_n (by omega), upd_n (by omega)]
          congr 1
          rw [upd_n (by omega), upd_n (by omega), upd_n (by omega), upd_n (by omega), upd_n (by omega)]
        · rw [if_neg h6, upd_n h6]
          by_cases h7 : j = 229 + 4 * pr P i + 3
          · rw [h7, upd_s, upd_s, upd_n (j := 229 + 4 * pr P i + 3) (k := 5) (by omega)]
          · rw [upd_n h7, upd_n h7, upd_n h5]
    · rw [if_pos (Int32.not_lt.1 hc), if_neg hc, if_neg hc]
      funext j
      by_cases h5 : j = 5
      · rw [if_pos h5, h5, upd_n (by omega)]
      · rw [if_neg h5]
        by_cases h6 : j = 6
        · rw [if_pos h6, h6, upd_n (by omega), hz]
        · rw [if_neg h6]
