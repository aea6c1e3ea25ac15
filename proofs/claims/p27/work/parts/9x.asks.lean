/-! What the questions answer. -/
theorem tried_eq {P S : Nat → Int32} {q j k : Nat} {T Sn : Int32} : fR_X7_tried P S q j T Sn k = fR_X7_hours (fP_X7_exchanges P q j) T Sn k := rfl
def exOK (P : Nat → Int32) (q i : Nat) : Prop := i + 1 < nc P q ∧ fR_X7_isBusy P q (nI i) = 0
theorem best_L {P : Nat → Int32} {q kk : Nat} {T S c0 : Int32} (hq : q < 100) (hQ : okQ P q) (hkk : kk ≤ 100) : ∀ (k : Nat) (best least : Int32) (j : Nat) (Sl Fl : Nat → Int32), j + k = 12 → ((best = -1 ∧ least = c0) ∨ ∃ i, best = nI i ∧ exOK P q i ∧ fR_X7_hours (fP_X7_exchanges P q i) T S kk < c0) → (∀ i, i < j → exOK P q i → least ≤ fR_X7_hours (fP_X7_exchanges P q i) T S kk) → least ≤ c0 →
    (fR_X7_bestExchange_L65 P (nI q) T S (nI kk) k best least j Sl Fl = -1 ∧ ∀ i, exOK P q i → c0 ≤ fR_X7_hours (fP_X7_exchanges P q i) T S kk) ∨ ∃ i, fR_X7_bestExchange_L65 P (nI q) T S (nI kk) k best least j Sl Fl = nI i ∧ exOK P q i ∧ fR_X7_hours (fP_X7_exchanges P q i) T S kk < c0
  | 0, best, least, j, Sl, Fl, hj, hb, ha, hl => by
    rw [fR_X7_bestExchange_L65]
    rcases hb with ⟨b1, b2⟩ | hb
    · refine Or.inl ⟨b1, fun i hi => ?_⟩
      rw [← b2]
      exact ha i (by have := hi.1; have := hQ.2; omega) hi
    · exact Or.inr hb
  | k + 1, best, least, j, Sl, Fl, hj, hb, ha, hl => by
    rw [fR_X7_bestExchange_L65, nI_clamp (show q < 2 ^ 31 by omega), nI_clamp (show kk < 2 ^ 31 by omega)]
    (try dsimp only)
    by_cases h1 : fR_X7_isPair P q (nI j) = 0
    · rw [if_pos h1]
      have hn : nc P q ≤ j + 1 := by
        by_cases h : nc P q ≤ j + 1
        · exact h
        · exact absurd h1 (isPair_ok hQ (by omega))
      rcases hb with ⟨b1, b2⟩ | hb
      · refine Or.inl ⟨b1, fun i hi => ?_⟩
        rw [← b2]
        exact ha i (by have := hi.1; omega) hi
      · exact Or.inr hb
    rw [if_neg h1]
    have hpj := (isPair_nn (by omega) hQ h1).1
    by_cases h3 : fR_X7_isBusy P q (nI j) = 0
    · rw [if_pos h3, tried_eq]
      by_cases h4 : least ≤ fR_X7_hours (fP_X7_exchanges P q j) T S kk
      · rw [if_pos h4, less_p h4]
        refine best_L hq hQ hkk k _ _ (j + 1) _ _ (by omega) hb (fun i hi he => ?_) hl
        by_cases e : i = j
        · subst e
          exact h4
        · exact ha i (by omega) he
      · rw [if_neg h4, less_q h4]
        have h5 : fR_X7_hours (fP_X7_exchanges P q j) T S kk < least := Int32.not_le.1 h4
        refine best_L hq hQ hkk k _ _ (j + 1) _ _ (by omega) (Or.inr ⟨j, rfl, ⟨hpj, h3⟩, Int32.lt_of_lt_of_le h5 hl⟩) (fun i hi he => ?_) (Int32.le_of_lt (Int32.lt_of_lt_of_le h5 hl))
        by_cases e : i = j
        · subst e
          exact Int32.le_refl _
        · exact Int32.le_of_lt (Int32.lt_of_lt_of_le h5 (ha i (by omega) he))
    · rw [if_neg h3]
      refine best_L hq hQ hkk k _ _ (j + 1) _ _ (by omega) hb (fun i hi he => ?_) hl
      by_cases e : i = j
      · subst e
        exact absurd he.2 h3
      · exact ha i (by omega) he
theorem best_v {P : Nat → Int32} {q k : Nat} {T S : Int32} (hq : q < 100) (hQ : okQ P q) (hk : k ≤ 100) : (bestP P q T S k = -1 ∧ ∀ i, exOK P q i → fR_X7_hours P T S k ≤ fR_X7_hours (fP_X7_exchanges P q i) T S k) ∨ ∃ i, bestP P q T S k = nI i ∧ exOK P q i ∧ fR_X7_hours (fP_X7_exchanges P q i) T S k < fR_X7_hours P T S k :=
  best_L hq hQ hk 12 (-1) _ 0 _ _ (by omega) (Or.inl ⟨rfl, rfl⟩) (fun i hi _ => absurd hi (by omega)) (Int32.le_refl _)
theorem least_L {P : Nat → Int32} {q kk : Nat} {T S cmp : Int32} : ∀ (k : Nat) (fnd : Int32) (spd : Nat) (Sl Fl : Nat → Int32), (∃ t, spd = 100 * t ∧ 1 ≤ t ∧ t + k ≤ 51) → (fnd = -1 ∨ ∃ t, fnd = nI (100 * t) ∧ 1 ≤ t ∧ t ≤ 50) → fR_X7_leastSpeed_L77 P (nI q) T S (nI kk) k fnd cmp spd Sl Fl = -1 ∨ ∃ t, fR_X7_leastSpeed_L77 P (nI q) T S (nI kk) k fnd cmp spd Sl Fl = nI (100 * t) ∧ 1 ≤ t ∧ t ≤ 50
  | 0, fnd, spd, Sl, Fl, _, hf => by
    rw [fR_X7_leastSpeed_L77]
    exact hf
  | k + 1, fnd, spd, Sl, Fl, ⟨t, t1, t2, t3⟩, hf => by
    rw [fR_X7_leastSpeed_L77]
    (try dsimp only)
    split
    · split
      · exact least_L k _ _ _ _ ⟨t + 1, by omega, by omega, by omega⟩ (Or.inr ⟨t, by rw [t1], t2, by omega⟩)
      · exact least_L k _ _ _ _ ⟨t + 1, by omega, by omega, by omega⟩ (Or.inl rfl)
    · exact hf
theorem least_v {P : Nat → Int32} {q k : Nat} {T S : Int32} : leastP P q T S k = -1 ∨ ∃ t, leastP P q T S k = nI (100 * t) ∧ 1 ≤ t ∧ t ≤ 50 :=
  least_L 50 (-1) 100 _ _ ⟨1, rfl, by omega, by omega⟩ (Or.inl rfl)
theorem empty_L {T S : Int32} : ∀ (k j : Nat) (P Sl Fl : Nat → Int32), fR_X7_emptyIn_L41 T S k j P Sl Fl = -1 ∨ ∃ i, j ≤ i ∧ i ≤ j + k ∧ fR_X7_emptyIn_L41 T S k j P Sl Fl = nI i
  | 0, j, P, Sl, Fl => by
    rw [fR_X7_emptyIn_L41, ite_self]
    split
    · exact Or.inr ⟨j, by omega, by omega, rfl⟩
    · exact Or.inl rfl
  | k + 1, j, P, Sl, Fl => by
    rw [fR_X7_emptyIn_L41]
    (try dsimp only)
    split
    · split
      · exact Or.inr ⟨j, by omega, by omega, rfl⟩
      · exact Or.inl rfl
    · rcases empty_L (T := T) (S := S) k (j + 1) (fP_X7_hour P T S) Sl Fl with h | ⟨i, h1, h2, h3⟩
      · exact Or.inl h
      · exact Or.inr ⟨i, by omega, by omega, h3⟩
theorem empty_v {P : Nat → Int32} {T S : Int32} {s : Nat} (h3 : P 3 = nI s) (hs : s ≤ 100000) : (emptyP P T S = 0 ↔ P 3 = 0) ∧ (emptyP P T S = -1 ∨ ∃ i, i ≤ 200 ∧ emptyP P T S = nI i) := by
  unfold emptyP
  rw [fR_X7_emptyIn_L41]
  (try dsimp only)
  by_cases h0 : s = 0
  · subst h0
    rw [h3]
    exact ⟨⟨fun _ => rfl, fun _ => rfl⟩, Or.inr ⟨0, by omega, rfl⟩⟩
  · have hp : ¬ P 3 ≤ 0 := by rw [h3]; exact nI_nle (by omega) (by omega)
    have hn : ¬ P 3 = 0 := by rw [h3]; exact nI_ne0 (by omega) (by omega)
    rw [if_neg hp]
    rcases empty_L (T := T) (S := S) 199 1 (fP_X7_hour P T S) (fun _ => 0) (fun _ => 0) with h | ⟨i, h1, h2, h4⟩
    · rw [h]
      exact ⟨⟨fun h => absurd h (by decide), fun h => absurd h hn⟩, Or.inl rfl⟩
    · rw [h4]
      exact ⟨⟨fun h => absurd h (nI_ne0 (by omega) (by omega)), fun h => absurd h hn⟩, Or.inr ⟨i, by omega, rfl⟩⟩
