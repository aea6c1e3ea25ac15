/-! The class's hour against the reference's on one page: all but word 5. -/
theorem plows_0 {P : Nat → Int32} {q : Nat} (h : P (169 + 20 * q + 3) ≤ 0) : fP_X7_plows P q = P := by
  unfold fP_X7_plows
  (try dsimp only)
  rw [if_pos h, plL0]
theorem limP_plows {P : Nat → Int32} {q : Nat} (hq : q < 3) (hW : ¬ P (169 + 20 * q + 3) ≤ 0 → okW P q) (hl : limP P) : limP (fP_X7_plows P q) := limP_c (fun r _ => (plows_W hW).2 _ ⟨fun i hi => ⟨by omega, by omega, by omega, by omega⟩, by omega, by omega, by omega, by omega, by omega, by omega, by omega⟩) hl
theorem cl_L29 {tmp sn : Int32} : ∀ (k j : Nat) (P : Nat → Int32), WF P → limP P → j + k = np P → ∀ x, x ≠ 5 → fP_X0_passHour_L29 tmp sn k j P x = fP_X7_hour_L27 tmp sn k j P x
  | 0, j, P, hw, hl, _, x, h5 => by
    rw [fP_X0_passHour_L29, fP_X7_hour_L27]
    exact cl_L67 _ _ _ _ _ ⟨(Int32.add_zero _).symm, fun _ _ _ => rfl⟩ hw hl (by omega) x h5
  | k + 1, j, P, hw, hl, hk, x, h5 => by
    have hj : j < np P := by omega
    have h3 := hw.1.2.2.2
    rw [fP_X0_passHour_L29, fP_X7_hour_L27]
    (try dsimp only)
    by_cases h0 : P (169 + 20 * j + 3) ≤ 0
    · rw [if_pos h0, plows_0 h0]
      exact cl_L29 k (j + 1) P hw hl (by omega) x h5
    · rw [if_neg h0, letWork_eq h0 (hw.2.2 j hj h0)]
      exact cl_L29 k (j + 1) _ (WF_plows hj hw) (limP_plows (by omega) (hw.2.2 j hj) hl) (by rw [np_c (ns_plows hj hw).2]; omega) x h5
theorem cl_L2 {tmp sn : Int32} (ht : tmp ≤ 0 ∨ ∃ t, t ≤ 300 ∧ tmp = nI t) : ∀ (k j : Nat) (P : Nat → Int32), WF P → limP P → (∀ i, j ≤ i → i < ns P → ∃ a, a ≤ 100 ∧ P (9 + 8 * i + 4) = nI a) → j + k = ns P → ∀ x, x ≠ 5 → fP_X0_passHour_L2 tmp sn k j P x = fP_X7_hour_L2 tmp sn k j P x
  | 0, j, P, hw, hl, _, _, x, h5 => by
    rw [fP_X0_passHour_L2, fP_X7_hour_L2]
    exact cl_L29 _ _ _ hw hl (by omega) x h5
  | k + 1, j, P, hw, hl, hi, hk, x, h5 => by
    have hn := hw.1.2.1
    obtain ⟨a, ha, hice⟩ := hi j (Nat.le_refl _) (by omega)
    rw [fP_X0_passHour_L2, fP_X7_hour_L2]
    (try dsimp only)
    rw [takeWeather_eq hice ha ht]
    have hns : ns (fP_X7_weather P j tmp sn) = ns P := ns_c ns_weather.1
    exact cl_L2 ht k (j + 1) _ (WF_weather (by omega) hw) (limP_c (fun r _ => fr_weather (by omega) (by omega) (by omega)) hl) (fun i h1 h2 => by
      rw [hns] at h2
      rw [fr_weather (by omega) (by omega) (by omega)]
      exact hi i (by omega) h2) (by rw [hns]; omega) x h5
theorem cl_hour {P : Nat → Int32} {tmp sn : Int32} (ht : tmp ≤ 0 ∨ ∃ t, t ≤ 300 ∧ tmp = nI t) (hw : WF P) (hl : limP P) (hi : ∀ i, i < ns P → ∃ a, a ≤ 100 ∧ P (9 + 8 * i + 4) = nI a) : ∀ x, x ≠ 5 → fP_X0_passHour P tmp sn x = fP_X7_hour P tmp sn x :=
  cl_L2 ht _ _ _ hw hl (fun i _ h => hi i h) (by omega)
