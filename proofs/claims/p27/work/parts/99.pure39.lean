/-! What an hour adds to the credits, the complaints and the hours; the class's hours against the reference's under agreement. -/
def cs (P : Nat → Int32) : Int32 := 0 + P 232 + P 236 + P 240
theorem cs_c {P P1 : Nat → Int32} (h1 : P1 232 = P 232) (h2 : P1 236 = P 236) (h3 : P1 240 = P 240) : cs P1 = cs P := by unfold cs; rw [h1, h2, h3]
theorem compl_eq {P : Nat → Int32} : fR_X0_complaints P = cs P := rfl
theorem waits_5 {P : Nat → Int32} {i : Nat} (hi : i < 20) (hr : okR P i) : ∃ z, z ≤ 1 ∧ fP_X7_waits P i 5 = P 5 + nI z ∧ cs (fP_X7_waits P i) = cs P + nI z := by
  have h3 := hr.2
  have hp : pr P i = 0 ∨ pr P i = 1 ∨ pr P i = 2 := by omega
  have u : ∀ x, (upd (upd (upd P (9 + 8 * i + 5) x) 5 (P 5 + 1)) (229 + 4 * pr P i + 3) (P (229 + 4 * pr P i + 3) + 1)) 5 = P 5 + nI 1 ∧ cs (upd (upd (upd P (9 + 8 * i + 5) x) 5 (P 5 + 1)) (229 + 4 * pr P i + 3) (P (229 + 4 * pr P i + 3) + 1)) = cs P + nI 1 := fun x => by
    have n1 : nI 1 = 1 := rfl
    have d1 : (232 : Nat) ≠ 9 + 8 * i + 5 := by omega
    have d2 : (236 : Nat) ≠ 9 + 8 * i + 5 := by omega
    have d3 : (240 : Nat) ≠ 9 + 8 * i + 5 := by omega
    refine ⟨by rw [upd_n (by omega), upd_s, n1], ?_⟩
    unfold cs
    rcases hp with e | e | e <;> rw [e, n1] <;> simp [upd, d1, d2, d3] <;> ac_rfl
  have v : ∀ x, upd P (9 + 8 * i + 5) x 5 = P 5 + nI 0 ∧ cs (upd P (9 + 8 * i + 5) x) = cs P + nI 0 := fun x => by
    rw [show nI 0 = 0 from rfl, Int32.add_zero, Int32.add_zero]
    exact ⟨upd_n (by omega), cs_c (upd_n (by omega)) (upd_n (by omega)) (upd_n (by omega))⟩
  rw [(waits_f hi).2]
  split <;> split
  · exact ⟨1, by omega, u _⟩
  · exact ⟨0, by omega, v _⟩
  · exact ⟨1, by omega, u _⟩
  · exact ⟨0, by omega, v _⟩
def kp6 (P P1 : Nat → Int32) : Prop := P1 5 = P 5 ∧ cs P1 = cs P ∧ P1 6 = P 6 ∧ P1 0 = P 0
theorem L53_5 {tmp sn : Int32} : ∀ (k : Nat) (acc : Int32) (j : Nat) (P : Nat → Int32), WF P → j + k ≤ ns P → ∃ z, z ≤ k ∧ fP_X7_hour_L53 tmp sn k acc j P 5 = P 5 + nI z ∧ cs (fP_X7_hour_L53 tmp sn k acc j P) = cs P + nI z ∧ fP_X7_hour_L53 tmp sn k acc j P 6 = P 6 + fR_X7_hour_L53 tmp sn k acc j P ∧ fP_X7_hour_L53 tmp sn k acc j P 0 = P 0 + 1
  | 0, acc, j, P, _, _ => by
    rw [fP_X7_hour_L53, fR_X7_hour_L53]
    (try dsimp only)
    refine ⟨0, by omega, ?_, ?_, ?_, ?_⟩
    · rw [show nI 0 = 0 from rfl, Int32.add_zero, upd_n (by omega), upd_n (by omega)]
    · rw [show nI 0 = 0 from rfl, Int32.add_zero]
      exact cs_c (by rw [upd_n (by omega), upd_n (by omega)]) (by rw [upd_n (by omega), upd_n (by omega)]) (by rw [upd_n (by omega), upd_n (by omega)])
    · rw [upd_n (by omega), upd_s]
    · rw [upd_s, upd_n (by omega)]
  | k + 1, acc, j, P, hw, hk => by
    have hn := hw.1.2.1
    rw [fP_X7_hour_L53, fR_X7_hour_L53]
    (try dsimp only)
    obtain ⟨z1, a1, a2, a3⟩ := waits_5 (P := P) (i := j) (by omega) (hw.2.1 j (by omega))
    obtain ⟨z2, b1, b2, b3, b4, b5⟩ := L53_5 (tmp := tmp) (sn := sn) k (acc + fR_X7_waits P j) (j + 1) _ (WF_waits (i := j) (by omega) hw) (by rw [ns_c ns_waits.1]; omega)
    refine ⟨z1 + z2, by omega, ?_, ?_, ?_, ?_⟩
    · rw [b2, a2, Int32.add_assoc, nI_add]
    · rw [b3, a3, Int32.add_assoc, nI_add]
    · rw [b4, fr_waits (by omega) (by omega) (by omega)]
    · rw [b5, fr_waits (by omega) (by omega) (by omega)]
theorem L27_5 {tmp sn : Int32} : ∀ (k j : Nat) (P : Nat → Int32), WF P → j + k = np P → ∃ z, z ≤ ns P ∧ fP_X7_hour_L27 tmp sn k j P 5 = P 5 + nI z ∧ cs (fP_X7_hour_L27 tmp sn k j P) = cs P + nI z ∧ fP_X7_hour_L27 tmp sn k j P 6 = P 6 + fR_X7_hour_L27 tmp sn k j P ∧ fP_X7_hour_L27 tmp sn k j P 0 = P 0 + 1
  | 0, j, P, hw, _ => by
    rw [fP_X7_hour_L27, fR_X7_hour_L27]
    exact L53_5 _ _ _ _ hw (by omega)
  | k + 1, j, P, hw, hk => by
    have hj : j < np P := by omega
    have h3 := hw.1.2.2.2
    have fr : ∀ x, (x < 9 ∧ x ≠ 3 ∧ x ≠ 8) ∨ 229 ≤ x → fP_X7_plows P j x = P x := fun x hx => (plows_W (hw.2.2 j hj)).2 x ⟨fun i hi => ⟨by omega, by omega, by omega, by omega⟩, by omega, by omega, by omega, by omega, by omega, by omega, by omega⟩
    rw [fP_X7_hour_L27, fR_X7_hour_L27]
    (try dsimp only)
    obtain ⟨z, b1, b2, b3, b4, b5⟩ := L27_5 (tmp := tmp) (sn := sn) k (j + 1) _ (WF_plows hj hw) (by rw [np_c (ns_plows hj hw).2]; omega)
    exact ⟨z, by rw [ns_c (ns_plows hj hw).1] at b1; exact b1, by rw [b2, fr 5 (by omega)], by rw [b3, cs_c (fr 232 (by omega)) (fr 236 (by omega)) (fr 240 (by omega))], by rw [b4, fr 6 (by omega)], by rw [b5, fr 0 (by omega)]⟩
theorem L2_5 {tmp sn : Int32} : ∀ (k j : Nat) (P : Nat → Int32), WF P → j + k = ns P → ∃ z, z ≤ ns P ∧ fP_X7_hour_L2 tmp sn k j P 5 = P 5 + nI z ∧ cs (fP_X7_hour_L2 tmp sn k j P) = cs P + nI z ∧ fP_X7_hour_L2 tmp sn k j P 6 = P 6 + fR_X7_hour_L2 tmp sn k j P ∧ fP_X7_hour_L2 tmp sn k j P 0 = P 0 + 1
  | 0, j, P, hw, _ => by
    rw [fP_X7_hour_L2, fR_X7_hour_L2]
    exact L27_5 _ _ _ hw (by omega)
  | k + 1, j, P, hw, hk => by
    have hn := hw.1.2.1
    have fr : ∀ x, x < 9 ∨ 229 ≤ x → fP_X7_weather P j tmp sn x = P x := fun x hx => fr_weather (by omega) (by omega) (by omega)
    rw [fP_X7_hour_L2, fR_X7_hour_L2]
    (try dsimp only)
    obtain ⟨z, b1, b2, b3, b4, b5⟩ := L2_5 (tmp := tmp) (sn := sn) k (j + 1) _ (WF_weather (i := j) (tmp := tmp) (sn := sn) (by omega) hw) (by rw [ns_c ns_weather.1]; omega)
    exact ⟨z, by rw [ns_c ns_weather.1] at b1; exact b1, by rw [b2, fr 5 (by omega)], by rw [b3, cs_c (fr 232 (by omega)) (fr 236 (by omega)) (fr 240 (by omega))], by rw [b4, fr 6 (by omega)], by rw [b5, fr 0 (by omega)]⟩
theorem hour_5 {tmp sn : Int32} {P : Nat → Int32} (hw : WF P) : ∃ z, z ≤ 20 ∧ fP_X7_hour P tmp sn 5 = P 5 + nI z ∧ cs (fP_X7_hour P tmp sn) = cs P + nI z ∧ fP_X7_hour P tmp sn 6 = P 6 + fR_X7_hour P tmp sn ∧ fP_X7_hour P tmp sn 0 = P 0 + 1 := by
  obtain ⟨z, b1, b2⟩ := L2_5 (tmp := tmp) (sn := sn) (ns P) 0 P hw (by omega)
  exact ⟨z, by have := hw.1.2.1; omega, b2⟩
theorem tmpR_c {tmp : Int32} (h : tmpR tmp) : tmp ≤ 0 ∨ ∃ t, t ≤ 300 ∧ tmp = nI t := by
  rcases h with ⟨t, h1, h2, h3⟩ | ⟨t, h2, h3⟩
  · exact Or.inr ⟨t, h2, h3⟩
  · exact Or.inl (by rw [h3]; exact (neg_le0 ⟨t, by omega⟩).1)
/-- an hour of the class on a page that agrees with the reference's -/
theorem ch_hour {n m B : Nat} {c : Nat → Nat} {tmp sn : Int32} {X P : Nat → Int32} (h : Ag n m c X P) (hI : hrI n m c P) (hr : rng n m B P) (ht : tmpR tmp) : Ag n m c (fP_X0_passHour X tmp sn) (fP_X7_hour P tmp sn) ∧ fP_X0_passHour X tmp sn 6 = X 6 + fR_X7_hour P tmp sn := by
  have hX := hrI_ag h hI
  have hl : limP X := limP_c (fun r hr => ag_t h hr 1 (by decide)) hr.2.2.2.2
  have hc := cl_hour (P := X) (sn := sn) (tmpR_c ht) hX.1 hl (fun i hi => by
    rw [hX.2.1] at hi
    obtain ⟨L, d, w, a, -, -, -, h4, -, -, -, e4⟩ := hr.1 i hi
    exact ⟨a, h4, by rw [ag_s h hi 4 (by decide)]; exact e4⟩)
  refine ⟨fun x hx => ?_, ?_⟩
  · have h5 : x ≠ 5 := by
      rcases hx with h | ⟨i, k, _, _, rfl⟩ | ⟨i, k, _, _, rfl⟩ | ⟨k, _, rfl⟩
      · exact h.2
      all_goals omega
    rw [hc x h5]
    exact ag_hour h hI x hx
  · obtain ⟨z, -, -, -, h6, -⟩ := hour_5 (tmp := tmp) (sn := sn) hX.1
    rw [hc 6 (by decide), h6, ag_Rhour h hI]
/-- hours: agreement, what an hour wants, ranges, credits, complaints, the clock -/
theorem ch_hours {n m sz : Nat} {c : Nat → Nat} {tmp : Int32} {many many' : Nat} (hs : sz ≤ 100) (ht : tmpR tmp) : ∀ (k B : Nat) (acc bf : Int32) (j jj : Nat) (X P : Nat → Int32), Ag n m c X P → hrI n m c P → rng n m B P → B + 100 * k ≤ 300000 →
    Ag n m c (fP_X0_passHours_L9 tmp (nI sz) many k bf j X) (fP_X7_hours_L6 tmp (nI sz) many' k acc jj P) ∧ hrI n m c (fP_X7_hours_L6 tmp (nI sz) many' k acc jj P) ∧ rng n m (B + 100 * k) (fP_X7_hours_L6 tmp (nI sz) many' k acc jj P)
    ∧ (∃ sm : Int32, fR_X7_hours_L6 tmp (nI sz) many' k acc jj P = acc + sm ∧ fR_X0_passHours_L9 tmp (nI sz) many k bf j X = X 6 + sm - bf)
    ∧ (∃ z, z ≤ 20 * k ∧ fP_X7_hours_L6 tmp (nI sz) many' k acc jj P 5 = P 5 + nI z ∧ cs (fP_X7_hours_L6 tmp (nI sz) many' k acc jj P) = cs P + nI z) ∧ fP_X7_hours_L6 tmp (nI sz) many' k acc jj P 0 = P 0 + nI k
  | 0, B, acc, bf, j, jj, X, P, h, hI, hr, hB => by
    rw [fP_X0_passHours_L9, fP_X7_hours_L6, fR_X7_hours_L6, fR_X0_passHours_L9, show nI 0 = 0 from rfl, Int32.add_zero]
    exact ⟨h, hI, hr, ⟨0, (Int32.add_zero _).symm, by rw [Int32.add_zero]⟩, ⟨0, by omega, by rw [show nI 0 = 0 from rfl, Int32.add_zero], by rw [show nI 0 = 0 from rfl, Int32.add_zero]⟩, rfl⟩
  | k + 1, B, acc, bf, j, jj, X, P, h, hI, hr, hB => by
    rw [fP_X0_passHours_L9, fP_X7_hours_L6, fR_X7_hours_L6, fR_X0_passHours_L9]
    (try dsimp only)
    obtain ⟨a1, a2⟩ := ch_hour (sn := nI sz) h hI hr ht
    obtain ⟨z1, q1, q2, q3, -, q5⟩ := hour_5 (tmp := tmp) (sn := nI sz) hI.1
    obtain ⟨b1, b2, b3, ⟨sm, b4, b5⟩, ⟨z2, b6, b7, b8⟩, b9⟩ := ch_hours (many := many) (many' := many') hs ht k (B + 100) (acc + fR_X7_hour P tmp (nI sz)) bf (j + 1) (jj + 1) _ _ a1 (hrI_hour hI) (rng_hour (by omega) hs ht hr hI) (by omega)
    refine ⟨b1, b2, by rw [show B + 100 * (k + 1) = B + 100 + 100 * k by omega]; exact b3, ⟨fR_X7_hour P tmp (nI sz) + sm, by rw [b4, Int32.add_assoc], by rw [b5, a2, Int32.add_assoc]⟩, ⟨z1 + z2, by omega, by rw [b7, q2, Int32.add_assoc, nI_add], by rw [b8, q3, Int32.add_assoc, nI_add]⟩, ?_⟩
    rw [b9, q5, Int32.add_assoc, Int32.add_comm 1, ← nI_succ]
