/-! A whole plow's turn and an hour keep pages in agreement. -/
theorem ag_plows {n m : Nat} {c : Nat → Nat} {q : Nat} {P P' : Nat → Int32} (hq : q < m) (h : Ag n m c P P') (hR : ¬ P' (169 + 20 * q + 3) ≤ 0 → rtL n c q P') : Ag n m c (fP_X7_plows P q) (fP_X7_plows P' q) := by
  have p0 := ag_p h hq 0 (by omega)
  have p1 := ag_p h hq 1 (by omega)
  have p2 := ag_p h hq 2 (by omega)
  have p3 := ag_p h hq 3 (by omega)
  have p4 := ag_p h hq 4 (by omega)
  have p5 := ag_p h hq 5 (by omega)
  have c3 := ag_c h (k := 3) (by decide) (by decide)
  have u3 : ∀ (G : Nat → Int32) x, upd G (169 + 20 * q + 2) x 3 = G 3 := fun G x => upd_n (by omega)
  have u0 : ∀ (G : Nat → Int32) x y, upd (upd G (169 + 20 * q + 2) x) 3 y (169 + 20 * q + 0) = G (169 + 20 * q + 0) := fun G x y => by rw [upd_n (by omega), upd_n (by omega)]
  unfold fP_X7_plows
  (try dsimp only)
  simp only [u3, u0, p0, p1, p2, p3, p4, p5, c3]
  refine ag_if Iff.rfl (fun h3 => ?_) (fun h3 => ag_if Iff.rfl (fun h4 => ag_if Iff.rfl (fun h5 => ?_) (fun h5 => ag_plL hq _ _ _ _ _ h (hR h3))) (fun h4 => ag_plL hq _ _ _ _ _ h (hR h3)))
  · rw [plL0, plL0]; exact h
  · exact ag_plL hq _ _ _ _ _ (ag_u (ag_u h rfl) rfl) (rtL_k (hR h3) (plows_j (hR h3).1).1 (by rw [upd_n (by omega), upd_n (by omega)]) (fun j _ => by rw [upd_n (by omega), upd_n (by omega)]))
/-- the reference's page at an hour: one can walk on it, n streets, m plows, c q places, all of them streets that there are -/
def hrI (n m : Nat) (c : Nat → Nat) (P : Nat → Int32) : Prop := WF P ∧ ns P = n ∧ np P = m ∧ ∀ q, q < m → ¬ P (169 + 20 * q + 3) ≤ 0 → rtL n c q P
theorem hrI_f {n m : Nat} {c : Nat → Nat} {P P1 : Nat → Int32} (h : hrI n m c P) (hw : WF P1) (h1 : P1 1 = P 1) (h2 : P1 2 = P 2) (hf : ∀ q, q < m → P1 (169 + 20 * q + 3) = P (169 + 20 * q + 3) ∧ ∀ j, j < 12 → P1 (169 + 20 * q + 8 + j) = P (169 + 20 * q + 8 + j)) : hrI n m c P1 := by
  refine ⟨hw, (ns_c h1).trans h.2.1, (np_c h2).trans h.2.2.1, fun q hq h3 => ?_⟩
  have hm : np P1 = m := (np_c h2).trans h.2.2.1
  exact rtL_k (h.2.2.2 q hq (by rw [← (hf q hq).1]; exact h3)) (hw.2.2 q (by omega) h3) (hf q hq).1 (hf q hq).2
theorem hrI_weather {n m : Nat} {c : Nat → Nat} {P : Nat → Int32} {i : Nat} {tmp sn : Int32} (hi : i < 20) (h : hrI n m c P) : hrI n m c (fP_X7_weather P i tmp sn) := hrI_f h (WF_weather hi h.1) ns_weather.1 ns_weather.2 (fun q _ => ⟨fr_weather (by omega) (by omega) (by omega), fun j _ => fr_weather (by omega) (by omega) (by omega)⟩)
theorem hrI_waits {n m : Nat} {c : Nat → Nat} {P : Nat → Int32} {i : Nat} (hi : i < 20) (h : hrI n m c P) : hrI n m c (fP_X7_waits P i) := by
  have hm : m ≤ 3 := by have := h.1.1.2.2.2; have := h.2.2.1; omega
  exact hrI_f h (WF_waits hi h.1) ns_waits.1 ns_waits.2 (fun q hq => ⟨fr_waits (by omega) (by omega) (by omega), fun j _ => fr_waits (by omega) (by omega) (by omega)⟩)
theorem ag_L53 {n m : Nat} {c : Nat → Nat} {tmp sn : Int32} : ∀ (k : Nat) (acc : Int32) (j : Nat) (P P' : Nat → Int32), Ag n m c P P' → hrI n m c P' → j + k ≤ n → Ag n m c (fP_X7_hour_L53 tmp sn k acc j P) (fP_X7_hour_L53 tmp sn k acc j P')
  | 0, acc, j, P, P', h, _, _ => by
    have c0 := ag_c h (k := 0) (by decide) (by decide)
    have c6 := ag_c h (k := 6) (by decide) (by decide)
    rw [fP_X7_hour_L53, fP_X7_hour_L53]
    (try dsimp only)
    simp only [upd, c0, c6]
    repeat' (first | rfl | exact h | apply ag_u)
  | k + 1, acc, j, P, P', h, hI, hk => by
    have hn : n ≤ 20 := by have := hI.1.1.2.1; have := hI.2.1; omega
    have ha := ag_waits h (show j < n by omega) (by omega) (hI.1.2.1 j (by rw [hI.2.1]; omega))
    rw [fP_X7_hour_L53, fP_X7_hour_L53]
    (try dsimp only)
    rw [ha.1]
    exact ag_L53 k _ _ _ _ ha.2 (hrI_waits (by omega) hI) (by omega)
