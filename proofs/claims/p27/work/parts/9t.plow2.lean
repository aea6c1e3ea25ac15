/-! All plows' turns. -/
theorem Pg_f {X Y : Nat → Int32} {q : Nat} (hk : ∀ k, k < 20 → Y (169 + 20 * q + k) = X (169 + 20 * q + k)) (hL : ∀ i, i < 20 → Y (9 + 8 * i + 0) = X (9 + 8 * i + 0)) (hb : 0 < nc X q → rt X q (pa X q) < 20 ∧ pa X q < 12) (h : Pg X q) : Pg Y q := by
  obtain ⟨g, g1, g2, g3⟩ := h
  have e3 : nc Y q = nc X q := nc_c (hk 3 (by omega))
  have e4 : pa Y q = pa X q := pa_c (hk 4 (by omega))
  refine ⟨g, g1, by rw [hk 5 (by omega)]; exact g2, fun h0 => ?_⟩
  obtain ⟨h1, L, l1, l2, l3⟩ := g3 h0
  obtain ⟨b1, b2⟩ := hb h1
  have e5 : rt Y q (pa X q) = rt X q (pa X q) := rt_c (by
    have := hk (8 + pa X q) (by omega)
    rw [← Nat.add_assoc] at this
    exact this)
  exact ⟨by rw [e3]; exact h1, L, l1, by rw [e4, e5, hL _ b1]; exact l2, l3⟩
theorem pl_PT {n q s : Nat} {c : Nat → Nat} {X : Nat → Int32} (hn : n ≤ 20) (hq : q < 3) (hR : ¬ X (169 + 20 * q + 3) ≤ 0 → rtL n c q X) (hs : X (169 + 20 * q + 0) = nI s) (hs5 : s ≤ 5000) (hL : ∀ i, i < n → ∃ L, L ≤ 2000 ∧ X (9 + 8 * i + 0) = nI L) (hg : Pg X q) : PT q s 12 1 X (fP_X7_plows X q) := by
  by_cases h3 : X (169 + 20 * q + 3) ≤ 0
  · rw [plows_0 h3]
    obtain ⟨a1, ⟨b, b1, -, b2⟩, a3, a4, a5⟩ := PT_r (q := q) (t := s) (k := 12) (mo := 1) hg
    exact ⟨a1, ⟨b, b1, fun h => absurd h (by decide), b2⟩, a3, a4, a5⟩
  have hr := hR h3
  unfold fP_X7_plows
  rw [if_neg h3]
  (try dsimp only)
  have hplain := plI (c := c) hn 12 1 (X (169 + 20 * q + 0)) X s hr hs hs5 hL hg
  by_cases h4 : X (169 + 20 * q + 4) = 0
  · rw [if_pos h4]
    by_cases h5 : X (169 + 20 * q + 5) = 0
    · rw [if_pos h5]
      generalize fR_X7_lesser (X (169 + 20 * q + 1) - X (169 + 20 * q + 2)) (X 3) = f
      rw [upd_n (show 3 ≠ 169 + 20 * q + 2 by omega)]
      have wf : ∀ x, x ≠ 169 + 20 * q + 2 → x ≠ 3 → upd (upd X (169 + 20 * q + 2) (X (169 + 20 * q + 2) + f)) 3 (X 3 - f) x = X x := fun x a b => by rw [upd_n b, upd_n a]
      have w2 : upd (upd X (169 + 20 * q + 2) (X (169 + 20 * q + 2) + f)) 3 (X 3 - f) (169 + 20 * q + 2) = X (169 + 20 * q + 2) + f := by rw [upd_n (by omega), upd_s]
      have w3 : upd (upd X (169 + 20 * q + 2) (X (169 + 20 * q + 2) + f)) 3 (X 3 - f) 3 = X 3 - f := upd_s
      have hRW : rtL n c q (upd (upd X (169 + 20 * q + 2) (X (169 + 20 * q + 2) + f)) 3 (X 3 - f)) := rtL_k hr (plows_j hr.1).1 (wf _ (by omega) (by omega)) (fun j hj => wf _ (by omega) (by omega))
      generalize upd (upd X (169 + 20 * q + 2) (X (169 + 20 * q + 2) + f)) 3 (X 3 - f) = W at wf w2 w3 hRW ⊢
      obtain ⟨⟨a, a1, a2⟩, ⟨b, b1, b2, b3⟩, p1, s1, st⟩ := plI (c := c) hn 12 1 (W (169 + 20 * q + 0)) W s hRW (by rw [wf _ (by omega) (by omega)]; exact hs) hs5 (fun i hi => by
        obtain ⟨L, l1, l2⟩ := hL i hi
        exact ⟨L, l1, by rw [wf _ (by omega) (by omega)]; exact l2⟩) (Pg_0 (by rw [wf _ (by omega) (by omega)]; exact h5))
      refine ⟨⟨a, a1, by rw [a2, wf _ (by omega) (by omega)]⟩, ⟨b, b1, b2, by rw [b3, wf _ (by omega) (by omega)]⟩, p1, ?_, fun i hi => ?_⟩
      · rw [s1, w2, w3, wf 8 (by omega) (by omega), Int32.add_assoc, Int32.add_comm (X (169 + 20 * q + 2)) f, ← Int32.add_assoc (X 3 - f), Int32.sub_add_cancel, ← Int32.add_assoc]
      · obtain ⟨z, z1, z2, z3, z4⟩ := st i hi
        exact ⟨z, z1, by rw [z2, wf _ (by omega) (by omega)], fun h => by rw [z3 h, wf _ (by omega) (by omega)], fun h => by rw [z4 h, wf 0 (by omega) (by omega)]⟩
    · rw [if_neg h5]
      exact hplain
  · rw [if_neg h4]
    exact hplain
/-- the loads of the first plows -/
def ldS (X : Nat → Int32) : Nat → Int32
  | 0 => 0
  | k + 1 => ldS X k + X (169 + 20 * k + 2)
theorem ldS_f {X Y : Nat → Int32} : ∀ m, (∀ p, p < m → Y (169 + 20 * p + 2) = X (169 + 20 * p + 2)) → ldS Y m = ldS X m
  | 0, _ => rfl
  | m + 1, h => by
    unfold ldS
    rw [ldS_f m (fun p hp => h p (by omega)), h m (by omega)]
theorem ldS_u {X Y : Nat → Int32} {q : Nat} : ∀ m, q < m → (∀ p, p < m → p ≠ q → Y (169 + 20 * p + 2) = X (169 + 20 * p + 2)) → ldS Y m + X (169 + 20 * q + 2) = ldS X m + Y (169 + 20 * q + 2)
  | 0, h, _ => absurd h (by omega)
  | m + 1, h, hf => by
    unfold ldS
    by_cases e : q = m
    · subst e
      rw [ldS_f q (fun p hp => hf p (by omega) (by omega)), Int32.add_assoc, Int32.add_assoc, Int32.add_comm (Y _)]
    · have := ldS_u m (by omega) (fun p hp hpq => hf p (by omega) hpq)
      rw [hf m (by omega) (fun h => e h.symm), Int32.add_assoc, Int32.add_comm (X (169 + 20 * m + 2)), ← Int32.add_assoc, this, Int32.add_assoc, Int32.add_comm (Y _), ← Int32.add_assoc]
def frm (x : Nat) : Prop := x = 0 ∨ x = 1 ∨ x = 2 ∨ x = 4 ∨ x = 5 ∨ x = 6 ∨ x = 7 ∨ (∃ i k, i < 20 ∧ (k = 0 ∨ k = 1 ∨ k = 3 ∨ k = 5) ∧ x = 9 + 8 * i + k) ∨ (∃ p k, p < 3 ∧ (k = 0 ∨ k = 1 ∨ k = 3 ∨ (8 ≤ k ∧ k < 20)) ∧ x = 169 + 20 * p + k) ∨ 229 ≤ x
theorem frm_stat {x q : Nat} (hq : q < 3) (h : frm x) : stat q x := by
  refine ⟨fun i hi => ?_, ?_, ?_, ?_, ?_, ?_, ?_, ?_⟩
  · rcases h with rfl | rfl | rfl | rfl | rfl | rfl | rfl | ⟨i', k, a1, a2, rfl⟩ | ⟨p, k, a1, a2, rfl⟩ | h <;> refine ⟨?_, ?_, ?_, ?_⟩ <;> omega
  all_goals rcases h with rfl | rfl | rfl | rfl | rfl | rfl | rfl | ⟨i', k, a1, a2, rfl⟩ | ⟨p, k, a1, a2, rfl⟩ | h <;> omega
/-- a plow before and after its turn -/
def PQ (sp : Nat → Nat) (P X : Nat → Int32) (p : Nat) : Prop := (∃ a, a ≤ sp p ∧ X (169 + 20 * p + 7) = P (169 + 20 * p + 7) + nI a) ∧ (∃ b, b ≤ 1 ∧ X (169 + 20 * p + 6) = P (169 + 20 * p + 6) + nI b) ∧ Pg X p ∧ (nc P p = 0 → X (169 + 20 * p + 2) = P (169 + 20 * p + 2) ∧ X (169 + 20 * p + 7) = P (169 + 20 * p + 7))
def SQ (B : Nat) (P X : Nat → Int32) (i : Nat) : Prop := ∃ a, a ≤ B ∧ X (9 + 8 * i + 6) = P (9 + 8 * i + 6) + nI a ∧ (a = 0 → X (9 + 8 * i + 7) = P (9 + 8 * i + 7)) ∧ (0 < a → X (9 + 8 * i + 7) = P 0)
def PW (m : Nat) (sp : Nat → Nat) (j : Nat) (P X : Nat → Int32) : Prop := (∀ x, frm x → X x = P x) ∧ (∀ p, p < m → PQ sp P X p) ∧ (∀ p, j ≤ p → p < m → ∀ k, k < 20 → X (169 + 20 * p + k) = P (169 + 20 * p + k)) ∧ (∀ i, i < 20 → SQ (12 * j) P X i) ∧ X 8 + X 3 + ldS X m = P 8 + P 3 + ldS P m
theorem PW_0 {m : Nat} {sp : Nat → Nat} {P : Nat → Int32} (hg : ∀ p, p < m → Pg P p) : PW m sp 0 P P := ⟨fun _ _ => rfl, fun p hp => ⟨⟨0, by omega, (Int32.add_zero _).symm⟩, ⟨0, by omega, (Int32.add_zero _).symm⟩, hg p hp, fun _ => ⟨rfl, rfl⟩⟩, fun _ _ _ _ _ => rfl, fun i _ => ⟨0, by omega, (Int32.add_zero _).symm, fun _ => rfl, fun h => absurd h (by omega)⟩, rfl⟩
theorem hrI_rt {n m : Nat} {c : Nat → Nat} {X : Nat → Int32} (hI : hrI n m c X) {p : Nat} (hp : p < m) (hQ : okQ X p) (h0 : 0 < nc X p) : rt X p (pa X p) < 20 ∧ pa X p < 12 := by
  have hr := hI.2.2.2 p hp ((nc_pos hQ).mpr h0)
  have h1 := hr.1.2.1
  have h2 := hr.1.2.2.2.1
  exact ⟨(hr.1.2.2.2.2 _ h2).2.1, by omega⟩
theorem PW_step {n m j : Nat} {c sp : Nat → Nat} {P X : Nat → Int32} (hn : n ≤ 20) (hm : m ≤ 3) (hI : hrI n m c X) (hQ : ∀ p, p < m → okQ P p) (hsp : ∀ p, p < m → P (169 + 20 * p + 0) = nI (sp p) ∧ sp p ≤ 5000) (hL : ∀ i, i < n → ∃ L, L ≤ 2000 ∧ P (9 + 8 * i + 0) = nI L) (hj : j < m) (h : PW m sp j P X) : PW m sp (j + 1) P (fP_X7_plows X j) := by
  obtain ⟨h1, h2, h3, h4, h5⟩ := h
  have hj3 : j < 3 := by omega
  have hR := hI.2.2.2 j hj
  have hst := (plows_W (q := j) (P := X) (fun h0 => (hR h0).1)).2
  have hf : ∀ x, frm x → fP_X7_plows X j x = X x := fun x hx => hst x (frm_stat hj3 hx)
  have sX : X (169 + 20 * j + 0) = nI (sp j) := by rw [h3 j (by omega) hj 0 (by omega)]; exact (hsp j hj).1
  have LX : ∀ i, i < n → ∃ L, L ≤ 2000 ∧ X (9 + 8 * i + 0) = nI L := fun i hi => by
    obtain ⟨L, l1, l2⟩ := hL i hi
    exact ⟨L, l1, by rw [h1 _ (Or.inr (Or.inr (Or.inr (Or.inr (Or.inr (Or.inr (Or.inr (Or.inl ⟨i, 0, by omega, by omega, rfl⟩))))))))]; exact l2⟩
  obtain ⟨⟨a, a1, a2⟩, ⟨b, b1, -, b3⟩, p1, s1, st⟩ := pl_PT (c := c) hn hj3 hR sX (hsp j hj).2 LX (h2 j hj).2.2.1
  have hoth : ∀ p, p < 3 → p ≠ j → ∀ k, k < 20 → fP_X7_plows X j (169 + 20 * p + k) = X (169 + 20 * p + k) := fun p hp hpj k hk => hst _ ⟨fun i hi => ⟨by omega, by omega, by omega, by omega⟩, by omega, by omega, by omega, by omega, by omega, by omega, by omega⟩
  have QX : ∀ p, p < m → okQ X p ∧ nc X p = nc P p := fun p hp => by
    have e : X (169 + 20 * p + 3) = P (169 + 20 * p + 3) := h1 _ (Or.inr (Or.inr (Or.inr (Or.inr (Or.inr (Or.inr (Or.inr (Or.inr (Or.inl ⟨p, 3, by omega, by omega, rfl⟩)))))))))
    have e2 : nc X p = nc P p := nc_c e
    exact ⟨by unfold okQ; rw [e2, e]; exact hQ p hp, e2⟩
  have e0 : X 0 = P 0 := h1 0 (Or.inl rfl)
  refine ⟨fun x hx => (hf x hx).trans (h1 x hx), fun p hp => ?_, fun p hp1 hp2 k hk => ?_, fun i hi => ?_, ?_⟩
  · by_cases e : p = j
    · subst e
      have w : ∀ k, k < 20 → X (169 + 20 * p + k) = P (169 + 20 * p + k) := h3 p (by omega) hp
      refine ⟨⟨a, a1, by rw [a2, w 7 (by omega)]⟩, ⟨b, b1, by rw [b3, w 6 (by omega)]⟩, p1, fun h0 => ?_⟩
      have hz : X (169 + 20 * p + 3) ≤ 0 := by
        rw [(QX p hp).1.1, (QX p hp).2, h0]
        decide
      rw [plows_0 hz]
      exact ⟨w 2 (by omega), w 7 (by omega)⟩
    · obtain ⟨⟨a', c1, c2⟩, ⟨b', d1, d2⟩, g', f'⟩ := h2 p hp
      have w := hoth p (by omega) e
      exact ⟨⟨a', c1, by rw [w 7 (by omega)]; exact c2⟩, ⟨b', d1, by rw [w 6 (by omega)]; exact d2⟩, Pg_f w (fun i hi => hf _ (Or.inr (Or.inr (Or.inr (Or.inr (Or.inr (Or.inr (Or.inr (Or.inl ⟨i, 0, hi, by omega, rfl⟩))))))))) (hrI_rt hI hp (QX p hp).1) g', fun h0 => by rw [w 2 (by omega), w 7 (by omega)]; exact f' h0⟩
  · rw [hoth p (by omega) (by omega) k hk]
    exact h3 p (by omega) hp2 k hk
  · obtain ⟨y, y1, y2, y3, y4⟩ := h4 i hi
    obtain ⟨z, z1, z2, z3, z4⟩ := st i hi
    refine ⟨y + z, by omega, by rw [z2, y2, nI_add3], fun h => by rw [z3 (by omega), y3 (by omega)], fun h => ?_⟩
    by_cases hz : 0 < z
    · rw [z4 hz, e0]
    · rw [z3 (by omega), y4 (by omega)]
  · rw [← h5]
    have hu := ldS_u (X := X) (Y := fP_X7_plows X j) (q := j) m hj (fun p hp hpj => hoth p (by omega) hpj 2 (by omega))
    have key : ∀ A A' l l' x x' : Int32, A' + x' = A + x → l' + x = l + x' → A' + l' = A + l := fun A A' l l' x x' k1 k2 => by
      have k3 : A' + l' + (x + x') = A + l + (x + x') := by
        rw [show A' + l' + (x + x') = (A' + x') + (l' + x) by ac_rfl, k1, k2]
        ac_rfl
      have k4 : A' + l' + (x + x') - (x + x') = A + l + (x + x') - (x + x') := by rw [k3]
      rw [Int32.add_sub_cancel, Int32.add_sub_cancel] at k4
      exact k4
    exact key _ _ _ _ _ _ s1 hu
