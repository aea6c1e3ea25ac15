/-! The items: the class reads them once into its arrays, the reference reads them twice. -/
def hsum (Z : Nat → Int32) : Nat → Nat → Nat
  | 0, _ => 0
  | m + 1, j => (Z j).toNatClampNeg + hsum Z m (j + 1)
def itm (X U Z : Nat → Int32) (i : Nat) : Prop := tmpR (X i) ∧ (∃ s, s ≤ 100 ∧ U i = nI s) ∧ ∃ z, z ≤ 99 ∧ Z i = nI z
theorem bad5 {Y : Nat → Int32} (k : Nat) (X U Z F : Nat → Int32) (h : ¬ F 7 = -1) : fX_X5_readItems_L15 Y k X U Z F = X ∧ fU_X5_readItems_L15 Y k X U Z F = U ∧ fZ_X5_readItems_L15 Y k X U Z F = Z ∧ fF_X5_readItems_L15 Y k X U Z F = F := by
  cases k with
  | zero => rw [fX_X5_readItems_L15, fU_X5_readItems_L15, fZ_X5_readItems_L15, fF_X5_readItems_L15]; exact ⟨rfl, rfl, rfl, rfl⟩
  | succ k =>
    rw [fX_X5_readItems_L15, fU_X5_readItems_L15, fZ_X5_readItems_L15, fF_X5_readItems_L15]
    simp only [if_neg h, ite_self]
    exact ⟨trivial, trivial, trivial, trivial⟩
theorem end5 {Y : Nat → Int32} (k : Nat) (X U Z F : Nat → Int32) (h : tl5 F ≤ ta5 F) : fX_X5_readItems_L15 Y k X U Z F = X ∧ fU_X5_readItems_L15 Y k X U Z F = U ∧ fZ_X5_readItems_L15 Y k X U Z F = Z ∧ fF_X5_readItems_L15 Y k X U Z F = F := by
  cases k with
  | zero => rw [fX_X5_readItems_L15, fU_X5_readItems_L15, fZ_X5_readItems_L15, fF_X5_readItems_L15]; exact ⟨rfl, rfl, rfl, rfl⟩
  | succ k =>
    rw [fX_X5_readItems_L15, fU_X5_readItems_L15, fZ_X5_readItems_L15, fF_X5_readItems_L15]
    simp only [if_pos h]
    exact ⟨trivial, trivial, trivial, trivial⟩
theorem R_is7 {Y : Nat → Int32} : ∀ (k : Nat) (X U Z F : Nat → Int32), fR_X5_readItems_L15 Y k X U Z F = fF_X5_readItems_L15 Y k X U Z F 7
  | 0, X, U, Z, F => by rw [fR_X5_readItems_L15, fF_X5_readItems_L15]
  | k + 1, X, U, Z, F => by
    rw [fR_X5_readItems_L15, fF_X5_readItems_L15]
    (try dsimp only)
    by_cases a : tl5 F ≤ ta5 F
    · rw [if_pos a, if_pos a]
    rw [if_neg a, if_neg a]
    by_cases b : F 7 = -1
    · rw [if_pos b, if_pos b]
      exact R_is7 k _ _ _ _
    · rw [if_neg b, if_neg b]
theorem hoursL {Z F : Nat → Int32} : ∀ (k : Nat) (acc : Int32) (j : Nat), (∀ i, j ≤ i → i < j + k → ∃ z, z ≤ 99 ∧ Z i = nI z) → fR_X5_hoursOfItems_L4 Z F k acc j = acc + nI (hsum Z k j)
  | 0, acc, j, _ => by
    rw [fR_X5_hoursOfItems_L4, hsum]
    exact (Int32.add_zero _).symm
  | k + 1, acc, j, h => by
    rw [fR_X5_hoursOfItems_L4, hsum]
    (try dsimp only)
    rw [hoursL k _ _ (fun i h1 h2 => h i (by omega) (by omega)), ← nI_add, ← (z_n (h j (by omega) (by omega))).1, Int32.add_assoc]
theorem hsum_b {Z : Nat → Int32} : ∀ (k j : Nat), (∀ i, j ≤ i → i < j + k → ∃ z, z ≤ 99 ∧ Z i = nI z) → hsum Z k j ≤ 99 * k
  | 0, j, _ => by
    rw [hsum]
    omega
  | k + 1, j, h => by
    rw [hsum]
    have h1 := (z_n (h j (by omega) (by omega))).2
    have h2 := hsum_b k (j + 1) (fun i h1 h2 => h i (by omega) (by omega))
    omega
theorem itm_of {T M : Nat → Int32} (hX : okX M) (h : ¬ fR_X7_readItem T M = 0) : tmpR (fF_X7_readItem T M 9) ∧ (∃ s, s ≤ 100 ∧ fF_X7_readItem T M 10 = nI s) ∧ ∃ z, z ≤ 99 ∧ fF_X7_readItem T M 11 = nI z := by
  obtain ⟨-, ⟨x, x1, x2⟩, b, c⟩ := (item_K hX).2 (item_1 hX h)
  obtain ⟨b1, b2⟩ := in_nat (n := 100) (by decide) rfl (by decide) b
  obtain ⟨c1, c2⟩ := in_nat (n := 99) (by decide) rfl (by decide) c
  obtain ⟨d1, d2⟩ := in_nat (n := 300) (by decide) rfl (by decide) x1
  refine ⟨?_, ⟨_, b2, b1⟩, _, c2, c1⟩
  rcases x2 with e | e
  · by_cases z : x.toNatClampNeg = 0
    · rw [z] at d1
      exact Or.inr ⟨0, by omega, by rw [e, d1]; decide⟩
    · exact Or.inl ⟨_, by omega, d2, by rw [e]; exact d1⟩
  · exact Or.inr ⟨_, d2, by rw [e, ← d1]⟩
/-- what a reading of the items comes to, for the reference that stands at M -/
def bothE (Y T X U Z F : Nat → Int32) (k : Nat) (M : Nat → Int32) : Prop := ∃ e, e ≤ 150 ∧ fF_X5_readItems_L15 Y k X U Z F 7 = nI e ∧ ∀ k2 acc, 150 ≤ k2 + ta M → fR_X7_allHours_L7 T k2 acc M = -1 ∧ fF_X7_allHours_L7 T k2 acc M 7 = nI e
def bothO (Y T X U Z F : Nat → Int32) (k : Nat) (M : Nat → Int32) : Prop := fF_X5_readItems_L15 Y k X U Z F 7 = -1 ∧ ∃ m, fF_X5_readItems_L15 Y k X U Z F 5 = nI (ti5 F + m) ∧ ti5 F + m ≤ 38 ∧ (∀ i, ti5 F ≤ i → i < ti5 F + m → itm (fX_X5_readItems_L15 Y k X U Z F) (fU_X5_readItems_L15 Y k X U Z F) (fZ_X5_readItems_L15 Y k X U Z F) i)
  ∧ (∀ k2 acc, 150 ≤ k2 + ta M → fR_X7_allHours_L7 T k2 acc M = acc + nI (hsum (fZ_X5_readItems_L15 Y k X U Z F) m (ti5 F)))
  ∧ ∀ (k2 : Nat) (acc : Int32) (C P V : Nat → Int32) (h : Nat) (G : Nat → Nat → Int32) (nl : Nat) (Fl : Nat → Int32), 150 ≤ k2 + ta M → Cg C P → P 0 = nI h → h + hsum (fZ_X5_readItems_L15 Y k X U Z F) m (ti5 F) ≤ 2000 → Cg (fC_X6_runText_L44 Y m acc (ti5 F) C G nl (fX_X5_readItems_L15 Y k X U Z F) (fU_X5_readItems_L15 Y k X U Z F) (fZ_X5_readItems_L15 Y k X U Z F) Fl) (fP_X7_runText_L75 T k2 acc P V M) ∧ fR_X6_runText_L44 Y m acc (ti5 F) C G nl (fX_X5_readItems_L15 Y k X U Z F) (fU_X5_readItems_L15 Y k X U Z F) (fZ_X5_readItems_L15 Y k X U Z F) Fl = fR_X7_runText_L75 T k2 acc P V M
theorem both {Y T : Nat → Int32} : ∀ (k : Nat) (X U Z F M : Nat → Int32), Sy Y T F M → F 5 = nI (ti5 F) → ti5 F + k = 38 → 4 * ti5 F ≤ ta M → (∀ i, i < ti5 F → fX_X5_readItems_L15 Y k X U Z F i = X i ∧ fU_X5_readItems_L15 Y k X U Z F i = U i ∧ fZ_X5_readItems_L15 Y k X U Z F i = Z i) ∧ (bothE Y T X U Z F k M ∨ bothO Y T X U Z F k M) := by
  intro k
  induction k with
  | zero =>
    intro X U Z F M hS h5 hk h4
    have := hS.e150.2
    omega
  | succ k ih =>
    intro X U Z F M hS h5 hk h4
    have eta := hS.taq
    have etl := hS.tlq
    have h150 := hS.e150.2
    by_cases a : tl5 F ≤ ta5 F
    · obtain ⟨q1, q2, q3, q4⟩ := end5 (Y := Y) (k + 1) X U Z F a
      have a' : tl M ≤ ta M := by omega
      refine ⟨fun i hi => by rw [q1, q2, q3]; exact ⟨rfl, rfl, rfl⟩, Or.inr ?_⟩
      unfold bothO
      rw [q4]
      refine ⟨hS.2.2.2.2.1, 0, h5, by omega, fun i h1 h2 => absurd h2 (by omega), fun k2 acc hk2 => ?_, fun k2 acc C P V h G nl Fl hk2 hC h0 hh => ?_⟩
      · rw [hsum, show nI 0 = 0 from rfl, Int32.add_zero]
        cases k2 with
        | zero => rw [fR_X7_allHours_L7]
        | succ k2 => rw [fR_X7_allHours_L7, if_pos a']
      · rw [fC_X6_runText_L44, fR_X6_runText_L44]
        cases k2 with
        | zero =>
          rw [fP_X7_runText_L75, fR_X7_runText_L75]
          exact ⟨hC, rfl⟩
        | succ k2 =>
          rw [fP_X7_runText_L75, fR_X7_runText_L75, if_pos a', if_pos a']
          exact ⟨hC, rfl⟩
    have a' : ¬ tl M ≤ ta M := by omega
    have htl := hS.2.1.1.2
    obtain ⟨i1, i2⟩ := hS.item (X := X) (U := U) (Z := Z)
    have st : fX_X5_readItems_L15 Y (k + 1) X U Z F = fX_X5_readItems_L15 Y k (fX_X5_readItem Y X U Z F) (fU_X5_readItem Y X U Z F) (fZ_X5_readItem Y X U Z F) (upd (fF_X5_readItem Y X U Z F) 5 (nI (ti5 F + 1))) ∧ fU_X5_readItems_L15 Y (k + 1) X U Z F = fU_X5_readItems_L15 Y k (fX_X5_readItem Y X U Z F) (fU_X5_readItem Y X U Z F) (fZ_X5_readItem Y X U Z F) (upd (fF_X5_readItem Y X U Z F) 5 (nI (ti5 F + 1))) ∧ fZ_X5_readItems_L15 Y (k + 1) X U Z F = fZ_X5_readItems_L15 Y k (fX_X5_readItem Y X U Z F) (fU_X5_readItem Y X U Z F) (fZ_X5_readItem Y X U Z F) (upd (fF_X5_readItem Y X U Z F) 5 (nI (ti5 F + 1))) ∧ fF_X5_readItems_L15 Y (k + 1) X U Z F = fF_X5_readItems_L15 Y k (fX_X5_readItem Y X U Z F) (fU_X5_readItem Y X U Z F) (fZ_X5_readItem Y X U Z F) (upd (fF_X5_readItem Y X U Z F) 5 (nI (ti5 F + 1))) := by
      rw [fX_X5_readItems_L15, fU_X5_readItems_L15, fZ_X5_readItems_L15, fF_X5_readItems_L15]
      simp only [if_neg a, if_pos hS.2.2.2.2.1]
      exact ⟨trivial, trivial, trivial, trivial⟩
    obtain ⟨t1, t2, t3, t4⟩ := st
    unfold bothE bothO
    rw [t1, t2, t3, t4]
    have oX : ∀ i, i ≠ ti5 F → fX_X5_readItem Y X U Z F i = X i := fun i hi => by rw [item5_X, upd_n hi]
    have oU : ∀ i, i ≠ ti5 F → fU_X5_readItem Y X U Z F i = U i := fun i hi => by rw [item5_U, upd_n hi]
    have oZ : ∀ i, i ≠ ti5 F → fZ_X5_readItem Y X U Z F i = Z i := fun i hi => item5z.2 i hi
    have e5 : ti5 (upd (fF_X5_readItem Y X U Z F) 5 (nI (ti5 F + 1))) = ti5 F + 1 := ti5_u (by omega)
    by_cases b : fR_X7_readItem T M = 0
    · have hE := i1 b
      have n7 : ¬ upd (fF_X5_readItem Y X U Z F) 5 (nI (ti5 F + 1)) 7 = -1 := by rw [upd_n (by decide)]; exact hE.n
      obtain ⟨q1, q2, q3, q4⟩ := bad5 (Y := Y) k (fX_X5_readItem Y X U Z F) (fU_X5_readItem Y X U Z F) (fZ_X5_readItem Y X U Z F) _ n7
      rw [q1, q2, q3, q4]
      refine ⟨fun i hi => ⟨oX i (by omega), oU i (by omega), oZ i (by omega)⟩, Or.inl ?_⟩
      obtain ⟨e1, e, e2, e3⟩ := hE
      refine ⟨e, e2, by rw [upd_n (by decide), e1, e3], fun k2 acc hk2 => ?_⟩
      cases k2 with
      | zero => omega
      | succ k2 =>
        rw [fR_X7_allHours_L7, fF_X7_allHours_L7, if_neg a', if_neg a']
        (try dsimp only)
        rw [if_pos b, if_pos b]
        exact ⟨rfl, e3⟩
    obtain ⟨p1, p2, p3, p4, p5⟩ := i2 b
    have hS2 : Sy Y T (upd (fF_X5_readItem Y X U Z F) 5 (nI (ti5 F + 1))) (fF_X7_readItem T M) := by
      obtain ⟨a1, a2, a3, a4, a5, a6⟩ := p1
      exact ⟨okX5_c (upd_n (by decide)) (upd_n (by decide)) a1, a2, by rw [upd_n (by decide)]; exact a3, by rw [upd_n (by decide)]; exact a4, by rw [upd_n (by decide)]; exact a5, a6⟩
    obtain ⟨g1, g2⟩ := ih (fX_X5_readItem Y X U Z F) (fU_X5_readItem Y X U Z F) (fZ_X5_readItem Y X U Z F) _ _ hS2 (by rw [e5, upd_s]) (by omega) (by omega)
    rw [e5] at g1
    have gt := g1 (ti5 F) (by omega)
    refine ⟨fun i hi => ?_, ?_⟩
    · have g := g1 i (by omega)
      exact ⟨g.1.trans (oX i (by omega)), g.2.1.trans (oU i (by omega)), g.2.2.trans (oZ i (by omega))⟩
    obtain ⟨w1, w2, w3⟩ := itm_of (T := T) hS.2.1 b
    rcases g2 with g2 | g2
    · unfold bothE at g2
      obtain ⟨e, e2, e3, e4⟩ := g2
      refine Or.inl ⟨e, e2, e3, fun k2 acc hk2 => ?_⟩
      cases k2 with
      | zero => omega
      | succ k2 =>
        rw [fR_X7_allHours_L7, fF_X7_allHours_L7, if_neg a', if_neg a']
        (try dsimp only)
        rw [if_neg b, if_neg b]
        exact e4 k2 _ (by omega)
    · unfold bothO at g2
      rw [e5] at g2
      obtain ⟨o7, m, m1, m2, m3, m4, m5⟩ := g2
      have gX := gt.1.trans p2
      have gU := gt.2.1.trans p3
      have gZ := gt.2.2.trans p4
      refine Or.inr ⟨o7, m + 1, by rw [m1, show ti5 F + 1 + m = ti5 F + (m + 1) by omega], by omega, fun i h1 h2 => ?_, fun k2 acc hk2 => ?_, fun k2 acc C P V h G nl Fl hk2 hC h0 hh => ?_⟩
      · by_cases ei : i = ti5 F
        · subst ei
          unfold itm
          rw [gX, gU, gZ]
          exact ⟨w1, w2, w3⟩
        · exact m3 i (by omega) (by omega)
      · cases k2 with
        | zero => omega
        | succ k2 =>
          rw [fR_X7_allHours_L7, if_neg a']
          (try dsimp only)
          rw [if_neg b, m4 k2 _ (by omega), hsum, gZ, ← nI_add (fF_X7_readItem T M 11).toNatClampNeg, ← (z_n w3).1, Int32.add_assoc]
      · rw [hsum, gZ] at hh
        rw [fC_X6_runText_L44, fR_X6_runText_L44, gX, gU, gZ]
        (try dsimp only)
        cases k2 with
        | zero => omega
        | succ k2 =>
          rw [fP_X7_runText_L75, fR_X7_runText_L75, if_neg a', if_neg a']
          (try dsimp only)
          rw [if_neg b, if_neg b]
          obtain ⟨s, s1, s2⟩ := w2
          obtain ⟨z1, z2, -, z4⟩ := Cg_hours (k := (fF_X7_readItem T M 11).toNatClampNeg) hC w1 s1 h0 (by omega)
          rw [s2, z2]
          exact m5 k2 _ _ _ V _ G nl Fl (by omega) z1 z4 (by omega)
