/-! an item, in pieces -/
def it2F (T G : Nat → Int32) : Nat → Int32 :=
  if fR_X7_takes T G 120 = 0 then fF_X7_takes T (fF_X7_takes T G 120) 59
  else if fR_X7_readNumber T (fF_X7_takes T G 120) 2 1 99 = 0 then fF_X7_readNumber T (fF_X7_takes T G 120) 2 1 99
  else fF_X7_takes T (upd (fF_X7_readNumber T (fF_X7_takes T G 120) 2 1 99) 11 (fF_X7_readNumber T (fF_X7_takes T G 120) 2 1 99 8)) 59
def it2R (T G : Nat → Int32) : Int32 :=
  if fR_X7_takes T G 120 = 0 then fR_X7_takes T (fF_X7_takes T G 120) 59
  else if fR_X7_readNumber T (fF_X7_takes T G 120) 2 1 99 = 0 then 0
  else fR_X7_takes T (upd (fF_X7_readNumber T (fF_X7_takes T G 120) 2 1 99) 11 (fF_X7_readNumber T (fF_X7_takes T G 120) 2 1 99 8)) 59
def it1F (T G : Nat → Int32) : Nat → Int32 :=
  if fR_X7_takes T G 44 = 0 then fF_X7_takes T G 44
  else if fR_X7_readNumber T (fF_X7_takes T G 44) 3 0 100 = 0 then fF_X7_readNumber T (fF_X7_takes T G 44) 3 0 100
  else it2F T (upd (upd (fF_X7_readNumber T (fF_X7_takes T G 44) 3 0 100) 10 (fF_X7_readNumber T (fF_X7_takes T G 44) 3 0 100 8)) 11 1)
def it1R (T G : Nat → Int32) : Int32 :=
  if fR_X7_takes T G 44 = 0 then 0
  else if fR_X7_readNumber T (fF_X7_takes T G 44) 3 0 100 = 0 then 0
  else it2R T (upd (upd (fF_X7_readNumber T (fF_X7_takes T G 44) 3 0 100) 10 (fF_X7_readNumber T (fF_X7_takes T G 44) 3 0 100 8)) 11 1)
/-- the temperature that was read -/
def itT (T F : Nat → Int32) : Int32 := if fR_X7_takes T F 45 = 0 then fF_X7_readNumber T (fF_X7_takes T F 45) 3 0 300 8 else -(fF_X7_readNumber T (fF_X7_takes T F 45) 3 0 300 8)
theorem item_F (T F : Nat → Int32) : fF_X7_readItem T F = if fR_X7_readNumber T (fF_X7_takes T F 45) 3 0 300 = 0 then fF_X7_readNumber T (fF_X7_takes T F 45) 3 0 300 else it1F T (upd (fF_X7_readNumber T (fF_X7_takes T F 45) 3 0 300) 9 (itT T F)) := by
  unfold fF_X7_readItem itT
  dsimp only
  by_cases h1 : fR_X7_readNumber T (fF_X7_takes T F 45) 3 0 300 = 0
  · rw [if_pos h1, if_pos h1]
  · rw [if_neg h1, if_neg h1]
    by_cases h2 : fR_X7_takes T F 45 = 0
    · rw [if_pos h2, if_pos h2]; rfl
    · rw [if_neg h2, if_neg h2]; rfl
theorem item_R (T F : Nat → Int32) : fR_X7_readItem T F = if fR_X7_readNumber T (fF_X7_takes T F 45) 3 0 300 = 0 then 0 else it1R T (upd (fF_X7_readNumber T (fF_X7_takes T F 45) 3 0 300) 9 (itT T F)) := by
  unfold fR_X7_readItem itT
  dsimp only
  by_cases h1 : fR_X7_readNumber T (fF_X7_takes T F 45) 3 0 300 = 0
  · rw [if_pos h1, if_pos h1]
  · rw [if_neg h1, if_neg h1]
    by_cases h2 : fR_X7_takes T F 45 = 0
    · rw [if_pos h2, if_pos h2]; rfl
    · rw [if_neg h2, if_neg h2]; rfl
theorem takes_f {T F : Nat → Int32} {x : Int32} {j : Nat} (hj : j ≠ 7) : fF_X7_takes T F x j = F j := by
  unfold fF_X7_takes
  dsimp only
  split <;> exact upd_n hj
/-- what is known behind an item, or a piece of one -/
def itK (F G : Nat → Int32) (r : Int32) : Prop := okX G ∧ tl G = tl F ∧ ta F ≤ ta G ∧ (∀ j, j ≠ 7 → j ≠ 8 → j ≠ 9 → j ≠ 10 → j ≠ 11 → G j = F j) ∧ (r = 0 ∨ r = 1)
theorem it2_K {T G : Nat → Int32} (hX : okX G) (h11 : ¬ fR_X7_in (G 11) 1 99 = 0) : itK G (it2F T G) (it2R T G) ∧ (it2R T G = 1 → it2F T G 9 = G 9 ∧ it2F T G 10 = G 10 ∧ ¬ fR_X7_in (it2F T G 11) 1 99 = 0) := by
  obtain ⟨a1, a2, a3⟩ := takes_X (T := T) (x := 120) (by decide) hX
  unfold it2F it2R
  by_cases h1 : fR_X7_takes T G 120 = 0
  · rw [if_pos h1, if_pos h1]
    obtain ⟨b1, b2, b3⟩ := takes_X (T := T) (x := 59) (by decide) a1
    refine ⟨⟨b1, b2.trans a2, by omega, fun j h7 _ _ _ _ => by rw [takes_f h7, takes_f h7], takes_b⟩, fun _ => ⟨by rw [takes_f (by decide), takes_f (by decide)], by rw [takes_f (by decide), takes_f (by decide)], by rw [takes_f (by decide), takes_f (by decide)]; exact h11⟩⟩
  · rw [if_neg h1, if_neg h1]
    obtain ⟨c1, c2, c3, c4, c5⟩ := num_X (T := T) (d := 2) (lo := 1) (hi := 99) a1
    by_cases h2 : fR_X7_readNumber T (fF_X7_takes T G 120) 2 1 99 = 0
    · rw [if_pos h2, if_pos h2]
      exact ⟨⟨c1, c2.trans a2, by omega, fun j h7 h8 _ _ _ => by rw [c3 j h7 h8, takes_f h7], Or.inl rfl⟩, fun h => absurd h (by decide)⟩
    · rw [if_neg h2, if_neg h2]
      have hc : ¬ fR_X7_in (fF_X7_readNumber T (fF_X7_takes T G 120) 2 1 99 8) 1 99 = 0 := by
        rcases c4 with h | h
        · exact absurd h h2
        · exact h.2.2
      obtain ⟨d1, d2, d3⟩ := takes_X (T := T) (x := 59) (by decide) (okX_u (k := 11) (x := fF_X7_readNumber T (fF_X7_takes T G 120) 2 1 99 8) (by decide) c1)
      have e1 : ta (upd (fF_X7_readNumber T (fF_X7_takes T G 120) 2 1 99) 11 (fF_X7_readNumber T (fF_X7_takes T G 120) 2 1 99 8)) = ta (fF_X7_readNumber T (fF_X7_takes T G 120) 2 1 99) := ta_c (upd_n (by decide))
      have e2 : tl (upd (fF_X7_readNumber T (fF_X7_takes T G 120) 2 1 99) 11 (fF_X7_readNumber T (fF_X7_takes T G 120) 2 1 99 8)) = tl (fF_X7_readNumber T (fF_X7_takes T G 120) 2 1 99) := tl_c (upd_n (by decide))
      refine ⟨⟨d1, by rw [d2, e2, c2, a2], by omega, fun j h7 h8 _ _ h11 => by rw [takes_f h7, upd_n h11, c3 j h7 h8, takes_f h7], takes_b⟩, fun _ => ⟨?_, ?_, ?_⟩⟩
      · rw [takes_f (by decide), upd_n (by decide), c3 9 (by decide) (by decide), takes_f (by decide)]
      · rw [takes_f (by decide), upd_n (by decide), c3 10 (by decide) (by decide), takes_f (by decide)]
      · rw [takes_f (by decide), upd_s]; exact hc
theorem it1_K {T G : Nat → Int32} (hX : okX G) : itK G (it1F T G) (it1R T G) ∧ (it1R T G = 1 → it1F T G 9 = G 9 ∧ ¬ fR_X7_in (it1F T G 10) 0 100 = 0 ∧ ¬ fR_X7_in (it1F T G 11) 1 99 = 0) := by
  obtain ⟨a1, a2, a3⟩ := takes_X (T := T) (x := 44) (by decide) hX
  unfold it1F it1R
  by_cases h1 : fR_X7_takes T G 44 = 0
  · rw [if_pos h1, if_pos h1]
    exact ⟨⟨a1, a2, by omega, fun j h7 _ _ _ _ => takes_f h7, Or.inl rfl⟩, fun h => absurd h (by decide)⟩
  · rw [if_neg h1, if_neg h1]
    obtain ⟨c1, c2, c3, c4, c5⟩ := num_X (T := T) (d := 3) (lo := 0) (hi := 100) a1
    by_cases h2 : fR_X7_readNumber T (fF_X7_takes T G 44) 3 0 100 = 0
    · rw [if_pos h2, if_pos h2]
      exact ⟨⟨c1, c2.trans a2, by omega, fun j h7 h8 _ _ _ => by rw [c3 j h7 h8, takes_f h7], Or.inl rfl⟩, fun h => absurd h (by decide)⟩
    · rw [if_neg h2, if_neg h2]
      have hc : ¬ fR_X7_in (fF_X7_readNumber T (fF_X7_takes T G 44) 3 0 100 8) 0 100 = 0 := by
        rcases c4 with h | h
        · exact absurd h h2
        · exact h.2.2
      generalize hM : fF_X7_readNumber T (fF_X7_takes T G 44) 3 0 100 = M at c1 c2 c3 c5 hc ⊢
      have k1 : okX (upd (upd M 10 (M 8)) 11 1) := okX_u (by decide) (okX_u (by decide) c1)
      have e1 : ta (upd (upd M 10 (M 8)) 11 1) = ta M := ta_c (by rw [upd_n (by decide), upd_n (by decide)])
      have e2 : tl (upd (upd M 10 (M 8)) 11 1) = tl M := tl_c (by rw [upd_n (by decide), upd_n (by decide)])
      obtain ⟨⟨d1, d2, d3, d4, d5⟩, d6⟩ := it2_K (T := T) k1 (by rw [upd_s]; decide)
      refine ⟨⟨d1, by rw [d2, e2, c2, a2], by omega, fun j h7 h8 h9 h10 h11 => by rw [d4 j h7 h8 h9 h10 h11, upd_n h11, upd_n h10, c3 j h7 h8, takes_f h7], d5⟩, fun hr => ?_⟩
      obtain ⟨f1, f2, f3⟩ := d6 hr
      refine ⟨?_, ?_, f3⟩
      · rw [f1, upd_n (by decide), upd_n (by decide), c3 9 (by decide) (by decide), takes_f (by decide)]
      · rw [f2, upd_n (by decide), upd_s]; exact hc
theorem item_K {T F : Nat → Int32} (hX : okX F) : itK F (fF_X7_readItem T F) (fR_X7_readItem T F) ∧ (fR_X7_readItem T F = 1 → ta F < ta (fF_X7_readItem T F) ∧ (∃ x, ¬ fR_X7_in x 0 300 = 0 ∧ (fF_X7_readItem T F 9 = x ∨ fF_X7_readItem T F 9 = -x)) ∧ ¬ fR_X7_in (fF_X7_readItem T F 10) 0 100 = 0 ∧ ¬ fR_X7_in (fF_X7_readItem T F 11) 1 99 = 0) := by
  obtain ⟨a1, a2, a3⟩ := takes_X (T := T) (x := 45) (by decide) hX
  obtain ⟨c1, c2, c3, c4, c5⟩ := num_X (T := T) (d := 3) (lo := 0) (hi := 300) a1
  rw [item_F, item_R]
  by_cases h2 : fR_X7_readNumber T (fF_X7_takes T F 45) 3 0 300 = 0
  · rw [if_pos h2, if_pos h2]
    exact ⟨⟨c1, c2.trans a2, by omega, fun j h7 h8 _ _ _ => by rw [c3 j h7 h8, takes_f h7], Or.inl rfl⟩, fun h => absurd h (by decide)⟩
  · rw [if_neg h2, if_neg h2]
    have hc : ta (fF_X7_takes T F 45) < ta (fF_X7_readNumber T (fF_X7_takes T F 45) 3 0 300) ∧ ¬ fR_X7_in (fF_X7_readNumber T (fF_X7_takes T F 45) 3 0 300 8) 0 300 = 0 := by
      rcases c4 with h | h
      · exact absurd h h2
      · exact h.2
    have ht : itT T F = fF_X7_readNumber T (fF_X7_takes T F 45) 3 0 300 8 ∨ itT T F = -(fF_X7_readNumber T (fF_X7_takes T F 45) 3 0 300 8) := by
      unfold itT
      split
      · exact Or.inl rfl
      · exact Or.inr rfl
    generalize itT T F = w at ht ⊢
    generalize hM : fF_X7_readNumber T (fF_X7_takes T F 45) 3 0 300 = M at c1 c2 c3 c5 hc ht ⊢
    have k1 : okX (upd M 9 w) := okX_u (by decide) c1
    have e1 : ta (upd M 9 w) = ta M := ta_c (upd_n (by decide))
    have e2 : tl (upd M 9 w) = tl M := tl_c (upd_n (by decide))
    obtain ⟨⟨d1, d2, d3, d4, d5⟩, d6⟩ := it1_K (T := T) k1
    refine ⟨⟨d1, by rw [d2, e2, c2, a2], by omega, fun j h7 h8 h9 h10 h11 => by rw [d4 j h7 h8 h9 h10 h11, upd_n h9, c3 j h7 h8, takes_f h7], d5⟩, fun hr => ?_⟩
    obtain ⟨f1, f2, f3⟩ := d6 hr
    exact ⟨by omega, ⟨M 8, hc.2, by rw [f1, upd_s]; exact ht⟩, f2, f3⟩
theorem in_nat {x : Int32} {a b : Int32} {n : Nat} (ha : 0 ≤ a) (hb : b = nI n) (hn : n < 2 ^ 31) (h : ¬ fR_X7_in x a b = 0) : x = nI x.toNatClampNeg ∧ x.toNatClampNeg ≤ n := by
  obtain ⟨h1, h2⟩ := in_v h
  subst hb
  exact clamp_le (fun h3 => h1 (Int32.lt_of_lt_of_le h3 ha)) h2 hn
