/-! A plow's hour keeps pages in agreement. -/
theorem ag_if {n m : Nat} {c : Nat → Nat} {a a' : Prop} [Decidable a] [Decidable a'] {A A' B B' : Nat → Int32} (e : a ↔ a') (h1 : a' → Ag n m c A A') (h2 : ¬ a' → Ag n m c B B') : Ag n m c (if a then A else B) (if a' then A' else B') := by
  by_cases h : a'
  · rw [if_pos h, if_pos (e.mpr h)]; exact h1 h
  · rw [if_neg h, if_neg (fun x => h (e.mp x))]; exact h2 h
/-- a plow one can walk whose places are streets that there are -/
def rtL (n : Nat) (c : Nat → Nat) (q : Nat) (P : Nat → Int32) : Prop := okW P q ∧ nc P q = c q ∧ ∀ j, j < c q → rt P q j < n
theorem rtL_k {n : Nat} {c : Nat → Nat} {q : Nat} {P P1 : Nat → Int32} (h : rtL n c q P) (hW : okW P1 q) (h3 : P1 (169 + 20 * q + 3) = P (169 + 20 * q + 3)) (hr : ∀ j, j < 12 → P1 (169 + 20 * q + 8 + j) = P (169 + 20 * q + 8 + j)) : rtL n c q P1 := by
  have e : nc P1 q = nc P q := by unfold nc; rw [h3]
  refine ⟨hW, e.trans h.2.1, fun j hj => ?_⟩
  have h12 : c q ≤ 12 := by rw [← h.2.1]; exact h.1.2.1
  have := h.2.2 j hj
  unfold rt at this ⊢
  rw [hr j (by omega)]
  exact this
theorem rtL_go {n : Nat} {c : Nat → Nat} {q : Nat} {P : Nat → Int32} (h : rtL n c q P) : rtL n c q (fP_X7_goesOn P q) := rtL_k h (go_W h.1) (fr_goesOn (by omega) (by omega) (by omega)) (fun j _ => fr_goesOn (by omega) (by omega) (by omega))
theorem rtL_cl {n : Nat} {c : Nat → Nat} {q i : Nat} {P : Nat → Int32} (hi : i < 20) (h : rtL n c q P) : rtL n c q (fP_X7_clears P q i) := rtL_k h (okW_clears hi h.1) (fr_clears (by omega) (by omega) (by omega) (by omega) (by omega) (by omega)) (fun j _ => fr_clears (by omega) (by omega) (by omega) (by omega) (by omega) (by omega))
theorem rtL_u2 {n : Nat} {c : Nat → Nat} {q : Nat} {P : Nat → Int32} {x y : Int32} (h : rtL n c q P) : rtL n c q (upd (upd P (169 + 20 * q + 5) x) (169 + 20 * q + 7) y) := rtL_k h (okW_u2 h.1) (by rw [upd_n (by omega), upd_n (by omega)]) (fun j _ => by rw [upd_n (by omega), upd_n (by omega)])
theorem ag_plL {n m : Nat} {c : Nat → Nat} {q : Nat} (hq : q < m) : ∀ (k : Nat) (mo mt : Int32) (P P' : Nat → Int32), Ag n m c P P' → rtL n c q P' → Ag n m c (fP_X7_plows_L114 q k mo mt P) (fP_X7_plows_L114 q k mo mt P')
  | 0, mo, mt, P, P', h, _ => by
    rw [fP_X7_plows_L114, fP_X7_plows_L114, ite_self, ite_self]; exact h
  | k + 1, mo, mt, P, P', h, hR => by
    have hpa : pa P' q < c q := by rw [← hR.2.1]; exact hR.1.2.2.2.1
    have hi := hR.2.2 _ hpa
    have hi20 := (hR.1.2.2.2.2 _ hR.1.2.2.2.1).2.1
    have hir := (hR.1.2.2.2.2 _ hR.1.2.2.2.1).2.2
    have p5 := ag_p h hq 5 (by omega)
    have p7 := ag_p h hq 7 (by omega)
    have epa : pa P q = pa P' q := by unfold pa; rw [ag_p h hq 4 (by omega)]
    have ert : rt P q (pa P' q) = rt P' q (pa P' q) := by unfold rt; rw [Nat.add_assoc (169 + 20 * q), ag_p h hq (8 + pa P' q) (by omega)]
    rw [fP_X7_plows_L114, fP_X7_plows_L114]
    (try dsimp only)
    rw [epa, ert]
    generalize rt P' q (pa P' q) = i at hi hi20 hir
    have u7 : ∀ (G : Nat → Int32) x, upd G (169 + 20 * q + 5) x (169 + 20 * q + 7) = G (169 + 20 * q + 7) := fun G x => upd_n (by omega)
    rw [ag_isDue h hi hir, ag_of h hi, p5]
    simp only [u7, p7]
    refine ag_if Iff.rfl (fun _ => h) (fun h1 => ag_if Iff.rfl (fun _ => h) (fun h2 => ?_))
    have hg : ∀ x y, Ag n m c (upd (upd P (169 + 20 * q + 5) x) (169 + 20 * q + 7) y) (upd (upd P' (169 + 20 * q + 5) x) (169 + 20 * q + 7) y) := fun x y => ag_u (ag_u h rfl) rfl
    have hb : ∀ x y z, Ag n m c (if upd (upd P (169 + 20 * q + 5) x) (169 + 20 * q + 7) y (169 + 20 * q + 5) = fR_X7_of (upd (upd P (169 + 20 * q + 5) x) (169 + 20 * q + 7) y) i 0 then fP_X7_plows_L114 q k (fR_X7_goesOn (fP_X7_clears (upd (upd P (169 + 20 * q + 5) x) (169 + 20 * q + 7) y) q i) q) z (fP_X7_goesOn (fP_X7_clears (upd (upd P (169 + 20 * q + 5) x) (169 + 20 * q + 7) y) q i) q) else fP_X7_plows_L114 q k mo z (upd (upd P (169 + 20 * q + 5) x) (169 + 20 * q + 7) y)) (if upd (upd P' (169 + 20 * q + 5) x) (169 + 20 * q + 7) y (169 + 20 * q + 5) = fR_X7_of (upd (upd P' (169 + 20 * q + 5) x) (169 + 20 * q + 7) y) i 0 then fP_X7_plows_L114 q k (fR_X7_goesOn (fP_X7_clears (upd (upd P' (169 + 20 * q + 5) x) (169 + 20 * q + 7) y) q i) q) z (fP_X7_goesOn (fP_X7_clears (upd (upd P' (169 + 20 * q + 5) x) (169 + 20 * q + 7) y) q i) q) else fP_X7_plows_L114 q k mo z (upd (upd P' (169 + 20 * q + 5) x) (169 + 20 * q + 7) y)) := fun x y z => by
      have hc := ag_clears (hg x y) hq hi
      have hgo := ag_goesOn hc hq
      refine ag_if (by rw [ag_p (hg x y) hq 5 (by omega), ag_of (hg x y) hi]) (fun _ => ?_) (fun _ => ag_plL hq k _ _ _ _ (hg x y) (rtL_u2 hR))
      rw [hgo.1]
      exact ag_plL hq k _ _ _ _ hgo.2 (rtL_go (rtL_cl hi20 (rtL_u2 hR)))
    refine ag_if Iff.rfl (fun h3 => ag_if Iff.rfl (fun h4 => ?_) (fun h4 => hb _ _ _)) (fun h3 => hb _ _ _)
    have hgo := ag_goesOn h hq
    rw [hgo.1]
    exact ag_plL hq k _ _ _ _ hgo.2 (rtL_go hR)
