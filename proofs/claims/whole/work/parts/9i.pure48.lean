/-! The digest: class against reference. -/
theorem value_eq {C P : Nat → Int32} {w : Nat} (h : Cg C P) (l2 : w ≤ 9) : fR_X0_number C w = fR_X7_valueOf P w := by
  have cg : ∀ k, k < 9 → k ≠ 5 → C k = P k := fun k a b => ag_c h.1 a b
  rcases (show w = 0 ∨ w = 1 ∨ w = 2 ∨ w = 3 ∨ w = 4 ∨ w = 5 ∨ w = 6 ∨ w = 7 ∨ w = 8 ∨ w = 9 by omega) with rfl | rfl | rfl | rfl | rfl | rfl | rfl | rfl | rfl | rfl
  · exact cg 0 (by omega) (by omega)
  · exact cg 1 (by omega) (by omega)
  · exact cg 2 (by omega) (by omega)
  · exact cg 3 (by omega) (by omega)
  · exact cg 4 (by omega) (by omega)
  · show fR_X0_complaints C = P 5
    rw [compl_eq, h.2.1]
    exact cs_c (ag_t h.1 (r := 0) (by omega) 3 (by omega)) (ag_t h.1 (r := 1) (by omega) 3 (by omega)) (ag_t h.1 (r := 2) (by omega) 3 (by omega))
  · exact cg 6 (by omega) (by omega)
  · show fR_X0_dueStreets_L4 C (ns C) 0 0 = fR_X7_due_L4 P (ns P) 0 0
    rw [ns_ag h.1]
    exact due_eq h _ _ _ (by omega)
  · exact cg 7 (by omega) (by omega)
  · exact cg 8 (by omega) (by omega)
theorem street_eq {C P : Nat → Int32} {i w : Nat} (h : Cg C P) (k1 : i < ns P) (l2 : w ≤ 8) : fR_X0_numberOfStreet C i w = fR_X7_ofStreet P i w := by
  have cg : ∀ k, k < 8 → C (9 + 8 * i + k) = P (9 + 8 * i + k) := fun k a => ag_s h.1 k1 k a
  rcases (show w = 0 ∨ w = 1 ∨ w = 2 ∨ w = 3 ∨ w = 4 ∨ w = 5 ∨ w = 6 ∨ w = 7 ∨ w = 8 by omega) with rfl | rfl | rfl | rfl | rfl | rfl | rfl | rfl | rfl
  · exact cg 0 (by omega)
  · exact cg 1 (by omega)
  · exact cg 2 (by omega)
  · exact cg 3 (by omega)
  · exact cg 4 (by omega)
  · exact cg 5 (by omega)
  · show (if fR_X7_isDue C i = 0 then (0 : Int32) else 1) = if fR_X7_isDue P i = 0 then 0 else 1
    rw [ag_isDue h.1 k1 (h.2.2.oR k1)]
  · exact cg 6 (by omega)
  · exact cg 7 (by omega)
theorem mix_eq {a b : Int64} : fR_X6_mix a b = fh_X7_mix a b := rfl
theorem dgT_c {C P : Nat → Int32} {h0 : Int64} {t : Nat} (h : ∀ j, j < 4 → C (229 + 4 * t + j) = P (229 + 4 * t + j)) : ∀ (k : Nat) (a : Int64) (j : Nat), j + k ≤ 4 → fR_X6_mixTerms_L5 C h0 t k a j = fR_X6_mixTerms_L5 P h0 t k a j
  | 0, a, j, _ => by rw [fR_X6_mixTerms_L5, fR_X6_mixTerms_L5]
  | k + 1, a, j, hj => by
    rw [fR_X6_mixTerms_L5, fR_X6_mixTerms_L5]
    (try dsimp only)
    rw [show fR_X4_number C t j = fR_X4_number P t j from h j (by omega)]
    exact dgT_c h k _ _ (by omega)
theorem dg112_c {C P : Nat → Int32} {n : Nat} {F : Nat → Int32} (h : ∀ r j, r < 3 → j < 4 → C (229 + 4 * r + j) = P (229 + 4 * r + j)) : ∀ (k : Nat) (a : Int64) (j : Nat), j + k ≤ 3 → fR_X6_digest_L112 C n F k a j = fR_X6_digest_L112 P n F k a j
  | 0, a, j, _ => by rw [fR_X6_digest_L112, fR_X6_digest_L112]
  | k + 1, a, j, hj => by
    rw [fR_X6_digest_L112, fR_X6_digest_L112]
    (try dsimp only)
    rw [show fR_X6_mixTerms C a j = fR_X6_mixTerms P a j from dgT_c (fun x hx => h j x (by omega) hx) _ _ _ (by omega)]
    exact dg112_c h k _ _ (by omega)
theorem dg112_e {P : Nat → Int32} {n : Nat} {F Fl : Nat → Int32} {a : Int64} (e3 : Fl 3 = nI n) : fR_X6_digest_L112 P n F 3 a 0 = fR_X7_digest_L140 P 12 0 Fl a := by
  simp only [fR_X6_digest_L112, fR_X6_mixTerms, fR_X6_mixTerms_L5, fR_X7_digest_L140, fR_X4_number, mix_eq, e3]
theorem dg33 {C P F : Nat → Int32} {h0 : Int64} {q : Nat} (h : ∀ j, j < 8 + nc P q → C (169 + 20 * q + j) = P (169 + 20 * q + j)) : ∀ (k : Nat) (a : Int64) (j : Nat), j + k ≤ nc P q → fR_X6_mixPlow_L33 C h0 q k a j = fh_X7_digest_B102 P F q k (8 + j) a
  | 0, a, j, _ => by rw [fR_X6_mixPlow_L33, fh_X7_digest_B102]
  | k + 1, a, j, hj => by
    rw [fR_X6_mixPlow_L33, fh_X7_digest_B102]
    (try dsimp only)
    have e := h (8 + j) (by omega)
    rw [show 169 + 20 * q + 8 + j = 169 + 20 * q + (8 + j) by omega, e]
    exact dg33 h k _ _ (by omega)
theorem dg5 {C P F : Nat → Int32} {h0 : Int64} {q : Nat} (hn : nc C q = nc P q) (h : ∀ j, j < 8 + nc P q → C (169 + 20 * q + j) = P (169 + 20 * q + j)) : ∀ (k : Nat) (a : Int64) (j : Nat), j + k = 8 → fR_X6_mixPlow_L5 C h0 q k a j = fh_X7_digest_B102 P F q (nc P q + k) j a
  | 0, a, j, hj => by
    rw [fR_X6_mixPlow_L5, hn, dg33 (F := F) h _ _ _ (by omega), show j = 8 + 0 by omega]
    rfl
  | k + 1, a, j, hj => by
    rw [fR_X6_mixPlow_L5, ← Nat.add_assoc, fh_X7_digest_B102]
    (try dsimp only)
    rw [show fR_X1_number C q j = fR_X7_ofPlow P q j from h j (by omega)]
    exact dg5 hn h k _ _ (by omega)
theorem dg79 {C P F Fl : Nat → Int32} {n : Nat} (h : Cg C P) (e3 : Fl 3 = nI n) : ∀ (k : Nat) (a : Int64) (j : Nat), j + k = np P → fR_X6_digest_L79 C n F k a j = fR_X7_digest_L90 P k j Fl a
  | 0, a, j, _ => by
    rw [fR_X6_digest_L79, fR_X7_digest_L90, dg112_c (fun r x hr hx => ag_t h.1 hr x hx) _ _ _ (by omega)]
    exact dg112_e e3
  | k + 1, a, j, hj => by
    rw [fR_X6_digest_L79, fR_X7_digest_L90]
    (try dsimp only)
    have e : fR_X6_mixPlow C a j = fh_X7_digest_B102 P Fl j (8 + nc P j) 0 a := by
      rw [Nat.add_comm 8]
      exact dg5 (nc_ag h.1 (by omega)) (fun x hx => ag_p h.1 (by omega) x hx) _ _ _ (by omega)
    rw [e]
    exact dg79 h e3 k _ _ (by omega)
theorem dg6 {C P F : Nat → Int32} {h0 : Int64} {i : Nat} (h : Cg C P) (hi : i < ns P) : ∀ (k : Nat) (a : Int64) (j : Nat), j + k = 9 → fR_X6_mixStreet_L6 C h0 i k a j = fh_X7_digest_B59 P F i k j a
  | 0, a, j, _ => by rw [fR_X6_mixStreet_L6, fh_X7_digest_B59]
  | k + 1, a, j, hj => by
    rw [fR_X6_mixStreet_L6, fh_X7_digest_B59]
    (try dsimp only)
    rw [street_eq h hi (by omega)]
    exact dg6 h hi k _ _ (by omega)
theorem dg45 {C P F Fl : Nat → Int32} {n : Nat} (h : Cg C P) (e3 : Fl 3 = nI n) : ∀ (k : Nat) (a : Int64) (j : Nat), j + k = ns P → fR_X6_digest_L45 C n F k a j = fR_X7_digest_L47 P k j Fl a
  | 0, a, j, _ => by
    rw [fR_X6_digest_L45, fR_X7_digest_L47, np_ag h.1]
    exact dg79 h e3 _ _ _ (by omega)
  | k + 1, a, j, hj => by
    rw [fR_X6_digest_L45, fR_X7_digest_L47]
    (try dsimp only)
    have e : fR_X6_mixStreet C a j = fh_X7_digest_B59 P Fl j 9 0 a := dg6 h (by omega) _ _ _ (by omega)
    rw [e]
    exact dg45 h e3 k _ _ (by omega)
theorem dg17 {C P F Fl : Nat → Int32} {n : Nat} (h : Cg C P) (e3 : Fl 3 = nI n) : ∀ (k : Nat) (a : Int64) (j : Nat), j + k = 10 → fR_X6_digest_L17 C n F k a j = fR_X7_digest_L23 P k j Fl a
  | 0, a, j, _ => by
    rw [fR_X6_digest_L17, fR_X7_digest_L23, ns_ag h.1]
    exact dg45 h e3 _ _ _ (by omega)
  | k + 1, a, j, hj => by
    rw [fR_X6_digest_L17, fR_X7_digest_L23]
    (try dsimp only)
    rw [value_eq h (by omega)]
    exact dg17 h e3 k _ _ (by omega)
theorem dgF1 {P : Nat → Int32} : ∀ (k j : Nat) (F : Nat → Int32) (a : Int64), fF_X7_digest_L140 P k j F a = F
  | 0, j, F, a => by rw [fF_X7_digest_L140]
  | k + 1, j, F, a => by
    rw [fF_X7_digest_L140]
    exact dgF1 k _ _ _
theorem dgF2 {P : Nat → Int32} : ∀ (k j : Nat) (F : Nat → Int32) (a : Int64), fF_X7_digest_L90 P k j F a = F
  | 0, j, F, a => by
    rw [fF_X7_digest_L90]
    exact dgF1 _ _ _ _
  | k + 1, j, F, a => by
    rw [fF_X7_digest_L90]
    exact dgF2 k _ _ _
theorem dgF3 {P : Nat → Int32} : ∀ (k j : Nat) (F : Nat → Int32) (a : Int64), fF_X7_digest_L47 P k j F a = F
  | 0, j, F, a => by
    rw [fF_X7_digest_L47]
    exact dgF2 _ _ _ _
  | k + 1, j, F, a => by
    rw [fF_X7_digest_L47]
    exact dgF3 k _ _ _
theorem dgF4 {P : Nat → Int32} : ∀ (k j : Nat) (F : Nat → Int32) (a : Int64), fF_X7_digest_L23 P k j F a = F
  | 0, j, F, a => by
    rw [fF_X7_digest_L23]
    exact dgF3 _ _ _ _
  | k + 1, j, F, a => by
    rw [fF_X7_digest_L23]
    exact dgF4 k _ _ _
theorem M_digest {C : Nat → Int32} {G : Nat → Nat → Int32} {n : Nat} {Y F P V T Fm : Nat → Int32} {hz : Int64} (h : Rel C G n Y F P V T Fm) : fF_X7_digest P Fm hz 6 = 0 ∧ fR_X6_digest C n F = fR_X7_digest P Fm hz ∧ Rel C G n Y F P V T (fF_X7_digest P Fm hz) := by
  have e : fF_X7_digest P Fm hz = upd Fm 6 0 := dgF4 _ _ _ _
  rw [e]
  refine ⟨upd_s, ?_, Rel_err h⟩
  have e3 : upd Fm 6 0 3 = nI n := by
    rw [upd_n (by decide), h.2.1.1, ← h.2.2.1]
  have e5 : upd Fm 6 0 5 = F 1 := by
    rw [upd_n (by decide), h.2.2.2.2.2.2.1]
  unfold fR_X6_digest fR_X7_digest
  (try dsimp only)
  rw [e5]
  exact dg17 h.1 e3 _ _ _ (by omega)
