/-! Hours keep a good page; what is done or refused keeps the relation. -/
theorem okE_f {P P1 : Nat → Int32} {q : Nat} (h3 : P1 (169 + 20 * q + 3) = P (169 + 20 * q + 3)) (h4 : nc P q = 0 → P1 (169 + 20 * q + 4) = P (169 + 20 * q + 4)) (h : okE P q) : okE P1 q := by
  have e := nc_c h3
  refine ⟨by unfold okQ; rw [e, h3]; exact h.1, fun e0 => ?_⟩
  rw [e] at e0
  rw [h4 e0]
  exact h.2 e0
/-- the same, the number being the word c -/
def okK (c : Int32) (P : Nat → Int32) (q : Nat) : Prop := okE P q ∧ P (169 + 20 * q + 3) = c
theorem okK_f {c : Int32} {P P1 : Nat → Int32} {q : Nat} (h3 : P1 (169 + 20 * q + 3) = P (169 + 20 * q + 3)) (h4 : nc P q = 0 → P1 (169 + 20 * q + 4) = P (169 + 20 * q + 4)) (h : okK c P q) : okK c P1 q := ⟨okE_f h3 h4 h.1, h3.trans h.2⟩
theorem okK_plows {c : Int32} {P : Nat → Int32} {q j : Nat} (hw : WF P) (hj : j < np P) (hq : q < np P) (h : okK c P q) : okK c (fP_X7_plows P j) q := by
  have h3 := hw.1.2.2.2
  have st : ∀ x, (x = 169 + 20 * q + 3 ∨ (x = 169 + 20 * q + 4 ∧ q ≠ j)) → fP_X7_plows P j x = P x := fun x hx => (plows_W (hw.2.2 j hj)).2 x ⟨fun i hi => ⟨by omega, by omega, by omega, by omega⟩, by omega, by omega, by omega, by omega, by omega, by omega, by omega⟩
  refine okK_f (st _ (Or.inl rfl)) (fun e => ?_) h
  by_cases hqj : q = j
  · subst hqj
    rw [plows_0]
    rw [h.1.1.1, e]
    decide
  · exact st _ (Or.inr ⟨rfl, hqj⟩)
theorem okK_L53 {c : Int32} {tmp sn : Int32} {q : Nat} (hq : q < 3) : ∀ (k : Nat) (acc : Int32) (j : Nat) (P : Nat → Int32), j + k ≤ 20 → okK c P q → okK c (fP_X7_hour_L53 tmp sn k acc j P) q
  | 0, acc, j, P, _, h => by
    rw [fP_X7_hour_L53]
    (try dsimp only)
    exact okK_f (by rw [upd_n (by omega), upd_n (by omega)]) (fun _ => by rw [upd_n (by omega), upd_n (by omega)]) h
  | k + 1, acc, j, P, hk, h => by
    rw [fP_X7_hour_L53]
    (try dsimp only)
    exact okK_L53 hq k _ _ _ (by omega) (okK_f (fr_waits (by omega) (by omega) (by omega)) (fun _ => fr_waits (by omega) (by omega) (by omega)) h)
theorem okK_L27 {c : Int32} {tmp sn : Int32} {q : Nat} : ∀ (k j : Nat) (P : Nat → Int32), WF P → j + k = np P → q < np P → okK c P q → okK c (fP_X7_hour_L27 tmp sn k j P) q
  | 0, j, P, hw, _, hq, h => by
    rw [fP_X7_hour_L27]
    have := hw.1.2.1
    have := hw.1.2.2.2
    exact okK_L53 (by omega) _ _ _ _ (by omega) h
  | k + 1, j, P, hw, hk, hq, h => by
    rw [fP_X7_hour_L27]
    (try dsimp only)
    have e := np_c (ns_plows (P := P) (q := j) (by omega) hw).2
    exact okK_L27 k _ _ (WF_plows (by omega) hw) (by omega) (by omega) (okK_plows hw (by omega) hq h)
theorem okK_L2 {c : Int32} {tmp sn : Int32} {q : Nat} : ∀ (k j : Nat) (P : Nat → Int32), WF P → j + k = ns P → q < np P → okK c P q → okK c (fP_X7_hour_L2 tmp sn k j P) q
  | 0, j, P, hw, _, hq, h => by
    rw [fP_X7_hour_L2]
    exact okK_L27 _ _ _ hw (by omega) hq h
  | k + 1, j, P, hw, hk, hq, h => by
    rw [fP_X7_hour_L2]
    (try dsimp only)
    have hn := hw.1.2.1
    have h3 := hw.1.2.2.2
    have e1 := ns_c (ns_weather (P := P) (i := j) (tmp := tmp) (sn := sn)).1
    have e2 := np_c (ns_weather (P := P) (i := j) (tmp := tmp) (sn := sn)).2
    exact okK_L2 k _ _ (WF_weather (by omega) hw) (by omega) (by omega) (okK_f (fr_weather (by omega) (by omega) (by omega)) (fun _ => fr_weather (by omega) (by omega) (by omega)) h)
theorem okK_hour {c : Int32} {tmp sn : Int32} {q : Nat} {P : Nat → Int32} (hw : WF P) (hq : q < np P) (h : okK c P q) : okK c (fP_X7_hour P tmp sn) q := okK_L2 _ _ _ hw (by omega) hq h
theorem okK_hours {c : Int32} {tmp sn : Int32} {many q : Nat} : ∀ (k : Nat) (acc : Int32) (j : Nat) (P : Nat → Int32), WF P → q < np P → okK c P q → okK c (fP_X7_hours_L6 tmp sn many k acc j P) q
  | 0, acc, j, P, _, _, h => by
    rw [fP_X7_hours_L6]
    exact h
  | k + 1, acc, j, P, hw, hq, h => by
    rw [fP_X7_hours_L6]
    (try dsimp only)
    exact okK_hours k _ _ _ (WF_hour hw) (by rw [np_c (ns_hour hw).2]; exact hq) (okK_hour hw hq h)
theorem sc_6 {F : Nat → Int32} {x : Int32} : sc (upd F 6 x) = sc F := sc_c (upd_n (by decide))
/-- a refused call -/
theorem Rel_err {C : Nat → Int32} {G : Nat → Nat → Int32} {n : Nat} {Y F P V T Fm : Nat → Int32} {x : Int32} (h : Rel C G n Y F P V T Fm) : Rel C G n Y F P V T (upd Fm 6 x) := by
  obtain ⟨a1, a2, a3, a4, a5, a6, a7, a8⟩ := h
  have e5 : upd Fm 6 x 5 = Fm 5 := upd_n (by decide)
  exact ⟨a1, okC_6 a2, by rw [sc_6]; exact a3, a4, a5, okT_c e5 a6, by rw [e5]; exact a7, fun j hj => a8 j (by rw [tl_c e5] at hj; exact hj)⟩
/-- a call that is done -/
theorem Rel_done {C C' : Nat → Int32} {G : Nat → Nat → Int32} {n : Nat} {Y F P P' V T Fm : Nat → Int32} (h : Rel C G n Y F P V T Fm) (hC : Cg C' P') : Rel C' (svL G n C) (svN n + 1) Y F P' (fV_X7_keep P V (upd Fm 6 0)) T (fF_X7_keep P V (upd Fm 6 0)) := by
  obtain ⟨a1, a2, a3, a4, a5, a6, a7, a8⟩ := h
  have hc : okC (upd Fm 6 0) := okC_6 a2
  obtain ⟨b1, b2⟩ := Rel_save (V := V) (Fm := upd Fm 6 0) a1 hc (by rw [sc_6]; exact a3) a4
  have e5 : fF_X7_keep P V (upd Fm 6 0) 5 = Fm 5 := by rw [(keep_F hc).1 5 (by decide), upd_n (by decide)]
  exact ⟨hC, (keep_C hc).1, b1, b2, a5, okT_c e5 a6, by rw [e5]; exact a7, fun j hj => a8 j (by rw [tl_c e5] at hj; exact hj)⟩
theorem done_6 {P V Fm : Nat → Int32} (h : okC Fm) : fF_X7_keep P V (upd Fm 6 0) 6 = 0 := by rw [(keep_F (okC_6 h)).1 6 (by decide), upd_s]
