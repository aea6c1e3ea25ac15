/-! Reading the weather text: the class's reader beside the reference's. -/
def Sy (Y T F M : Nat → Int32) : Prop := okX5 F ∧ okX M ∧ F 1 = M 5 ∧ F 6 = M 7 ∧ F 7 = -1 ∧ ∀ j, j < tl M → Y j = T j
def Er (F M : Nat → Int32) : Prop := F 7 = M 7 ∧ ∃ e, e ≤ 150 ∧ M 7 = nI e
theorem Er.n {F M : Nat → Int32} (h : Er F M) : ¬ F 7 = -1 := fun a => by
  obtain ⟨e1, e, e2, e3⟩ := h
  have h2 := nI_pos (n := e) (by omega)
  rw [← e3, ← e1, a] at h2
  exact h2 (by decide)
theorem Er.k {F F' M : Nat → Int32} (h : Er F M) (h7 : F' 7 = F 7) : Er F' M := ⟨h7.trans h.1, h.2⟩
theorem Sy.tlq {Y T F M : Nat → Int32} (h : Sy Y T F M) : tl5 F = tl M := by
  have e := h.2.2.1
  unfold tl5 tl
  rw [e]
theorem Sy.taq {Y T F M : Nat → Int32} (h : Sy Y T F M) : ta5 F = ta M := by
  have e := h.2.2.2.1
  unfold ta5 ta
  rw [e]
theorem Sy.here {Y T F M : Nat → Int32} (h : Sy Y T F M) : fR_X5_here Y F = fR_X7_here T M := by
  unfold fR_X5_here fR_X7_here
  rw [h.tlq, h.taq]
  by_cases a : tl M ≤ ta M
  · rw [if_pos a, if_pos a]
  · rw [if_neg a, if_neg a, h.2.2.2.2.2 _ (by omega)]
theorem Sy.digit {Y T F M : Nat → Int32} (h : Sy Y T F M) : fR_X5_isDigitHere Y F = fR_X7_isDigit T M := by
  unfold fR_X5_isDigitHere fR_X7_isDigit fR_X7_in
  rw [h.here]
theorem Sy.u {Y T F M : Nat → Int32} {k : Nat} {x : Int32} (hk : 5 ≠ k ∧ 7 ≠ k) (h : Sy Y T F M) : Sy Y T F (upd M k x) := by
  obtain ⟨a1, a2, a3, a4, a5, a6⟩ := h
  exact ⟨a1, okX_u hk a2, by rw [upd_n hk.1]; exact a3, by rw [upd_n hk.2]; exact a4, a5, fun j hj => a6 j (by rw [tl_c (upd_n hk.1)] at hj; exact hj)⟩
/-- both take a byte -/
theorem Sy.go {Y T F M : Nat → Int32} {x : Int32} (h : Sy Y T F M) (hx : x = nI (ta M + 1)) (hl : ta M < tl M) : Sy Y T (upd F 6 x) (upd M 7 x) := by
  have e1 := h.taq
  have e2 := h.tlq
  obtain ⟨a1, a2, a3, a4, a5, a6⟩ := h
  have e3 : ta (upd M 7 x) = ta M + 1 := by
    unfold ta
    rw [upd_s, hx]
    exact nI_t (by have := a2.1.2; unfold ta at *; omega)
  refine ⟨okX5_i a1 (by omega) (by rw [hx, e1]), ?_, by rw [upd_n (by decide), upd_n (by decide)]; exact a3, by rw [upd_s, upd_s], by rw [upd_n (by decide)]; exact a5, fun j hj => a6 j (by rw [tl_c (upd_n (by decide))] at hj; exact hj)⟩
  rw [hx]
  exact okX_7 a2.1 (by omega)
theorem ta_go {M : Nat → Int32} {n : Nat} (hn : n < 1000) : ta (upd M 7 (nI n)) = n := by
  unfold ta
  rw [upd_s]
  exact nI_t (by omega)
theorem Sy.e150 {Y T F M : Nat → Int32} (h : Sy Y T F M) : M 7 = nI (ta M) ∧ ta M ≤ 150 := ⟨h.2.1.2.1, by have := h.2.1.2.2; have := h.2.1.1.2; omega⟩
theorem Sy.fail {Y T F M : Nat → Int32} {x : Int32} (h : Sy Y T F M) : fF_X5_fail F x = upd F 7 x := by
  unfold fF_X5_fail
  rw [if_pos h.2.2.2.2.1]
theorem Sy.failE {Y T F M : Nat → Int32} (h : Sy Y T F M) : Er (fF_X5_fail F (F 6)) M := by
  rw [h.fail]
  exact ⟨by rw [upd_s]; exact h.2.2.2.1, _, h.e150.2, h.e150.1⟩
theorem Sy.exp {Y T F M : Nat → Int32} {c : Int32} (h : Sy Y T F M) (hc : ¬ c = -1) : (fR_X7_takes T M c = 0 → Er (fF_X5_expect Y F c) (fF_X7_takes T M c)) ∧ (¬ fR_X7_takes T M c = 0 → Sy Y T (fF_X5_expect Y F c) (fF_X7_takes T M c) ∧ ta (fF_X7_takes T M c) = ta M + 1) := by
  unfold fF_X5_expect fR_X7_takes fF_X7_takes
  rw [h.here]
  by_cases a : fR_X7_here T M = c
  · simp only [if_pos a]
    have hl := here_lt (fun e => hc (a.symm.trans e))
    have := h.2.1.1.2
    refine ⟨fun e => absurd e (by decide), fun _ => ⟨?_, ta_go (by omega)⟩⟩
    rw [h.taq]
    exact h.go rfl hl
  · simp only [if_neg a]
    refine ⟨fun _ => ?_, fun e => absurd trivial e⟩
    rw [Nat.add_zero]
    exact ⟨by rw [h.fail, upd_s, upd_s, h.2.2.2.1]; exact h.e150.1, _, h.e150.2, upd_s⟩
theorem Sy.opt {Y T F M : Nat → Int32} {c : Int32} (h : Sy Y T F M) (hc : ¬ c = -1) : (fR_X5_here Y F = c → ¬ fR_X7_takes T M c = 0 ∧ Sy Y T (upd F 6 (nI (ta5 F + 1))) (fF_X7_takes T M c)) ∧ (¬ fR_X5_here Y F = c → fR_X7_takes T M c = 0 ∧ Sy Y T F (fF_X7_takes T M c)) ∧ ta M ≤ ta (fF_X7_takes T M c) := by
  unfold fR_X7_takes fF_X7_takes
  rw [h.here, h.taq]
  have := h.2.1.1.2
  have := h.2.1.2.2
  by_cases a : fR_X7_here T M = c
  · simp only [if_pos a]
    have hl := here_lt (fun e => hc (a.symm.trans e))
    exact ⟨fun _ => ⟨by decide, h.go rfl hl⟩, fun e => absurd a e, by rw [ta_go (by omega)]; omega⟩
  · simp only [if_neg a]
    have e : upd M 7 (nI (ta M + 0)) = M := by
      rw [Nat.add_zero, ← h.e150.1]
      exact upd_i
    rw [e]
    exact ⟨fun b => absurd b a, fun _ => ⟨trivial, h⟩, Nat.le_refl _⟩
theorem in_i {x lo hi : Int32} : (if x < lo then (0 : Int32) else if x ≤ hi then 1 else 0) = fR_X7_in x lo hi := by
  unfold fR_X7_in
  by_cases a : x < lo
  · rw [if_pos a, if_pos a]
  rw [if_neg a, if_neg a]
  by_cases b : x ≤ hi
  · rw [if_pos b, if_neg (Int32.not_lt.2 b)]
  · rw [if_neg b, if_pos (Int32.not_le.1 b)]
/-- a number has been read: is it in its range? -/
theorem Sy.range {Y T F M : Nat → Int32} {num lo hi : Int32} {fr : Nat} (h : Sy Y T F M) (h8 : M 8 = num) (hf : fr ≤ 150) : (fR_X7_in (M 8) lo hi = 0 → Er (if num < lo then fF_X5_fail F (nI fr) else if num ≤ hi then F else fF_X5_fail F (nI fr)) (upd M 7 (nI fr))) ∧ (¬ fR_X7_in (M 8) lo hi = 0 → (if num < lo then fF_X5_fail F (nI fr) else if num ≤ hi then F else fF_X5_fail F (nI fr)) = F) := by
  rw [h8]
  have hE : Er (fF_X5_fail F (nI fr)) (upd M 7 (nI fr)) := by
    rw [h.fail]
    exact ⟨by rw [upd_s, upd_s], fr, hf, upd_s⟩
  constructor
  · intro a
    rw [← in_i] at a
    by_cases b : num < lo
    · rw [if_pos b]
      exact hE
    rw [if_neg b] at a ⊢
    by_cases d : num ≤ hi
    · rw [if_pos d] at a
      exact absurd a (by decide)
    · rw [if_neg d]
      exact hE
  · intro a
    rw [← in_i] at a
    by_cases b : num < lo
    · rw [if_pos b] at a
      exact absurd rfl a
    rw [if_neg b] at a ⊢
    by_cases d : num ≤ hi
    · rw [if_pos d]
    · rw [if_neg d] at a
      exact absurd rfl a
theorem numS {Y T : Nat → Int32} {d : Nat} {lo hi : Int32} : ∀ (k fr : Nat) (num : Int32) (j : Nat) (F M : Nat → Int32), Sy Y T F M → M 8 = num → fr ≤ 150 → (fR_X7_readNumber_L11 T d lo hi k fr M = 0 → Er (fF_X5_readNumber_L12 Y d lo hi k fr num j F) (fF_X7_readNumber_L11 T d lo hi k fr M)) ∧ (¬ fR_X7_readNumber_L11 T d lo hi k fr M = 0 → Sy Y T (fF_X5_readNumber_L12 Y d lo hi k fr num j F) (fF_X7_readNumber_L11 T d lo hi k fr M) ∧ fR_X5_readNumber_L12 Y d lo hi k fr num j F = fF_X7_readNumber_L11 T d lo hi k fr M 8)
  | 0, fr, num, j, F, M, h, h8, hf => by
    rw [fR_X7_readNumber_L11, fF_X5_readNumber_L12, fF_X7_readNumber_L11, fR_X5_readNumber_L12]
    (try dsimp only)
    rw [h.digit, h.taq]
    by_cases a : ta M = fr
    · simp only [if_pos a]
      exact ⟨fun _ => h.failE, fun e => absurd trivial e⟩
    simp only [if_neg a]
    by_cases b : fR_X7_isDigit T M = 0
    · simp only [if_pos b, ite_self]
      obtain ⟨r1, r2⟩ := h.range (lo := lo) (hi := hi) h8 hf
      by_cases c : fR_X7_in (M 8) lo hi = 0
      · simp only [if_pos c]
        exact ⟨fun _ => r1 c, fun e => absurd trivial e⟩
      · simp only [if_neg c]
        rw [r2 c]
        exact ⟨fun e => absurd e (by decide), fun _ => ⟨h, h8.symm⟩⟩
    · simp only [if_neg b]
      exact ⟨fun _ => h.failE, fun e => absurd trivial e⟩
  | k + 1, fr, num, j, F, M, h, h8, hf => by
    rw [fR_X7_readNumber_L11, fF_X5_readNumber_L12, fF_X7_readNumber_L11, fR_X5_readNumber_L12]
    (try dsimp only)
    rw [h.digit, h.taq]
    by_cases b : fR_X7_isDigit T M = 0
    · simp only [if_pos b, ite_self]
      by_cases a : ta M = fr
      · simp only [if_pos a]
        exact ⟨fun _ => h.failE, fun e => absurd trivial e⟩
      simp only [if_neg a]
      obtain ⟨r1, r2⟩ := h.range (lo := lo) (hi := hi) h8 hf
      by_cases c : fR_X7_in (M 8) lo hi = 0
      · simp only [if_pos c]
        exact ⟨fun _ => r1 c, fun e => absurd trivial e⟩
      · simp only [if_neg c]
        rw [r2 c]
        exact ⟨fun e => absurd e (by decide), fun _ => ⟨h, h8.symm⟩⟩
    · simp only [if_neg b]
      rw [h.here, h8]
      have hl := digit_lt b
      have hs : Sy Y T (upd F 6 (nI (ta M + 1))) (upd (upd M 8 (10 * num + fR_X7_here T M - 48)) 7 (nI (ta M + 1))) := (h.u (k := 8) (by decide)).go (by rw [ta_c (upd_n (by decide))]) (by rw [ta_c (upd_n (by decide)), tl_c (upd_n (by decide))]; exact hl)
      exact numS k fr _ (j + 1) _ _ hs (by rw [upd_n (by decide), upd_s]) hf
theorem Sy.num {Y T F M : Nat → Int32} {d : Nat} {lo hi : Int32} (h : Sy Y T F M) : (fR_X7_readNumber T M d lo hi = 0 → Er (fF_X5_readNumber Y F d lo hi) (fF_X7_readNumber T M d lo hi)) ∧ (¬ fR_X7_readNumber T M d lo hi = 0 → Sy Y T (fF_X5_readNumber Y F d lo hi) (fF_X7_readNumber T M d lo hi) ∧ fR_X5_readNumber Y F d lo hi = fF_X7_readNumber T M d lo hi 8 ∧ ta M < ta (fF_X7_readNumber T M d lo hi)) := by
  obtain ⟨-, -, -, n4, -⟩ := num_X (T := T) (d := d) (lo := lo) (hi := hi) h.2.1
  unfold fF_X5_readNumber fR_X5_readNumber
  rw [h.taq]
  obtain ⟨a, b⟩ := numS (d := d) (lo := lo) (hi := hi) d (ta M) 0 0 _ _ (h.u (k := 8) (x := 0) (by decide)) upd_s h.e150.2
  refine ⟨a, fun e => ⟨(b e).1, (b e).2, ?_⟩⟩
  rcases n4 with n4 | n4
  · exact absurd n4 e
  · exact n4.2.1
/-! Once failed, the place of the failure stays. -/
theorem st_fail {F : Nat → Int32} {x : Int32} (h : ¬ F 7 = -1) : fF_X5_fail F x = F := by
  unfold fF_X5_fail
  rw [if_neg h]
theorem st_exp {Y F : Nat → Int32} {c : Int32} (h : ¬ F 7 = -1) : fF_X5_expect Y F c 7 = F 7 := by
  unfold fF_X5_expect
  rw [st_fail h]
  split
  · exact upd_n (by decide)
  · rfl
theorem st_numL {Y : Nat → Int32} {d : Nat} {lo hi : Int32} : ∀ (k fr : Nat) (num : Int32) (j : Nat) (F : Nat → Int32), ¬ F 7 = -1 → fF_X5_readNumber_L12 Y d lo hi k fr num j F 7 = F 7
  | 0, fr, num, j, F, h => by
    rw [fF_X5_readNumber_L12]
    (try dsimp only)
    rw [st_fail h, st_fail h]
    repeat' split
    all_goals rfl
  | k + 1, fr, num, j, F, h => by
    rw [fF_X5_readNumber_L12]
    (try dsimp only)
    rw [st_fail h, st_fail h]
    have e : upd F 6 (nI (ta5 F + 1)) 7 = F 7 := upd_n (by decide)
    have h2 := st_numL (Y := Y) (d := d) (lo := lo) (hi := hi) k fr (10 * num + fR_X5_here Y F - 48) (j + 1) (upd F 6 (nI (ta5 F + 1))) (by rw [e]; exact h)
    repeat' split
    all_goals first | rfl | exact h2.trans e
theorem st_num {Y F : Nat → Int32} {d : Nat} {lo hi : Int32} (h : ¬ F 7 = -1) : fF_X5_readNumber Y F d lo hi 7 = F 7 := st_numL _ _ _ _ _ h
/-- the end of an item -/
def en5 (Y F : Nat → Int32) : Nat → Int32 := if fR_X5_here Y F = 120 then fF_X5_expect Y (fF_X5_readNumber Y (upd F 6 (nI (ta5 F + 1))) 2 1 99) 59 else fF_X5_expect Y F 59
def hr5 (Y F : Nat → Int32) : Int32 := if fR_X5_here Y F = 120 then fR_X5_readNumber Y (upd F 6 (nI (ta5 F + 1))) 2 1 99 else 1
theorem st_en {Y F : Nat → Int32} (h : ¬ F 7 = -1) : en5 Y F 7 = F 7 := by
  unfold en5
  split
  · have e : upd F 6 (nI (ta5 F + 1)) 7 = F 7 := upd_n (by decide)
    have e2 := st_num (Y := Y) (d := 2) (lo := 1) (hi := 99) (F := upd F 6 (nI (ta5 F + 1))) (by rw [e]; exact h)
    rw [st_exp (by rw [e2, e]; exact h), e2, e]
  · exact st_exp h
theorem item5_F {Y X U Z F : Nat → Int32} : fF_X5_readItem Y X U Z F = en5 Y (fF_X5_readNumber Y (fF_X5_expect Y (fF_X5_readTemperature Y F) 44) 3 0 100) := rfl
theorem item5_X {Y X U Z F : Nat → Int32} : fX_X5_readItem Y X U Z F = upd X (ti5 F) (fR_X5_readTemperature Y F) := by
  unfold fX_X5_readItem
  exact ite_self _
theorem item5_U {Y X U Z F : Nat → Int32} : fU_X5_readItem Y X U Z F = upd U (ti5 F) (fR_X5_readNumber Y (fF_X5_expect Y (fF_X5_readTemperature Y F) 44) 3 0 100) := by
  unfold fU_X5_readItem
  exact ite_self _
theorem item5_Z {Y X U Z F : Nat → Int32} : fZ_X5_readItem Y X U Z F (ti5 F) = hr5 Y (fF_X5_readNumber Y (fF_X5_expect Y (fF_X5_readTemperature Y F) 44) 3 0 100) := by
  unfold fZ_X5_readItem hr5
  (try dsimp only)
  split
  · exact upd_s
  · exact upd_s
theorem Sy.en {Y T F M : Nat → Int32} (h : Sy Y T F M) (h11 : M 11 = 1) : (it2R T M = 0 → Er (en5 Y F) (it2F T M)) ∧ (¬ it2R T M = 0 → Sy Y T (en5 Y F) (it2F T M) ∧ it2F T M 9 = M 9 ∧ it2F T M 10 = M 10 ∧ it2F T M 11 = hr5 Y F ∧ ta M + 1 ≤ ta (it2F T M)) := by
  obtain ⟨o1, o2, o3⟩ := h.opt (c := 120) (by decide)
  unfold it2R it2F en5 hr5
  by_cases a : fR_X5_here Y F = 120
  · obtain ⟨p1, p2⟩ := o1 a
    simp only [if_pos a, if_neg p1]
    obtain ⟨n1, n2⟩ := p2.num (d := 2) (lo := 1) (hi := 99)
    obtain ⟨-, -, x3, -, -⟩ := num_X (T := T) (d := 2) (lo := 1) (hi := 99) p2.2.1
    by_cases b : fR_X7_readNumber T (fF_X7_takes T M 120) 2 1 99 = 0
    · simp only [if_pos b]
      exact ⟨fun _ => (n1 b).k (st_exp (n1 b).n), fun e => absurd trivial e⟩
    · simp only [if_neg b]
      obtain ⟨s1, s2, s3⟩ := n2 b
      obtain ⟨e1, e2⟩ := (s1.u (k := 11) (x := fF_X7_readNumber T (fF_X7_takes T M 120) 2 1 99 8) (by decide)).exp (c := 59) (by decide)
      refine ⟨e1, fun e => ⟨(e2 e).1, ?_, ?_, ?_, ?_⟩⟩
      · rw [takes_f (by decide), upd_n (by decide), x3 9 (by decide) (by decide), takes_f (by decide)]
      · rw [takes_f (by decide), upd_n (by decide), x3 10 (by decide) (by decide), takes_f (by decide)]
      · rw [takes_f (by decide), upd_s, s2]
      · rw [(e2 e).2, ta_c (upd_n (by decide))]
        omega
  · obtain ⟨p1, p2⟩ := o2 a
    simp only [if_neg a, if_pos p1]
    obtain ⟨e1, e2⟩ := p2.exp (c := 59) (by decide)
    refine ⟨e1, fun e => ⟨(e2 e).1, ?_, ?_, ?_, ?_⟩⟩
    · rw [takes_f (by decide), takes_f (by decide)]
    · rw [takes_f (by decide), takes_f (by decide)]
    · rw [takes_f (by decide), takes_f (by decide), h11]
    · rw [(e2 e).2]
      omega
theorem Sy.mid {Y T F M : Nat → Int32} (h : Sy Y T F M) : (it1R T M = 0 → Er (en5 Y (fF_X5_readNumber Y (fF_X5_expect Y F 44) 3 0 100)) (it1F T M)) ∧ (¬ it1R T M = 0 → Sy Y T (en5 Y (fF_X5_readNumber Y (fF_X5_expect Y F 44) 3 0 100)) (it1F T M) ∧ it1F T M 9 = M 9 ∧ it1F T M 10 = fR_X5_readNumber Y (fF_X5_expect Y F 44) 3 0 100 ∧ it1F T M 11 = hr5 Y (fF_X5_readNumber Y (fF_X5_expect Y F 44) 3 0 100) ∧ ta M + 3 ≤ ta (it1F T M)) := by
  obtain ⟨e1, e2⟩ := h.exp (c := 44) (by decide)
  unfold it1R it1F
  by_cases a : fR_X7_takes T M 44 = 0
  · simp only [if_pos a]
    have hE := e1 a
    have s1 := st_num (Y := Y) (d := 3) (lo := 0) (hi := 100) hE.n
    exact ⟨fun _ => hE.k (by rw [st_en (by rw [s1]; exact hE.n), s1]), fun e => absurd trivial e⟩
  simp only [if_neg a]
  obtain ⟨p1, p2⟩ := e2 a
  obtain ⟨n1, n2⟩ := p1.num (d := 3) (lo := 0) (hi := 100)
  obtain ⟨-, -, x3, -, -⟩ := num_X (T := T) (d := 3) (lo := 0) (hi := 100) p1.2.1
  by_cases b : fR_X7_readNumber T (fF_X7_takes T M 44) 3 0 100 = 0
  · simp only [if_pos b]
    exact ⟨fun _ => (n1 b).k (st_en (n1 b).n), fun e => absurd trivial e⟩
  simp only [if_neg b]
  obtain ⟨s1, s2, s3⟩ := n2 b
  obtain ⟨g1, g2⟩ := ((s1.u (k := 10) (x := fF_X7_readNumber T (fF_X7_takes T M 44) 3 0 100 8) (by decide)).u (k := 11) (x := 1) (by decide)).en upd_s
  refine ⟨g1, fun e => ?_⟩
  obtain ⟨q1, q2, q3, q4, q5⟩ := g2 e
  refine ⟨q1, ?_, ?_, q4, ?_⟩
  · rw [q2, upd_n (by decide), upd_n (by decide), x3 9 (by decide) (by decide), takes_f (by decide)]
  · rw [q3, upd_n (by decide), upd_s, s2]
  · rw [ta_c (upd_n (by decide)), ta_c (upd_n (by decide))] at q5
    omega
theorem Sy.temp {Y T F M : Nat → Int32} (h : Sy Y T F M) : (fR_X7_readNumber T (fF_X7_takes T M 45) 3 0 300 = 0 → Er (fF_X5_readTemperature Y F) (fF_X7_readNumber T (fF_X7_takes T M 45) 3 0 300)) ∧ (¬ fR_X7_readNumber T (fF_X7_takes T M 45) 3 0 300 = 0 → Sy Y T (fF_X5_readTemperature Y F) (fF_X7_readNumber T (fF_X7_takes T M 45) 3 0 300) ∧ fR_X5_readTemperature Y F = itT T M ∧ ta M + 1 ≤ ta (fF_X7_readNumber T (fF_X7_takes T M 45) 3 0 300)) := by
  obtain ⟨o1, o2, o3⟩ := h.opt (c := 45) (by decide)
  unfold fF_X5_readTemperature fR_X5_readTemperature itT
  by_cases a : fR_X5_here Y F = 45
  · obtain ⟨p1, p2⟩ := o1 a
    simp only [if_pos a, if_neg p1]
    obtain ⟨n1, n2⟩ := p2.num (d := 3) (lo := 0) (hi := 300)
    refine ⟨n1, fun e => ?_⟩
    obtain ⟨q1, q2, q3⟩ := n2 e
    exact ⟨q1, by rw [q2], by omega⟩
  · obtain ⟨p1, p2⟩ := o2 a
    simp only [if_neg a, if_pos p1]
    obtain ⟨n1, n2⟩ := p2.num (d := 3) (lo := 0) (hi := 300)
    refine ⟨n1, fun e => ?_⟩
    obtain ⟨q1, q2, q3⟩ := n2 e
    exact ⟨q1, by rw [q2], by omega⟩
/-- an item: the class and the reference read the same -/
theorem Sy.item {Y T F M X U Z : Nat → Int32} (h : Sy Y T F M) : (fR_X7_readItem T M = 0 → Er (fF_X5_readItem Y X U Z F) (fF_X7_readItem T M)) ∧ (¬ fR_X7_readItem T M = 0 → Sy Y T (fF_X5_readItem Y X U Z F) (fF_X7_readItem T M) ∧ fX_X5_readItem Y X U Z F (ti5 F) = fF_X7_readItem T M 9 ∧ fU_X5_readItem Y X U Z F (ti5 F) = fF_X7_readItem T M 10 ∧ fZ_X5_readItem Y X U Z F (ti5 F) = fF_X7_readItem T M 11 ∧ ta M + 4 ≤ ta (fF_X7_readItem T M)) := by
  obtain ⟨t1, t2⟩ := h.temp
  rw [item_R, item_F, item5_F, item5_X, item5_U, item5_Z, upd_s, upd_s]
  by_cases a : fR_X7_readNumber T (fF_X7_takes T M 45) 3 0 300 = 0
  · simp only [if_pos a]
    have hE := t1 a
    have s0 := st_exp (Y := Y) (c := 44) hE.n
    have s1 := st_num (Y := Y) (d := 3) (lo := 0) (hi := 100) (F := fF_X5_expect Y (fF_X5_readTemperature Y F) 44) (by rw [s0]; exact hE.n)
    exact ⟨fun _ => hE.k (by rw [st_en (by rw [s1, s0]; exact hE.n), s1, s0]), fun e => absurd trivial e⟩
  simp only [if_neg a]
  obtain ⟨p1, p2, p3⟩ := t2 a
  obtain ⟨g1, g2⟩ := (p1.u (k := 9) (x := itT T M) (by decide)).mid
  refine ⟨g1, fun e => ?_⟩
  obtain ⟨q1, q2, q3, q4, q5⟩ := g2 e
  refine ⟨q1, ?_, q3.symm, q4.symm, ?_⟩
  · rw [q2, upd_s, p2]
  · rw [ta_c (upd_n (by decide))] at q5
    omega
