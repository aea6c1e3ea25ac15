/-! An hour, phase by phase. -/
def wxL (T S : Int32) : Nat → Nat → (Nat → Int32) → Nat → Int32
  | 0, _, X => X
  | k + 1, j, X => wxL T S k (j + 1) (fP_X7_weather X j T S)
def pwL : Nat → Nat → (Nat → Int32) → Nat → Int32
  | 0, _, X => X
  | k + 1, j, X => pwL k (j + 1) (fP_X7_plows X j)
def wtP : Nat → Nat → (Nat → Int32) → Nat → Int32
  | 0, _, X => X
  | k + 1, j, X => wtP k (j + 1) (fP_X7_waits X j)
def wtR : Nat → Int32 → Nat → (Nat → Int32) → Int32
  | 0, acc, _, _ => acc
  | k + 1, acc, j, X => wtR k (acc + fR_X7_waits X j) (j + 1) (fP_X7_waits X j)
def hfin (acc : Int32) (X : Nat → Int32) : Nat → Int32 := upd (upd X 6 (X 6 + acc)) 0 (upd X 6 (X 6 + acc) 0 + 1)
theorem hs_53 {T S : Int32} : ∀ (k : Nat) (acc : Int32) (j : Nat) (X : Nat → Int32), fP_X7_hour_L53 T S k acc j X = hfin (wtR k acc j X) (wtP k j X) ∧ fR_X7_hour_L53 T S k acc j X = wtR k acc j X
  | 0, acc, j, X => by rw [fP_X7_hour_L53, fR_X7_hour_L53]; exact ⟨rfl, rfl⟩
  | k + 1, acc, j, X => by
    rw [fP_X7_hour_L53, fR_X7_hour_L53]
    exact hs_53 k _ _ _
theorem hs_27 {T S : Int32} : ∀ (k j : Nat) (X : Nat → Int32), fP_X7_hour_L27 T S k j X = fP_X7_hour_L53 T S (ns (pwL k j X)) 0 0 (pwL k j X) ∧ fR_X7_hour_L27 T S k j X = fR_X7_hour_L53 T S (ns (pwL k j X)) 0 0 (pwL k j X)
  | 0, j, X => by rw [fP_X7_hour_L27, fR_X7_hour_L27]; exact ⟨rfl, rfl⟩
  | k + 1, j, X => by
    rw [fP_X7_hour_L27, fR_X7_hour_L27]
    exact hs_27 k _ _
theorem hs_2 {T S : Int32} : ∀ (k j : Nat) (X : Nat → Int32), fP_X7_hour_L2 T S k j X = fP_X7_hour_L27 T S (np (wxL T S k j X)) 0 (wxL T S k j X) ∧ fR_X7_hour_L2 T S k j X = fR_X7_hour_L27 T S (np (wxL T S k j X)) 0 (wxL T S k j X)
  | 0, j, X => by rw [fP_X7_hour_L2, fR_X7_hour_L2]; exact ⟨rfl, rfl⟩
  | k + 1, j, X => by
    rw [fP_X7_hour_L2, fR_X7_hour_L2]
    exact hs_2 k _ _
theorem wxL_f {T S : Int32} {x : Nat} (hx : ∀ i, i < 20 → x ≠ 9 + 8 * i + 2 ∧ x ≠ 9 + 8 * i + 3 ∧ x ≠ 9 + 8 * i + 4) : ∀ (k j : Nat) (X : Nat → Int32), j + k ≤ 20 → wxL T S k j X x = X x
  | 0, j, X, _ => rfl
  | k + 1, j, X, h => by
    obtain ⟨a, b, c⟩ := hx j (by omega)
    exact (wxL_f hx k (j + 1) _ (by omega)).trans (fr_weather a b c)
theorem wxL_I {n m : Nat} {c : Nat → Nat} {T S : Int32} : ∀ (k j : Nat) (X : Nat → Int32), j + k ≤ 20 → hrI n m c X → hrI n m c (wxL T S k j X)
  | 0, j, X, _, h => h
  | k + 1, j, X, hk, h => wxL_I k (j + 1) _ (by omega) (hrI_weather (by omega) h)
theorem pwL_W {n m : Nat} {c sp : Nat → Nat} {P : Nat → Int32} (hn : n ≤ 20) (hm : m ≤ 3) (hQ : ∀ p, p < m → okQ P p) (hsp : ∀ p, p < m → P (169 + 20 * p + 0) = nI (sp p) ∧ sp p ≤ 5000) (hL : ∀ i, i < n → ∃ L, L ≤ 2000 ∧ P (9 + 8 * i + 0) = nI L) : ∀ (k j : Nat) (X : Nat → Int32), j + k = m → hrI n m c X → PW m sp j P X → hrI n m c (pwL k j X) ∧ PW m sp m P (pwL k j X)
  | 0, j, X, hk, hI, h => by
    have e : j = m := by omega
    subst e
    exact ⟨hI, h⟩
  | k + 1, j, X, hk, hI, h => pwL_W hn hm hQ hsp hL k (j + 1) _ (by omega) (hrI_plows (by omega) hI) (PW_step hn hm hI hQ hsp hL (by omega) h)
/-- the waiting -/
def WW (j : Nat) (P X : Nat → Int32) (acc : Int32) : Prop := (∀ x, x ≠ 5 → (∀ i, i < 20 → x ≠ 9 + 8 * i + 5) → (∀ r, r < 3 → x ≠ 229 + 4 * r + 3) → X x = P x) ∧ (∀ i, j ≤ i → i < 20 → X (9 + 8 * i + 5) = P (9 + 8 * i + 5)) ∧ (∀ i, i < j → X (9 + 8 * i + 5) = 0 ∨ X (9 + 8 * i + 5) = P (9 + 8 * i + 5) + 1) ∧ ∃ z, z ≤ 1000 * j ∧ acc = nI z
theorem WW_0 {P : Nat → Int32} : WW 0 P P 0 := ⟨fun _ _ _ _ => rfl, fun _ _ _ => rfl, fun i h => absurd h (by omega), 0, by omega, rfl⟩
theorem WW_step {j : Nat} {P X : Nat → Int32} {acc : Int32} (hj : j < 20) (hr : okR P j) (hc : ∀ r, r < 3 → ∃ k, k ≤ 1000 ∧ P (229 + 4 * r + 2) = nI k) (h : WW j P X acc) : WW (j + 1) P (fP_X7_waits X j) (acc + fR_X7_waits X j) := by
  obtain ⟨h1, h2, h3, z, h4, h5⟩ := h
  have e1 : X (9 + 8 * j + 1) = P (9 + 8 * j + 1) := h1 _ (by omega) (fun i hi => by omega) (fun r hr => by omega)
  have epr : pr X j = pr P j := pr_c e1
  have hp3 : pr X j < 3 := by rw [epr]; exact hr.2
  obtain ⟨k, k1, k2⟩ := hc (pr X j) hp3
  have eX2 : X (229 + 4 * pr X j + 2) = nI k := by rw [h1 _ (by omega) (fun i hi => by omega) (fun r hr => by omega)]; exact k2
  have hR : ∃ y, y ≤ 1000 ∧ fR_X7_waits X j = nI y := by
    rw [(waits_f (P := X) hj).1, eX2]
    split <;> split
    · exact ⟨k, k1, rfl⟩
    · exact ⟨0, by omega, rfl⟩
    · exact ⟨k, k1, rfl⟩
    · exact ⟨0, by omega, rfl⟩
  obtain ⟨y, y1, y2⟩ := hR
  have h5' : X (9 + 8 * j + 5) = P (9 + 8 * j + 5) := h2 j (by omega) hj
  have hw5 : fP_X7_waits X j (9 + 8 * j + 5) = 0 ∨ fP_X7_waits X j (9 + 8 * j + 5) = P (9 + 8 * j + 5) + 1 := by
    rw [(waits_f (P := X) hj).2, ← h5']
    split <;> split
    · exact Or.inl (by rw [upd_n (by omega), upd_n (by omega), upd_s])
    · exact Or.inl upd_s
    · exact Or.inr (by rw [upd_n (by omega), upd_n (by omega), upd_s])
    · exact Or.inr upd_s
  refine ⟨fun x a b d => ?_, fun i hi1 hi2 => ?_, fun i hi => ?_, z + y, by omega, by rw [h5, y2, nI_add]⟩
  · rw [fr_waits (b j hj) a (d _ hp3)]
    exact h1 x a b d
  · rw [fr_waits (by omega) (by omega) (by omega)]
    exact h2 i (by omega) hi2
  · by_cases e : i = j
    · subst e
      exact hw5
    · rw [fr_waits (by omega) (by omega) (by omega)]
      exact h3 i (by omega)
theorem wt_W {n : Nat} {P : Nat → Int32} (hn : n ≤ 20) (hr : ∀ i, i < n → okR P i) (hc : ∀ r, r < 3 → ∃ k, k ≤ 1000 ∧ P (229 + 4 * r + 2) = nI k) : ∀ (k : Nat) (acc : Int32) (j : Nat) (X : Nat → Int32), j + k = n → WW j P X acc → WW n P (wtP k j X) (wtR k acc j X)
  | 0, acc, j, X, hk, h => by
    have e : j = n := by omega
    subst e
    exact h
  | k + 1, acc, j, X, hk, h => wt_W hn hr hc k _ (j + 1) _ (by omega) (WW_step (by omega) (hr j (by omega)) hc h)
/-- an hour, from P to X -/
def frH (x : Nat) : Prop := x = 1 ∨ x = 2 ∨ x = 4 ∨ x = 7 ∨ (∃ i k, i < 20 ∧ (k = 0 ∨ k = 1) ∧ x = 9 + 8 * i + k) ∨ (∃ p k, p < 3 ∧ (k = 0 ∨ k = 1 ∨ k = 3 ∨ (8 ≤ k ∧ k < 20)) ∧ x = 169 + 20 * p + k) ∨ ∃ r k, r < 3 ∧ k < 3 ∧ x = 229 + 4 * r + k
theorem frH_frm {x : Nat} (h : frH x) : frm x ∧ (∀ i, i < 20 → x ≠ 9 + 8 * i + 2 ∧ x ≠ 9 + 8 * i + 3 ∧ x ≠ 9 + 8 * i + 4) ∧ x ≠ 5 ∧ (∀ i, i < 20 → x ≠ 9 + 8 * i + 5) ∧ (∀ r, r < 3 → x ≠ 229 + 4 * r + 3) ∧ x ≠ 0 ∧ x ≠ 6 := by
  refine ⟨?_, fun i hi => ⟨?_, ?_, ?_⟩, ?_, fun i hi => ?_, fun r hr => ?_, ?_, ?_⟩
  · rcases h with rfl | rfl | rfl | rfl | ⟨i', k, a1, a2, rfl⟩ | ⟨p, k, a1, a2, rfl⟩ | ⟨r', k, a1, a2, rfl⟩
    · exact Or.inr (Or.inl rfl)
    · exact Or.inr (Or.inr (Or.inl rfl))
    · exact Or.inr (Or.inr (Or.inr (Or.inl rfl)))
    · exact Or.inr (Or.inr (Or.inr (Or.inr (Or.inr (Or.inr (Or.inl rfl))))))
    · exact Or.inr (Or.inr (Or.inr (Or.inr (Or.inr (Or.inr (Or.inr (Or.inl ⟨i', k, a1, by omega, rfl⟩)))))))
    · exact Or.inr (Or.inr (Or.inr (Or.inr (Or.inr (Or.inr (Or.inr (Or.inr (Or.inl ⟨p, k, a1, a2, rfl⟩))))))))
    · exact Or.inr (Or.inr (Or.inr (Or.inr (Or.inr (Or.inr (Or.inr (Or.inr (Or.inr (by omega)))))))))
  all_goals rcases h with rfl | rfl | rfl | rfl | ⟨i', k, a1, a2, rfl⟩ | ⟨p, k, a1, a2, rfl⟩ | ⟨r', k, a1, a2, rfl⟩ <;> omega
def HR (n m : Nat) (sp : Nat → Nat) (P X : Nat → Int32) (R : Int32) : Prop := (∀ x, frH x → X x = P x) ∧ X 0 = P 0 + 1 ∧ (∃ z, z ≤ 20000 ∧ X 6 = P 6 + nI z ∧ R = nI z) ∧ (∀ p, p < m → PQ sp P X p) ∧ (∀ i, i < 20 → SQ 36 P X i) ∧ X 8 + X 3 + ldS X m = P 8 + P 3 + ldS P m ∧ ∀ i, i < n → X (9 + 8 * i + 5) = 0 ∨ X (9 + 8 * i + 5) = P (9 + 8 * i + 5) + 1
theorem HR_hour {n m : Nat} {c sp : Nat → Nat} {P : Nat → Int32} {T S : Int32} (hI : hrI n m c P) (hQ : ∀ p, p < m → okQ P p) (hsp : ∀ p, p < m → P (169 + 20 * p + 0) = nI (sp p) ∧ sp p ≤ 5000) (hL : ∀ i, i < n → ∃ L, L ≤ 2000 ∧ P (9 + 8 * i + 0) = nI L) (hc : ∀ r, r < 3 → ∃ k, k ≤ 1000 ∧ P (229 + 4 * r + 2) = nI k) (hg : ∀ p, p < m → Pg P p) : HR n m sp P (fP_X7_hour P T S) (fR_X7_hour P T S) := by
  have hn : n ≤ 20 := by have := hI.1.1.2.1; have := hI.2.1; omega
  have hm : m ≤ 3 := by have := hI.1.1.2.2.2; have := hI.2.2.1; omega
  unfold fP_X7_hour fR_X7_hour
  rw [hI.2.1, (hs_2 n 0 P).1, (hs_2 n 0 P).2]
  have IA := wxL_I (T := T) (S := S) n 0 P (by omega) hI
  have fA : ∀ x, (∀ i, i < 20 → x ≠ 9 + 8 * i + 2 ∧ x ≠ 9 + 8 * i + 3 ∧ x ≠ 9 + 8 * i + 4) → wxL T S n 0 P x = P x := fun x hx => wxL_f hx n 0 P (by omega)
  generalize wxL T S n 0 P = A at IA fA ⊢
  rw [IA.2.2.1, (hs_27 m 0 A).1, (hs_27 m 0 A).2]
  have pA : ∀ p k, p < 3 → k < 20 → A (169 + 20 * p + k) = P (169 + 20 * p + k) := fun p k hp hk => fA _ (fun i hi => by omega)
  have QA : ∀ p, p < m → okQ A p := fun p hp => by
    unfold okQ
    rw [nc_c (pA p 3 (by omega) (by omega)), pA p 3 (by omega) (by omega)]
    exact hQ p hp
  have gA : ∀ p, p < m → Pg A p := fun p hp => Pg_f (fun k hk => pA p k (by omega) hk) (fun i hi => fA _ (fun i' hi' => by omega)) (hrI_rt hI hp (hQ p hp)) (hg p hp)
  obtain ⟨IB, b1, b2, -, b4, b5⟩ := pwL_W (sp := sp) hn hm QA (fun p hp => by rw [pA p 0 (by omega) (by omega)]; exact hsp p hp) (fun i hi => by rw [fA _ (fun i' hi' => by omega)]; exact hL i hi) m 0 A (by omega) IA (PW_0 gA)
  generalize pwL m 0 A = B at IB b1 b2 b4 b5 ⊢
  rw [IB.2.1, (hs_53 n 0 0 B).1, (hs_53 n 0 0 B).2]
  have fm : ∀ r, r < 3 → ∀ k, k < 4 → frm (229 + 4 * r + k) := fun r hr k hk => Or.inr (Or.inr (Or.inr (Or.inr (Or.inr (Or.inr (Or.inr (Or.inr (Or.inr (by omega)))))))))
  have hcB : ∀ r, r < 3 → ∃ k, k ≤ 1000 ∧ B (229 + 4 * r + 2) = nI k := fun r hr => by
    rw [b1 _ (fm r hr 2 (by omega)), fA _ (fun i hi => by omega)]
    exact hc r hr
  obtain ⟨w1, -, w3, z, z1, z2⟩ := wt_W hn (fun i hi => IB.1.2.1 i (by rw [IB.2.1]; exact hi)) hcB n 0 0 B (by omega) WW_0
  generalize wtP n 0 B = Cw at w1 w3 ⊢
  generalize wtR n 0 0 B = acc at z2 ⊢
  have fin : ∀ x, x ≠ 0 → x ≠ 6 → hfin acc Cw x = Cw x := fun x a b => by unfold hfin; rw [upd_n a, upd_n b]
  have f0 : hfin acc Cw 0 = Cw 0 + 1 := by unfold hfin; rw [upd_s, upd_n (by omega)]
  have f6 : hfin acc Cw 6 = Cw 6 + acc := by unfold hfin; rw [upd_n (by omega), upd_s]
  generalize hfin acc Cw = X at fin f0 f6 ⊢
  have cB : ∀ x, x ≠ 5 → (∀ i, i < 20 → x ≠ 9 + 8 * i + 5) → (∀ r, r < 3 → x ≠ 229 + 4 * r + 3) → x ≠ 0 → x ≠ 6 → X x = B x := fun x a b d e f => (fin x e f).trans (w1 x a b d)
  have pB : ∀ p k, p < 3 → k < 20 → X (169 + 20 * p + k) = B (169 + 20 * p + k) := fun p k hp hk => cB _ (by omega) (fun i hi => by omega) (fun r hr => by omega) (by omega) (by omega)
  have QB : ∀ p, p < m → okQ B p := fun p hp => by
    have e : B (169 + 20 * p + 3) = A (169 + 20 * p + 3) := b1 _ (Or.inr (Or.inr (Or.inr (Or.inr (Or.inr (Or.inr (Or.inr (Or.inr (Or.inl ⟨p, 3, by omega, by omega, rfl⟩)))))))))
    unfold okQ
    rw [nc_c e, e]
    exact QA p hp
  refine ⟨fun x hx => ?_, ?_, ⟨z, by omega, ?_, z2⟩, fun p hp => ?_, fun i hi => ?_, ?_, fun i hi => ?_⟩
  · obtain ⟨h1, h2, h3, h4, h5, h6, h7⟩ := frH_frm hx
    rw [cB x h3 h4 h5 h6 h7, b1 x h1, fA x h2]
  · rw [f0, w1 0 (by omega) (fun i hi => by omega) (fun r hr => by omega), b1 0 (Or.inl rfl), fA 0 (fun i hi => by omega)]
  · rw [f6, w1 6 (by omega) (fun i hi => by omega) (fun r hr => by omega), b1 6 (Or.inr (Or.inr (Or.inr (Or.inr (Or.inr (Or.inl rfl)))))), fA 6 (fun i hi => by omega), z2]
  · obtain ⟨⟨a, a1, a2⟩, ⟨b, d1, d2⟩, g', f'⟩ := b2 p hp
    refine ⟨⟨a, a1, by rw [pB p 7 (by omega) (by omega), a2, pA p 7 (by omega) (by omega)]⟩, ⟨b, d1, by rw [pB p 6 (by omega) (by omega), d2, pA p 6 (by omega) (by omega)]⟩, Pg_f (fun k hk => pB p k (by omega) hk) (fun i hi => cB _ (by omega) (fun i' hi' => by omega) (fun r hr => by omega) (by omega) (by omega)) (hrI_rt IB hp (QB p hp)) g', fun h0 => ?_⟩
    obtain ⟨q1, q2⟩ := f' (by rw [nc_c (pA p 3 (by omega) (by omega))]; exact h0)
    rw [pB p 2 (by omega) (by omega), pB p 7 (by omega) (by omega), q1, q2, pA p 2 (by omega) (by omega), pA p 7 (by omega) (by omega)]
    exact ⟨rfl, rfl⟩
  · obtain ⟨y, y1, y2, y3, y4⟩ := b4 i hi
    have e6 : A (9 + 8 * i + 6) = P (9 + 8 * i + 6) := fA _ (fun i' hi' => by omega)
    have e7 : A (9 + 8 * i + 7) = P (9 + 8 * i + 7) := fA _ (fun i' hi' => by omega)
    have x6 : X (9 + 8 * i + 6) = B (9 + 8 * i + 6) := cB _ (by omega) (fun i' hi' => by omega) (fun r hr => by omega) (by omega) (by omega)
    have x7 : X (9 + 8 * i + 7) = B (9 + 8 * i + 7) := cB _ (by omega) (fun i' hi' => by omega) (fun r hr => by omega) (by omega) (by omega)
    exact ⟨y, by omega, by rw [x6, y2, e6], fun h => by rw [x7, y3 h, e7], fun h => by rw [x7, y4 h, fA 0 (fun i hi => by omega)]⟩
  · rw [cB 8 (by omega) (fun i hi => by omega) (fun r hr => by omega) (by omega) (by omega), cB 3 (by omega) (fun i hi => by omega) (fun r hr => by omega) (by omega) (by omega), ldS_f (X := B) (Y := X) m (fun p hp => pB p 2 (by omega) (by omega)), b5, fA 8 (fun i hi => by omega), fA 3 (fun i hi => by omega), ldS_f (X := P) (Y := A) m (fun p hp => pA p 2 (by omega) (by omega))]
  · have e5 : B (9 + 8 * i + 5) = P (9 + 8 * i + 5) := by
      rw [b1 _ (Or.inr (Or.inr (Or.inr (Or.inr (Or.inr (Or.inr (Or.inr (Or.inl ⟨i, 5, by omega, by omega, rfl⟩)))))))), fA _ (fun i' hi' => by omega)]
    rw [fin _ (by omega) (by omega), ← e5]
    exact w3 i hi
