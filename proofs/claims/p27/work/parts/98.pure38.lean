/-! Ranges through an hour. -/
def rS (P : Nat → Int32) (i B : Nat) : Prop := ∃ L d w a, L ≤ 2000 ∧ d ≤ B ∧ w ≤ 100 ∧ a ≤ 100 ∧ P (9 + 8 * i + 0) = nI L ∧ P (9 + 8 * i + 2) = nI d ∧ P (9 + 8 * i + 3) = nI w ∧ P (9 + 8 * i + 4) = nI a
def rP (P : Nat → Int32) (q : Nat) : Prop := ∃ K b, K ≤ 5000 ∧ b ≤ K ∧ P (169 + 20 * q + 1) = nI K ∧ P (169 + 20 * q + 2) = nI b
def rO (m : Nat) (P : Nat → Int32) : Prop := (∀ q, q < m → rP P q) ∧ (∃ S, S ≤ 100000 ∧ P 3 = nI S) ∧ (∃ s, s ≤ 50 ∧ P 4 = nI s) ∧ limP P
def rng (n m B : Nat) (P : Nat → Int32) : Prop := (∀ i, i < n → rS P i B) ∧ rO m P
theorem rS_mono {P : Nat → Int32} {i B B' : Nat} (h : rS P i B) (hB : B ≤ B') : rS P i B' := by
  obtain ⟨L, d, w, a, h1, h2, h3, h4, h5⟩ := h
  exact ⟨L, d, w, a, h1, by omega, h3, h4, h5⟩
theorem rS_c {P P1 : Nat → Int32} {i B : Nat} (h0 : P1 (9 + 8 * i + 0) = P (9 + 8 * i + 0)) (h2 : P1 (9 + 8 * i + 2) = P (9 + 8 * i + 2)) (h3 : P1 (9 + 8 * i + 3) = P (9 + 8 * i + 3)) (h4 : P1 (9 + 8 * i + 4) = P (9 + 8 * i + 4)) (h : rS P i B) : rS P1 i B := by
  unfold rS
  rw [h0, h2, h3, h4]
  exact h
theorem rP_c {P P1 : Nat → Int32} {q : Nat} (h1 : P1 (169 + 20 * q + 1) = P (169 + 20 * q + 1)) (h2 : P1 (169 + 20 * q + 2) = P (169 + 20 * q + 2)) (h : rP P q) : rP P1 q := by
  unfold rP
  rw [h1, h2]
  exact h
theorem rO_c {m : Nat} {P P1 : Nat → Int32} (h12 : ∀ q, q < m → P1 (169 + 20 * q + 1) = P (169 + 20 * q + 1) ∧ P1 (169 + 20 * q + 2) = P (169 + 20 * q + 2)) (h3 : P1 3 = P 3) (h4 : P1 4 = P 4) (hl : ∀ r, r < 3 → P1 (229 + 4 * r + 1) = P (229 + 4 * r + 1)) (h : rO m P) : rO m P1 := by
  refine ⟨fun q hq => rP_c (h12 q hq).1 (h12 q hq).2 (h.1 q hq), ?_, ?_, limP_c hl h.2.2.2⟩
  · rw [h3]; exact h.2.1
  · rw [h4]; exact h.2.2.1
/-- a step that writes none of the places that have ranges -/
theorem rng_c {n m B : Nat} {P P1 : Nat → Int32} (hs : ∀ i k, i < n → (k = 0 ∨ k = 2 ∨ k = 3 ∨ k = 4) → P1 (9 + 8 * i + k) = P (9 + 8 * i + k)) (h12 : ∀ q k, q < m → (k = 1 ∨ k = 2) → P1 (169 + 20 * q + k) = P (169 + 20 * q + k)) (h3 : P1 3 = P 3) (h4 : P1 4 = P 4) (hl : ∀ r, r < 3 → P1 (229 + 4 * r + 1) = P (229 + 4 * r + 1)) (h : rng n m B P) : rng n m B P1 :=
  ⟨fun i hi => rS_c (hs i 0 hi (by omega)) (hs i 2 hi (by omega)) (hs i 3 hi (by omega)) (hs i 4 hi (by omega)) (h.1 i hi), rO_c (fun q hq => ⟨h12 q 1 hq (by omega), h12 q 2 hq (by omega)⟩) h3 h4 hl h.2⟩
theorem rng_goesOn {n m B q : Nat} {P : Nat → Int32} (hn : n ≤ 20) (hm : m ≤ 3) (hq : q < m) (h : rng n m B P) : rng n m B (fP_X7_goesOn P q) :=
  rng_c (fun i k hi hk => fr_goesOn (by omega) (by omega) (by omega)) (fun p k hp hk => fr_goesOn (by omega) (by omega) (by omega)) (fr_goesOn (by omega) (by omega) (by omega)) (fr_goesOn (by omega) (by omega) (by omega)) (fun r hr => fr_goesOn (by omega) (by omega) (by omega)) h
theorem rng_u2 {n m B q : Nat} {P : Nat → Int32} {x y : Int32} (hn : n ≤ 20) (hm : m ≤ 3) (hq : q < m) (h : rng n m B P) : rng n m B (upd (upd P (169 + 20 * q + 5) x) (169 + 20 * q + 7) y) :=
  rng_c (fun i k hi hk => by rw [upd_n (by omega), upd_n (by omega)]) (fun p k hp hk => by rw [upd_n (by omega), upd_n (by omega)]) (by rw [upd_n (by omega), upd_n (by omega)]) (by rw [upd_n (by omega), upd_n (by omega)]) (fun r hr => by rw [upd_n (by omega), upd_n (by omega)]) h
theorem rng_clears {n m B q i : Nat} {P : Nat → Int32} (hn : n ≤ 20) (hm : m ≤ 3) (hq : q < m) (hi : i < n) (h : rng n m B P) : rng n m B (fP_X7_clears P q i) := by
  obtain ⟨L, d, w, a, h1, h2, h3, h4, e0, e2, e3, e4⟩ := h.1 i hi
  obtain ⟨K, b, k1, k2, f1, f2⟩ := h.2.1 q hq
  obtain ⟨s, hs, es⟩ := h.2.2.2.1
  obtain ⟨a', b', g1, g2, g3, g4, g5⟩ := clears_r (q := q) (i := i) (by omega) e0 es e4 f2 h1 hs h4 (by omega)
  have fr : ∀ j, j ≠ 9 + 8 * i + 2 → j ≠ 9 + 8 * i + 4 → j ≠ 9 + 8 * i + 6 → j ≠ 9 + 8 * i + 7 → j ≠ 169 + 20 * q + 2 → j ≠ 8 → fP_X7_clears P q i j = P j := fun j a1 a2 a3 a4 a5 a6 => fr_clears a1 a2 a3 a4 a5 a6
  refine ⟨fun i' hi' => ?_, fun q' hq' => ?_, ?_, ?_, limP_c (fun r hr => fr _ (by omega) (by omega) (by omega) (by omega) (by omega) (by omega)) h.2.2.2.2⟩
  · by_cases e : i' = i
    · subst e
      exact ⟨L, 0, w, a', h1, by omega, h3, by omega, by rw [fr _ (by omega) (by omega) (by omega) (by omega) (by omega) (by omega)]; exact e0, g3, by rw [fr _ (by omega) (by omega) (by omega) (by omega) (by omega) (by omega)]; exact e3, g4⟩
    · exact rS_c (fr _ (by omega) (by omega) (by omega) (by omega) (by omega) (by omega)) (fr _ (by omega) (by omega) (by omega) (by omega) (by omega) (by omega)) (fr _ (by omega) (by omega) (by omega) (by omega) (by omega) (by omega)) (fr _ (by omega) (by omega) (by omega) (by omega) (by omega) (by omega)) (h.1 i' hi')
  · by_cases e : q' = q
    · subst e
      exact ⟨K, b', k1, by omega, by rw [fr _ (by omega) (by omega) (by omega) (by omega) (by omega) (by omega)]; exact f1, g5⟩
    · exact rP_c (fr _ (by omega) (by omega) (by omega) (by omega) (by omega) (by omega)) (fr _ (by omega) (by omega) (by omega) (by omega) (by omega) (by omega)) (h.2.1 q' hq')
  · rw [fr _ (by omega) (by omega) (by omega) (by omega) (by omega) (by omega)]; exact h.2.2.1
  · rw [fr _ (by omega) (by omega) (by omega) (by omega) (by omega) (by omega)]; exact h.2.2.2.1
theorem rng_plL {n m B q : Nat} {c : Nat → Nat} (hn : n ≤ 20) (hm : m ≤ 3) (hq : q < m) : ∀ (k : Nat) (mo mt : Int32) (P : Nat → Int32), rng n m B P → rtL n c q P → rng n m B (fP_X7_plows_L114 q k mo mt P)
  | 0, mo, mt, P, h, _ => by rw [fP_X7_plows_L114, ite_self]; exact h
  | k + 1, mo, mt, P, h, hR => by
    have hpa : pa P q < c q := by rw [← hR.2.1]; exact hR.1.2.2.2.1
    have hi := hR.2.2 _ hpa
    have hi20 := (hR.1.2.2.2.2 _ hR.1.2.2.2.1).2.1
    rw [fP_X7_plows_L114]
    (try dsimp only)
    generalize rt P q (pa P q) = i at hi hi20
    have hb : ∀ x y z, rng n m B (if upd (upd P (169 + 20 * q + 5) x) (169 + 20 * q + 7) y (169 + 20 * q + 5) = fR_X7_of (upd (upd P (169 + 20 * q + 5) x) (169 + 20 * q + 7) y) i 0 then fP_X7_plows_L114 q k (fR_X7_goesOn (fP_X7_clears (upd (upd P (169 + 20 * q + 5) x) (169 + 20 * q + 7) y) q i) q) z (fP_X7_goesOn (fP_X7_clears (upd (upd P (169 + 20 * q + 5) x) (169 + 20 * q + 7) y) q i) q) else fP_X7_plows_L114 q k mo z (upd (upd P (169 + 20 * q + 5) x) (169 + 20 * q + 7) y)) := fun x y z => by
      split
      · exact rng_plL hn hm hq k _ _ _ (rng_goesOn hn hm hq (rng_clears hn hm hq hi (rng_u2 hn hm hq h))) (rtL_go (rtL_cl hi20 (rtL_u2 hR)))
      · exact rng_plL hn hm hq k _ _ _ (rng_u2 hn hm hq h) (rtL_u2 hR)
    split
    · exact h
    split
    · exact h
    split
    · split
      · exact rng_plL hn hm hq k _ _ _ (rng_goesOn hn hm hq h) (rtL_go hR)
      · exact hb _ _ _
    · exact hb _ _ _
theorem rng_fill {n m B q : Nat} {P : Nat → Int32} (hn : n ≤ 20) (hm : m ≤ 3) (hq : q < m) (h : rng n m B P) : rng n m B (upd (upd P (169 + 20 * q + 2) (P (169 + 20 * q + 2) + fR_X7_lesser (P (169 + 20 * q + 1) - P (169 + 20 * q + 2)) (P 3))) 3 (upd P (169 + 20 * q + 2) (P (169 + 20 * q + 2) + fR_X7_lesser (P (169 + 20 * q + 1) - P (169 + 20 * q + 2)) (P 3)) 3 - fR_X7_lesser (P (169 + 20 * q + 1) - P (169 + 20 * q + 2)) (P 3))) := by
  obtain ⟨K, b, k1, k2, f1, f2⟩ := h.2.1 q hq
  obtain ⟨S, hS, eS⟩ := h.2.2.1
  have l1 : fR_X7_lesser (P (169 + 20 * q + 1) - P (169 + 20 * q + 2)) (P 3) = nI (min (K - b) S) := by
    rw [f1, f2, eS, pk_sub k2, less_n (by omega) (by omega)]
  rw [l1, upd_n (show (3 : Nat) ≠ 169 + 20 * q + 2 by omega), f2, eS, nI_add, pk_sub (Nat.min_le_right _ _)]
  refine ⟨fun i hi => rS_c (by rw [upd_n (by omega), upd_n (by omega)]) (by rw [upd_n (by omega), upd_n (by omega)]) (by rw [upd_n (by omega), upd_n (by omega)]) (by rw [upd_n (by omega), upd_n (by omega)]) (h.1 i hi), fun q' hq' => ?_, ⟨S - min (K - b) S, by omega, upd_s⟩, ?_, limP_c (fun r hr => by rw [upd_n (by omega), upd_n (by omega)]) h.2.2.2.2⟩
  · by_cases e : q' = q
    · subst e
      exact ⟨K, b + min (K - b) S, k1, by omega, by rw [upd_n (by omega), upd_n (by omega)]; exact f1, by rw [upd_n (by omega), upd_s]⟩
    · exact rP_c (by rw [upd_n (by omega), upd_n (by omega)]) (by rw [upd_n (by omega), upd_n (by omega)]) (h.2.1 q' hq')
  · rw [upd_n (by omega), upd_n (by omega)]; exact h.2.2.2.1
theorem rng_plows {n m B q : Nat} {c : Nat → Nat} {P : Nat → Int32} (hn : n ≤ 20) (hm : m ≤ 3) (hq : q < m) (h : rng n m B P) (hR : ¬ P (169 + 20 * q + 3) ≤ 0 → rtL n c q P) : rng n m B (fP_X7_plows P q) := by
  unfold fP_X7_plows
  (try dsimp only)
  split
  · rw [plL0]; exact h
  · rename_i h3
    split
    · split
      · exact rng_plL hn hm hq _ _ _ _ (rng_fill hn hm hq h) (rtL_k (hR h3) (plows_j (hR h3).1).1 (by rw [upd_n (by omega), upd_n (by omega)]) (fun j _ => by rw [upd_n (by omega), upd_n (by omega)]))
      · exact rng_plL hn hm hq _ _ _ _ h (hR h3)
    · exact rng_plL hn hm hq _ _ _ _ h (hR h3)
theorem rng_waits {n m B i : Nat} {P : Nat → Int32} (hn : n ≤ 20) (hm : m ≤ 3) (hi : i < n) (h : rng n m B P) : rng n m B (fP_X7_waits P i) :=
  rng_c (fun i' k hi' hk => fr_waits (by omega) (by omega) (by omega)) (fun p k hp hk => fr_waits (by omega) (by omega) (by omega)) (fr_waits (by omega) (by omega) (by omega)) (fr_waits (by omega) (by omega) (by omega)) (fun r hr => fr_waits (by omega) (by omega) (by omega)) h
theorem rng_L53 {n m B : Nat} {tmp sn : Int32} (hn : n ≤ 20) (hm : m ≤ 3) : ∀ (k : Nat) (acc : Int32) (j : Nat) (P : Nat → Int32), rng n m B P → j + k ≤ n → rng n m B (fP_X7_hour_L53 tmp sn k acc j P)
  | 0, acc, j, P, h, _ => by
    rw [fP_X7_hour_L53]
    (try dsimp only)
    exact rng_c (fun i' k hi' hk => by rw [upd_n (by omega), upd_n (by omega)]) (fun p k hp hk => by rw [upd_n (by omega), upd_n (by omega)]) (by rw [upd_n (by omega), upd_n (by omega)]) (by rw [upd_n (by omega), upd_n (by omega)]) (fun r hr => by rw [upd_n (by omega), upd_n (by omega)]) h
  | k + 1, acc, j, P, h, hk => by
    rw [fP_X7_hour_L53]
    (try dsimp only)
    exact rng_L53 hn hm k _ _ _ (rng_waits hn hm (by omega) h) (by omega)
theorem rng_L27 {n m B : Nat} {c : Nat → Nat} {tmp sn : Int32} (hn : n ≤ 20) (hm : m ≤ 3) : ∀ (k j : Nat) (P : Nat → Int32), rng n m B P → hrI n m c P → j + k = m → rng n m B (fP_X7_hour_L27 tmp sn k j P)
  | 0, j, P, h, hI, _ => by
    rw [fP_X7_hour_L27, hI.2.1]
    exact rng_L53 hn hm _ _ _ _ h (by omega)
  | k + 1, j, P, h, hI, hk => by
    rw [fP_X7_hour_L27]
    (try dsimp only)
    exact rng_L27 hn hm k (j + 1) _ (rng_plows hn hm (by omega) h (hI.2.2.2 j (by omega))) (hrI_plows (by omega) hI) (by omega)
def tmpR (tmp : Int32) : Prop := (∃ t, 0 < t ∧ t ≤ 300 ∧ tmp = nI t) ∨ ∃ t, t ≤ 300 ∧ tmp = -(nI t)
theorem rng_L2 {n m B sz : Nat} {c : Nat → Nat} {tmp : Int32} (hn : n ≤ 20) (hm : m ≤ 3) (hB : B ≤ 300000) (hs : sz ≤ 100) (ht : tmpR tmp) : ∀ (k j : Nat) (P : Nat → Int32), (∀ i, j ≤ i → i < n → rS P i B) → (∀ i, i < j → rS P i (B + 100)) → rO m P → hrI n m c P → j + k = n → rng n m (B + 100) (fP_X7_hour_L2 tmp (nI sz) k j P)
  | 0, j, P, h1, h2, hO, hI, hk => by
    rw [fP_X7_hour_L2, hI.2.2.1]
    exact rng_L27 hn hm _ _ _ ⟨fun i hi => h2 i (by omega), hO⟩ hI (by omega)
  | k + 1, j, P, h1, h2, hO, hI, hk => by
    rw [fP_X7_hour_L2]
    (try dsimp only)
    obtain ⟨L, d, w, a, g1, g2, g3, g4, e0, e2, e3, e4⟩ := h1 j (Nat.le_refl _) (by omega)
    obtain ⟨d', w', a', q1, q2, q3, q4, q5, q6⟩ := weather_r (i := j) (s := sz) (tmp := tmp) e2 e3 e4 (by omega) g3 g4 hs ht
    have fr : ∀ x, x ≠ 9 + 8 * j + 2 → x ≠ 9 + 8 * j + 3 → x ≠ 9 + 8 * j + 4 → fP_X7_weather P j tmp (nI sz) x = P x := fun x a1 a2 a3 => fr_weather a1 a2 a3
    refine rng_L2 hn hm hB hs ht k (j + 1) _ (fun i h5 h6 => ?_) (fun i h5 => ?_) (rO_c (fun q hq => ⟨fr _ (by omega) (by omega) (by omega), fr _ (by omega) (by omega) (by omega)⟩) (fr _ (by omega) (by omega) (by omega)) (fr _ (by omega) (by omega) (by omega)) (fun r hr => fr _ (by omega) (by omega) (by omega)) hO) (hrI_weather (by omega) hI) (by omega)
    · exact rS_c (fr _ (by omega) (by omega) (by omega)) (fr _ (by omega) (by omega) (by omega)) (fr _ (by omega) (by omega) (by omega)) (fr _ (by omega) (by omega) (by omega)) (h1 i (by omega) h6)
    · by_cases e : i = j
      · subst e
        exact ⟨L, d', w', a', g1, by omega, q2, q3, by rw [fr _ (by omega) (by omega) (by omega)]; exact e0, q4, q5, q6⟩
      · exact rS_c (fr _ (by omega) (by omega) (by omega)) (fr _ (by omega) (by omega) (by omega)) (fr _ (by omega) (by omega) (by omega)) (fr _ (by omega) (by omega) (by omega)) (h2 i (by omega))
theorem rng_hour {n m B sz : Nat} {c : Nat → Nat} {tmp : Int32} {P : Nat → Int32} (hB : B ≤ 300000) (hs : sz ≤ 100) (ht : tmpR tmp) (h : rng n m B P) (hI : hrI n m c P) : rng n m (B + 100) (fP_X7_hour P tmp (nI sz)) := by
  have hn : n ≤ 20 := by have := hI.1.1.2.1; have := hI.2.1; omega
  have hm : m ≤ 3 := by have := hI.1.1.2.2.2; have := hI.2.2.1; omega
  unfold fP_X7_hour
  rw [hI.2.1]
  exact rng_L2 hn hm hB hs ht n 0 P (fun i _ hi => h.1 i hi) (fun i hi => by omega) h.2 hI (by omega)
