/-- copying, as a function -/
def brg (src : Nat → Int32) (fa ta : Nat) : Nat → Nat → (Nat → Int32) → Nat → Int32
  | 0, _, X => X
  | k + 1, j, X => brg src fa ta k (j + 1) (upd X (ta + j) (src (fa + j)))
theorem brg_v {src : Nat → Int32} {fa ta : Nat} : ∀ (k j : Nat) (X : Nat → Int32) (i : Nat), brg src fa ta k j X i = if ta + j ≤ i ∧ i < ta + j + k then src (fa + (i - ta)) else X i
  | 0, j, X, i => by rw [brg, if_neg (by omega)]
  | k + 1, j, X, i => by
    rw [brg, brg_v k (j + 1)]
    by_cases h1 : i = ta + j
    · subst h1
      rw [if_neg (by omega), upd_s, if_pos (by omega), show fa + (ta + j - ta) = fa + j by omega]
    · rw [upd_n h1]
      by_cases h2 : ta + j ≤ i ∧ i < ta + j + (k + 1)
      · rw [if_pos h2, if_pos (by omega)]
      · rw [if_neg h2, if_neg (by omega)]
theorem bmv_L {P : Nat → Int32} {fa ta : Nat} : ∀ (k j : Nat) (X : Nat → Int32), fV_X7_bring_mv_L3 P fa ta k j X = brg P fa ta k j X
  | 0, _, _ => rfl
  | k + 1, j, X => by rw [fV_X7_bring_mv_L3, brg]; exact bmv_L k (j + 1) _
theorem bms_L {P : Nat → Int32} {fa ta : Nat} : ∀ (k j : Nat) (X : Nat → Int32), fS_X7_bring_ms_L3 P fa ta k j X = brg P fa ta k j X
  | 0, _, _ => rfl
  | k + 1, j, X => by rw [fS_X7_bring_ms_L3, brg]; exact bms_L k (j + 1) _
theorem bsm_L {S : Nat → Int32} {fa ta : Nat} : ∀ (k j : Nat) (X : Nat → Int32), fP_X7_bring_sm_L3 S fa ta k j X = brg S fa ta k j X
  | 0, _, _ => rfl
  | k + 1, j, X => by rw [fP_X7_bring_sm_L3, brg]; exact bsm_L k (j + 1) _
theorem bvm_L {V : Nat → Int32} {fa ta : Nat} : ∀ (k j : Nat) (X : Nat → Int32), fP_X7_bring_vm_L3 V fa ta k j X = brg V fa ta k j X
  | 0, _, _ => rfl
  | k + 1, j, X => by rw [fP_X7_bring_vm_L3, brg]; exact bvm_L k (j + 1) _
theorem bring_mv_v {P V : Nat → Int32} {fa ta i : Nat} : fV_X7_bring_mv P V fa ta i = if ta ≤ i ∧ i < ta + 241 then P (fa + (i - ta)) else V i := by
  unfold fV_X7_bring_mv
  rw [bmv_L, brg_v]
  rfl
theorem bring_ms_v {P S : Nat → Int32} {fa ta i : Nat} : fS_X7_bring_ms P S fa ta i = if ta ≤ i ∧ i < ta + 241 then P (fa + (i - ta)) else S i := by
  unfold fS_X7_bring_ms
  rw [bms_L, brg_v]
  rfl
theorem bring_sm_v {P S : Nat → Int32} {fa ta i : Nat} : fP_X7_bring_sm P S fa ta i = if ta ≤ i ∧ i < ta + 241 then S (fa + (i - ta)) else P i := by
  unfold fP_X7_bring_sm
  rw [bsm_L, brg_v]
  rfl
theorem bring_vm_v {P V : Nat → Int32} {fa ta i : Nat} : fP_X7_bring_vm P V fa ta i = if ta ≤ i ∧ i < ta + 241 then V (fa + (i - ta)) else P i := by
  unfold fP_X7_bring_vm
  rw [bvm_L, brg_v]
  rfl
theorem bring_ms {P S : Nat → Int32} {j : Nat} (hj : j < 241) : fS_X7_bring_ms P S 0 0 j = P j := by
  rw [bring_ms_v, if_pos (by omega)]
  congr 1
  omega
theorem bring_back {P P1 S : Nat → Int32} (hS : ∀ j, j < 241 → S j = P j) (h1 : ∀ j, 241 ≤ j → P1 j = P j) : fP_X7_bring_sm P1 S 0 0 = P := by
  funext j
  rw [bring_sm_v]
  by_cases h : j < 241
  · rw [if_pos (by omega), show 0 + (j - 0) = j by omega]
    exact hS j h
  · rw [if_neg (by omega)]
    exact h1 j (by omega)
/-- what lies behind a page stays -/
theorem fb_L53 {tmp sn : Int32} {x : Nat} (hx : 241 ≤ x) : ∀ (k : Nat) (acc : Int32) (j : Nat) (P : Nat → Int32), WF P → j + k ≤ ns P → fP_X7_hour_L53 tmp sn k acc j P x = P x
  | 0, acc, j, P, _, _ => by
    rw [fP_X7_hour_L53]
    (try dsimp only)
    rw [upd_n (by omega), upd_n (by omega)]
  | k + 1, acc, j, P, h, hk => by
    rw [fP_X7_hour_L53]
    (try dsimp only)
    have h20 := h.1.2.1
    have hr := (h.2.1 j (by omega)).2
    rw [fb_L53 hx k _ (j + 1) _ (WF_waits (i := j) (by omega) h) (by rw [ns_c ns_waits.1]; omega)]
    exact fr_waits (by omega) (by omega) (by omega)
theorem fb_L27 {tmp sn : Int32} {x : Nat} (hx : 241 ≤ x) : ∀ (k j : Nat) (P : Nat → Int32), WF P → j + k = np P → fP_X7_hour_L27 tmp sn k j P x = P x
  | 0, j, P, h, _ => by
    rw [fP_X7_hour_L27]
    exact fb_L53 hx _ _ _ _ h (by omega)
  | k + 1, j, P, h, hk => by
    rw [fP_X7_hour_L27]
    (try dsimp only)
    have hj : j < np P := by omega
    have hp3 := h.1.2.2.2
    rw [fb_L27 hx k (j + 1) _ (WF_plows hj h) (by rw [np_c (ns_plows hj h).2]; omega)]
    refine (plows_W (h.2.2 j hj)).2 x ⟨fun i hi => ?_, ?_, ?_, ?_, ?_, ?_, ?_, ?_⟩ <;> omega
theorem fb_L2 {tmp sn : Int32} {x : Nat} (hx : 241 ≤ x) : ∀ (k j : Nat) (P : Nat → Int32), WF P → j + k ≤ 20 → fP_X7_hour_L2 tmp sn k j P x = P x
  | 0, j, P, h, _ => by
    rw [fP_X7_hour_L2]
    exact fb_L27 hx _ _ _ h (by omega)
  | k + 1, j, P, h, hk => by
    rw [fP_X7_hour_L2]
    (try dsimp only)
    rw [fb_L2 hx k (j + 1) _ (WF_weather (i := j) (tmp := tmp) (sn := sn) (by omega) h) (by omega)]
    exact fr_weather (by omega) (by omega) (by omega)
theorem fr_hour {P : Nat → Int32} {tmp sn : Int32} {j : Nat} (h : WF P) (hj : 241 ≤ j) : fP_X7_hour P tmp sn j = P j := fb_L2 hj _ _ _ h (by have := h.1.2.1; omega)
theorem hours_L {tmp sn : Int32} {many : Nat} : ∀ (k : Nat) (acc : Int32) (j : Nat) (P : Nat → Int32), WF P → WF (fP_X7_hours_L6 tmp sn many k acc j P) ∧ (∀ x, 241 ≤ x → fP_X7_hours_L6 tmp sn many k acc j P x = P x) ∧ fP_X7_hours_L6 tmp sn many k acc j P 1 = P 1 ∧ fP_X7_hours_L6 tmp sn many k acc j P 2 = P 2
  | 0, acc, j, P, h => by
    rw [fP_X7_hours_L6]
    exact ⟨h, fun _ _ => rfl, rfl, rfl⟩
  | k + 1, acc, j, P, h => by
    rw [fP_X7_hours_L6]
    (try dsimp only)
    obtain ⟨a, b, c, d⟩ := hours_L k (acc + fR_X7_hour P tmp sn) (j + 1) _ (WF_hour (tmp := tmp) (sn := sn) h)
    exact ⟨a, fun x hx => (b x hx).trans (fr_hour h hx), c.trans (ns_hour h).1, d.trans (ns_hour h).2⟩
theorem WF_hours {P : Nat → Int32} {tmp sn : Int32} {many : Nat} (h : WF P) : WF (fP_X7_hours P tmp sn many) := (hours_L _ _ _ _ h).1
theorem fr_hours {P : Nat → Int32} {tmp sn : Int32} {many j : Nat} (h : WF P) (hj : 241 ≤ j) : fP_X7_hours P tmp sn many j = P j := (hours_L _ _ _ _ h).2.1 j hj
theorem ns_hours {P : Nat → Int32} {tmp sn : Int32} {many : Nat} (h : WF P) : fP_X7_hours P tmp sn many 1 = P 1 ∧ fP_X7_hours P tmp sn many 2 = P 2 := (hours_L _ _ _ _ h).2.2
theorem credits_id {P S : Nat → Int32} {tmp sn : Int32} {many : Nat} (h : WF P) : fP_X7_bring_sm (fP_X7_hours P tmp sn many) (fS_X7_bring_ms P S 0 0) 0 0 = P := bring_back (fun j hj => bring_ms hj) (fun j hj => fr_hours h hj)
theorem exch_v {P : Nat → Int32} {q k j : Nat} : fP_X7_exchanges P q k j = if j = 169 + 20 * q + 8 + k then P (169 + 20 * q + 8 + k + 1) else if j = 169 + 20 * q + 8 + k + 1 then P (169 + 20 * q + 8 + k) else P j := by
  unfold fP_X7_exchanges
  (try dsimp only)
  by_cases h1 : j = 169 + 20 * q + 8 + k
  · subst h1
    rw [upd_n (by omega), upd_s, if_pos rfl]
  · rw [if_neg h1]
    by_cases h2 : j = 169 + 20 * q + 8 + k + 1
    · subst h2
      rw [upd_s, if_pos rfl]
    · rw [upd_n h2, upd_n h1, if_neg h2]
theorem exch2 {P : Nat → Int32} {q k : Nat} (_hk : k + 1 < 12) : fP_X7_exchanges (fP_X7_exchanges P q k) q k = P := by
  funext j
  rw [exch_v]
  by_cases h1 : j = 169 + 20 * q + 8 + k
  · subst h1
    rw [if_pos rfl, exch_v, if_neg (by omega), if_pos rfl]
  · rw [if_neg h1]
    by_cases h2 : j = 169 + 20 * q + 8 + k + 1
    · subst h2
      rw [if_pos rfl, exch_v, if_pos rfl]
    · rw [if_neg h2, exch_v, if_neg h1, if_neg h2]
theorem WF_exchanges {P : Nat → Int32} {q k : Nat} (hq : q < np P) (hk : k + 1 < nc P q) (hQ : okQ P q) (h : WF P) : WF (fP_X7_exchanges P q k) := by
  obtain ⟨a1, a2, a3⟩ := id h
  have n1 := a1.2.1
  have n2 := a1.2.2.2
  have h12 := hQ.2
  have fr : ∀ j, j ≠ 169 + 20 * q + 8 + k → j ≠ 169 + 20 * q + 8 + k + 1 → fP_X7_exchanges P q k j = P j := fun j h1 h2 => by rw [exch_v, if_neg h1, if_neg h2]
  have e1 := fr 1 (by omega) (by omega)
  have e2 := fr 2 (by omega) (by omega)
  refine ⟨okN_c e1 e2 a1, fun i hi => ?_, fun q' hq' hc => ?_⟩
  · rw [ns_c e1] at hi
    exact okR_c (fr _ (by omega) (by omega)) (a2 i hi)
  · rw [np_c e2] at hq'
    have e3 := fr (169 + 20 * q' + 3) (by omega) (by omega)
    have e4 := fr (169 + 20 * q' + 4) (by omega) (by omega)
    rw [e3] at hc
    obtain ⟨b1, b2, b3, b4, b5⟩ := a3 q' hq' hc
    have es : ∀ i, i < 20 → fP_X7_exchanges P q k (9 + 8 * i + 1) = P (9 + 8 * i + 1) := fun i hi => fr _ (by omega) (by omega)
    refine ⟨by rw [nc_c e3, e3]; exact b1, by rw [nc_c e3]; exact b2, by rw [pa_c e4, e4]; exact b3, by rw [pa_c e4, nc_c e3]; exact b4, fun j hj => ?_⟩
    rw [nc_c e3] at hj
    have key : ∃ j', j' < nc P q' ∧ fP_X7_exchanges P q k (169 + 20 * q' + 8 + j) = P (169 + 20 * q' + 8 + j') := by
      rw [exch_v]
      by_cases h1 : 169 + 20 * q' + 8 + j = 169 + 20 * q + 8 + k
      · have hqq : q' = q := by omega
        subst hqq
        exact ⟨k + 1, hk, by rw [if_pos h1]; rfl⟩
      · rw [if_neg h1]
        by_cases h2 : 169 + 20 * q' + 8 + j = 169 + 20 * q + 8 + k + 1
        · have hqq : q' = q := by omega
          subst hqq
          exact ⟨k, by omega, by rw [if_pos h2]⟩
        · exact ⟨j, hj, by rw [if_neg h2]⟩
    obtain ⟨j', hj', ej⟩ := key
    obtain ⟨g1, g2, g3⟩ := b5 j' hj'
    have er : rt (fP_X7_exchanges P q k) q' j = rt P q' j' := by unfold rt; rw [ej]
    rw [er, ej]
    exact ⟨g1, g2, okR_c (es _ g2) g3⟩
theorem isPair_nn {P : Nat → Int32} {q j : Nat} (hj : j < 2 ^ 31) (hQ : okQ P q) (h : ¬ fR_X7_isPair P q (nI j) = 0) : j + 1 < nc P q ∧ j + 1 < 12 := by
  have h1 := isPair_n hQ h
  rw [nI_clamp hj] at h1
  exact h1.2
theorem WF_speed {P : Nat → Int32} {q : Nat} {x : Int32} (hq : q < 3) (h : WF P) : WF (upd P (169 + 20 * q + 0) x) := WF_c (fun j hj => upd_n (by
  rcases hj with rfl | rfl | ⟨i, hi, rfl⟩ | ⟨q, hq, rfl | rfl | ⟨r, hr, rfl⟩⟩ <;> omega)) h
