theorem pr_c {P P' : Nat → Int32} {i : Nat} (h : P' (9 + 8 * i + 1) = P (9 + 8 * i + 1)) : pr P' i = pr P i := by unfold pr; rw [h]
theorem okR_c {P P' : Nat → Int32} {i : Nat} (h : P' (9 + 8 * i + 1) = P (9 + 8 * i + 1)) (hp : okR P i) : okR P' i := by
  unfold okR
  rw [pr_c h, h]
  exact hp
theorem ns_c {P P' : Nat → Int32} (h : P' 1 = P 1) : ns P' = ns P := by unfold ns; rw [h]
theorem np_c {P P' : Nat → Int32} (h : P' 2 = P 2) : np P' = np P := by unfold np; rw [h]
theorem okN_c {P P' : Nat → Int32} (h1 : P' 1 = P 1) (h2 : P' 2 = P 2) (h : okN P) : okN P' := by
  unfold okN
  rw [ns_c h1, np_c h2, h1, h2]
  exact h
theorem nc_c {P P' : Nat → Int32} {q : Nat} (h : P' (169 + 20 * q + 3) = P (169 + 20 * q + 3)) : nc P' q = nc P q := by unfold nc; rw [h]
theorem pa_c {P P' : Nat → Int32} {q : Nat} (h : P' (169 + 20 * q + 4) = P (169 + 20 * q + 4)) : pa P' q = pa P q := by unfold pa; rw [h]
theorem rt_c {P P' : Nat → Int32} {q j : Nat} (h : P' (169 + 20 * q + 8 + j) = P (169 + 20 * q + 8 + j)) : rt P' q j = rt P q j := by unfold rt; rw [h]
/-- places and priorities stay, the plow's place is one of its places -/
theorem okW_c {P P' : Nat → Int32} {q : Nat} (h3 : P' (169 + 20 * q + 3) = P (169 + 20 * q + 3)) (hr : ∀ j, j < 12 → P' (169 + 20 * q + 8 + j) = P (169 + 20 * q + 8 + j)) (hs : ∀ i, i < 20 → P' (9 + 8 * i + 1) = P (9 + 8 * i + 1)) (h4 : P' (169 + 20 * q + 4) = nI (pa P' q)) (h5 : pa P' q < nc P q) (h : okW P q) : okW P' q := by
  obtain ⟨a1, a2, -, -, a5⟩ := h
  refine ⟨by rw [nc_c h3, h3]; exact a1, by rw [nc_c h3]; exact a2, h4, by rw [nc_c h3]; exact h5, fun j hj => ?_⟩
  rw [nc_c h3] at hj
  obtain ⟨b1, b2, b3⟩ := a5 j hj
  rw [rt_c (hr j (by omega)), hr j (by omega)]
  exact ⟨b1, b2, okR_c (hs _ b2) b3⟩
theorem okW_k {P P' : Nat → Int32} {q : Nat} (h3 : P' (169 + 20 * q + 3) = P (169 + 20 * q + 3)) (h4 : P' (169 + 20 * q + 4) = P (169 + 20 * q + 4)) (hr : ∀ j, j < 12 → P' (169 + 20 * q + 8 + j) = P (169 + 20 * q + 8 + j)) (hs : ∀ i, i < 20 → P' (9 + 8 * i + 1) = P (9 + 8 * i + 1)) (h : okW P q) : okW P' q :=
  okW_c h3 hr hs (by rw [pa_c h4, h4]; exact h.2.2.1) (by rw [pa_c h4]; exact h.2.2.2.1) h
