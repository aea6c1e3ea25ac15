theorem isPlow_n {P : Nat → Int32} {x : Int32} (hN : okN P) (h : ¬ fR_X7_isPlow P x = 0) : x = nI x.toNatClampNeg ∧ x.toNatClampNeg < np P := in_m1 hN.2.2.1 (by have := hN.2.2.2; omega) h
theorem isPlow_3 {P : Nat → Int32} {x : Int32} (hN : okN P) (h : ¬ fR_X7_isPlow P x = 0) : x.toNatClampNeg < 3 := by
  have h1 := (isPlow_n hN h).2
  have h2 := hN.2.2.2
  omega
theorem isStreet_n {P : Nat → Int32} {x : Int32} (hN : okN P) (h : ¬ fR_X7_isStreet P x = 0) : x = nI x.toNatClampNeg ∧ x.toNatClampNeg < ns P := in_m1 hN.1 (by have := hN.2.1; omega) h
theorem isStreet_20 {P : Nat → Int32} {x : Int32} (hN : okN P) (h : ¬ fR_X7_isStreet P x = 0) : x.toNatClampNeg < 20 := by
  have h1 := (isStreet_n hN h).2
  have h2 := hN.2.1
  omega
theorem isPair_n {P : Nat → Int32} {q : Nat} {x : Int32} (hQ : okQ P q) (h : ¬ fR_X7_isPair P q x = 0) : x = nI x.toNatClampNeg ∧ x.toNatClampNeg + 1 < nc P q ∧ x.toNatClampNeg + 1 < 12 := by
  have h12 := hQ.2
  have e : fR_X7_ofPlow P q 3 = nI (nc P q) := hQ.1
  unfold fR_X7_isPair at h
  rw [e] at h
  rcases (show nc P q = 0 ∨ ∃ n, nc P q = n + 1 by cases nc P q <;> simp) with hz | ⟨n, hn⟩
  · rw [hz] at h
    obtain ⟨a, b⟩ := in_v h
    exact absurd (Int32.lt_of_lt_of_le (show nI 0 - 2 < 0 by decide) (Int32.not_lt.mp a)) b
  · have e2 : nI (nc P q) - 2 = nI n - 1 := by
      rw [hn, nI_succ, show (2 : Int32) = 1 + 1 from by decide, ← Int32.sub_sub, Int32.add_sub_cancel]
    rw [e2] at h
    obtain ⟨a, b⟩ := in_m1 rfl (by omega) h
    exact ⟨a, by omega, by omega⟩
theorem ne12 {P : Nat → Int32} {q : Nat} (h1 : P (169 + 20 * q + 3) = nI (nc P q)) (h2 : nc P q ≤ 12) (h : ¬ fR_X7_ofPlow P q 3 = 12) : nc P q < 12 := by
  rcases Nat.lt_or_ge (nc P q) 12 with h3 | h3
  · exact h3
  · have e : nc P q = 12 := by omega
    exact absurd (show P (169 + 20 * q + 3) = 12 by rw [h1, e]; rfl) h
