/-! A trial on which two places are exchanged can be walked. -/
theorem nc_copy {P O : Nat → Int32} {q : Nat} (hO : okN O) (hq : q < np O) : nc (fP_X0_copyFrom P O) q = nc O q := by
  unfold nc
  rw [ag_p (copy_ag hO) hq 3 (by omega)]
theorem np_copy {P O : Nat → Int32} (hO : okN O) : np (fP_X0_copyFrom P O) = np O := np_c (ag_c (copy_ag hO) (by decide) (by decide))
theorem okQ_copy {P O : Nat → Int32} {q : Nat} (hO : okN O) (hq : q < np O) (hQ : okQ O q) : okQ (fP_X0_copyFrom P O) q := by
  unfold okQ
  rw [nc_copy hO hq, ag_p (copy_ag hO) hq 3 (by omega)]
  exact hQ
theorem WF_swapE {P O : Nat → Int32} {q k : Nat} (hI : hrI (ns O) (np O) (nc O) O) (hQ : ∀ q, q < np O → okQ O q) (hq : q < np O) (hk : k + 1 < nc O q) : WF (fP_X1_swapWithNext (fP_X0_copyFrom P O) q k) := by
  rw [swap_eq]
  exact WF_exchanges (by rw [np_copy hI.1.1]; exact hq) (by rw [nc_copy hI.1.1 hq]; exact hk) (okQ_copy hI.1.1 hq (hQ q hq)) (hrI_copy hI hQ).1
