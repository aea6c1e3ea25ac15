theorem str_start {args : Array Value} {s : State} {own tx : String} {k : Nat} {C : String} (h1 : (Cond.stringRef own k tx).before args s = true) (h2 : (Cond.exactly (.string own k) C).before args s = true) : ∃ a : Nat, vk_R own k tx a s := by
  cases hv : (Term.string own k).eval args s none [] s with
  | none => simp [Cond.before, Cond.holds, Cond.value, hv] at h2
  | some z =>
    obtain ⟨a, e⟩ := Term.string_eval_ref hv
    exact ⟨a, vk_R.of h1 (by rw [hv, e])⟩
theorem kx_start {args : Array Value} {s : State} (hts : ∀ w ∈ lw_tbl, w.before args s = true) (hgv : (Jvm.Cond.and given_1 narrow_1).before args s = true) : Kx s.heap.size s := by
  have hs := flat_of_before _ hgv
  refine ⟨vx_Zqof (hts (.laysStatic Bundle.tN "UNASSIGNED_STACK" Bundle.steD) (by decide +kernel)) (hts (.initialized Bundle.tN) (by decide +kernel)) (hs (.isRef (.static Bundle.tN "UNASSIGNED_STACK" Bundle.steD)) (by decide +kernel)) (fun a h h2 => Nat.lt_irrefl _ (Nat.lt_of_lt_of_le h h2)), vx_Zqof (hts (.laysStatic Bundle.tN "SUPPRESSED_SENTINEL" Bundle.listD) (by decide +kernel)) (hts (.initialized Bundle.tN) (by decide +kernel)) (hs (.isRef (.static Bundle.tN "SUPPRESSED_SENTINEL" Bundle.listD)) (by decide +kernel)) (fun a h h2 => Nat.lt_irrefl _ (Nat.lt_of_lt_of_le h h2)), fun q hq => ?_, fun w hw => va_Nw.of (isDC_tab (exB_dc w hw)) (hts w (exB_in w hw)), fun i j h1 h2 h3 h4 h5 => ?_⟩
  · have hd : (exS.all fun q => decide (Cond.stringRef RX6 q.1 q.2 ∈ lw_tbl)) = true := by decide +kernel
    have he : (exS.all fun q => decide (Cond.exactly (.string RX6 q.1) "java/lang/String" ∈ flatC (Jvm.Cond.and given_1 narrow_1))) = true := by decide +kernel
    exact str_start (hts _ (of_decide_eq_true (List.all_eq_true.mp hd q hq))) (hs _ (of_decide_eq_true (List.all_eq_true.mp he q hq)))
  · rcases (show i = 1 ∨ i = 2 ∨ i = 3 by omega) with rfl | rfl | rfl <;> rcases (show j = 1 ∨ j = 2 ∨ j = 3 by omega) with rfl | rfl | rfl
    · exact absurd rfl h5
    · exact va_Nc.of (hs (.not (.castable (exN 1) (exN 2))) (by decide +kernel))
    · exact va_Nc.of (hs (.not (.castable (exN 1) (exN 3))) (by decide +kernel))
    · exact va_Nc.of (hs (.not (.castable (exN 2) (exN 1))) (by decide +kernel))
    · exact absurd rfl h5
    · exact va_Nc.of (hs (.not (.castable (exN 2) (exN 3))) (by decide +kernel))
    · exact va_Nc.of (hs (.not (.castable (exN 3) (exN 1))) (by decide +kernel))
    · exact va_Nc.of (hs (.not (.castable (exN 3) (exN 2))) (by decide +kernel))
    · exact absurd rfl h5
