/-! What is known at the start. -/
theorem ka_start {args : Array Value} {s : State} (hts : ∀ w ∈ lw_tbl, w.before args s = true) : Ka s :=
  ⟨⟨va_AO.of (hts (.arrayOver (.object RX3)) (by decide +kernel)), va_AO.of (hts (.arrayOver (.object RX1)) (by decide +kernel)), va_AO.of (hts (.arrayOver (.object RX4)) (by decide +kernel)), va_AO.of (hts (.arrayOver (.object RX0)) (by decide +kernel))⟩, va_Nw.of rfl (hts (.methodLinkNest RX0 39 yX3_init RX6) (by decide +kernel)), va_Nw.of rfl (hts (.methodLinkNest RX0 40 yX1_init RX6) (by decide +kernel)), va_Nw.of rfl (hts (.methodLinkNest RX6 28 yX5_init RX6) (by decide +kernel))⟩
theorem arr_o {args : Array Value} {s : State} {C : String} (h : (Cond.arrayOver (.object C)).before args s = true) : ∃ cA : ClassId, ArrOfT s cA (.object C) ∧ va_RA s cA (.object C) := by
  obtain ⟨comp, c, k, h1, -, h3, h4, h5⟩ := Cond.arrayOver_spec h
  refine ⟨c, fun n z => ?_, k, comp, h3, h4, h1, h5⟩
  unfold State.isArrayOf
  simp [arrV, h3, h4]
theorem arr_p {args : Array Value} {s : State} {ty : FieldType} (h : (Cond.arrayClass ty).before args s = true) : ∃ cA : ClassId, ArrOfT s cA ty ∧ s.vm.findClass ("[" ++ ty.toString) = some cA := by
  obtain ⟨c, k, comp, h1, h3, h4⟩ := Cond.arrayClass_spec h
  refine ⟨c, fun n z => ?_, h1⟩
  unfold State.isArrayOf
  simp [arrV, h3, h4]
theorem kn_start {args : Array Value} {s : State} (hts : ∀ w ∈ AW, w.before args s = true) (hta : ∀ w ∈ lw_tbl, w.before args s = true) : ∃ D : va_G, Kn D s := by
  obtain ⟨c0, i0, k0⟩ := u_known (C := RX0) (T := TX0) (N := 11) (n := 11) hts awsX00 (hts _ qN_X0)
  obtain ⟨c1, i1, k1⟩ := u_known (C := RX1) (T := TX1) (N := 9) (n := 9) hts awsX10 (hts _ qN_X1)
  obtain ⟨c2, i2, k2⟩ := u_known (C := RX2) (T := TX2) (N := 2) (n := 2) hts awsX20 (hts _ qN_X2)
  obtain ⟨c3, i3, k3⟩ := u_known (C := RX3) (T := TX3) (N := 8) (n := 8) hts awsX30 (hts _ qN_X3)
  obtain ⟨c4, i4, k4⟩ := u_known (C := RX4) (T := TX4) (N := 4) (n := 4) hts awsX40 (hts _ qN_X4)
  obtain ⟨c5, i5, k5⟩ := u_known (C := RX5) (T := TX5) (N := 8) (n := 8) hts awsX50 (hts _ qN_X5)
  obtain ⟨c6, i6, k6⟩ := u_known (C := RX6) (T := TX6) (N := 4) (n := 4) hts awsX60 (hts _ qN_X6)
  obtain ⟨a0, b0, d0⟩ := arr_p (hts _ qA_int)
  obtain ⟨a1, b1, d1⟩ := arr_o (hta (.arrayOver (.object RX3)) (by decide +kernel))
  obtain ⟨a2, b2, d2⟩ := arr_o (hta (.arrayOver (.object RX1)) (by decide +kernel))
  obtain ⟨a3, b3, d3⟩ := arr_o (hta (.arrayOver (.object RX4)) (by decide +kernel))
  obtain ⟨a4, b4, d4⟩ := arr_o (hta (.arrayOver (.object RX0)) (by decide +kernel))
  refine ⟨(fun k => match k with | 0 => c0 | 1 => c1 | 2 => c2 | 3 => c3 | 4 => c4 | 5 => c5 | 6 => c6 | 100 => a0 | 101 => a1 | 102 => a2 | 103 => a3 | _ => a4, fun k => match k with | 0 => i0 | 1 => i1 | 2 => i2 | 3 => i3 | 4 => i4 | 5 => i5 | _ => i6), ?_, ?_⟩
  · intro k q hq
    match k, hq with
    | 0, hq => cases hq; exact k0
    | 1, hq => cases hq; exact k1
    | 2, hq => cases hq; exact k2
    | 3, hq => cases hq; exact k3
    | 4, hq => cases hq; exact k4
    | 5, hq => cases hq; exact k5
    | 6, hq => cases hq; exact k6
    | k + 7, hq => simp at hq
  · intro k q hq
    match k, hq with
    | 0, hq => cases hq; exact ⟨b0, d0⟩
    | 1, hq => cases hq; exact ⟨b1, d1⟩
    | 2, hq => cases hq; exact ⟨b2, d2⟩
    | 3, hq => cases hq; exact ⟨b3, d3⟩
    | 4, hq => cases hq; exact ⟨b4, d4⟩
    | k + 5, hq => simp at hq
