theorem hdv_X3_copyFrom : yX3_copyFrom.cls = RX3 ∧ yX3_copyFrom.cls ≠ "java/lang/invoke/MethodHandle" ∧ yX3_copyFrom.cls ≠ "java/lang/invoke/VarHandle" ∧ (parseMethodDescriptor yX3_copyFrom.desc).map (fun d => d.parameters.length) = some 1 := by decide +kernel
def fP_X3_copyFrom (P : Nat → Int32) (O : Nat → Int32) (i : Nat) (j : Nat) : Nat → Int32 :=
  let x1 := O (9 + 8 * j + 0)
  let P2 := upd P (9 + 8 * i + 0) x1
  let x3 := O (9 + 8 * j + 1)
  let P4 := upd P2 (9 + 8 * i + 1) x3
  let x5 := O (9 + 8 * j + 2)
  let P6 := upd P4 (9 + 8 * i + 2) x5
  let x7 := O (9 + 8 * j + 3)
  let P8 := upd P6 (9 + 8 * i + 3) x7
  let x9 := O (9 + 8 * j + 4)
  let P10 := upd P8 (9 + 8 * i + 4) x9
  let x11 := O (9 + 8 * j + 5)
  let P12 := upd P10 (9 + 8 * i + 5) x11
  let x13 := O (9 + 8 * j + 6)
  let P14 := upd P12 (9 + 8 * i + 6) x13
  let x15 := O (9 + 8 * j + 7)
  let P16 := upd P14 (9 + 8 * i + 7) x15
  P16
set_option maxHeartbeats 4000000 in
set_option maxRecDepth 100000 in
theorem c_X3_copyFrom (l : Launch) (D : va_G) (b a : Nat) (P O : Nat → Int32) (i : Nat) (j : Nat) (hd : apart b a) (hi : i < 20) (hj : j < 20) : Met l yX3_copyFrom (wA yX3_copyFrom cX3_copyFrom 2 none) (rmL 0) (gPc D [.ref (b + 4 + i), .ref (a + 4 + j)] (fun H => Two D b a P O H)) (gQv (inG b) (fun H => Two D b a (fP_X3_copyFrom P O i j) O H)) 0 0 (inG b) := by
  refine Met.ofW (cc := cX3_copyFrom) (maxL := 2) (ret := none) (by decide) rfl ?_
  intro p e s m args below meth c s₁ B hml hv
  obtain ⟨hav, hG, hK⟩ := hv
  have hx := B.exec
  have hb := B.bytes
  have hr := B.returns
  have hts0 := atoms_spec (ws := wA yX3_copyFrom cX3_copyFrom 2 none) B.pre
  have hts : ∀ w ∈ AW, w.before _ s = true := fun w h => hts0 w (List.mem_cons_of_mem _ h)
  have hown : s.vm.findClass RX3 = some m.cls := findClass_of_methodNamed B.named
  have hlocks := B.notSynchronized
  have hA : ∀ q, (inG b) q → (inG b) q := fun _ h => h
  have hS : va_S (inG b) s.heap s.heap [] := va_S.rf
  have hG : Two D b a P O s.heap := hG
  have hl := lv_entry ([.ref (b + 4 + i), .ref (a + 4 + j)]) (n := 2) (Nat.le_of_ble_eq_true rfl)
  refine W.eq (g2 := entryFrame m ([.ref (b + 4 + i), .ref (a + 4 + j)] : List Value).toArray 2) (by rw [hav]) ?_
  rw [lg_entry_eq]
  generalize (lg_sl ([.ref (b + 4 + i), .ref (a + 4 + j)]) ++ List.replicate (2 - (lg_sl ([.ref (b + 4 + i), .ref (a + 4 + j)])).length) Slot.unset).toArray = ls at hl ⊢
  have hl : lv_has ls 2 [(0, .ref (b + 4 + i)), (1, .ref (a + 4 + j))] := hl
  have hO0 := hG.2
  refine lv_aload_n hx hb dX3_copyFrom_0 rfl (lv_at hl 0 rfl) ?_
  refine lv_aload_n hx hb dX3_copyFrom_1 rfl (lv_at hl 1 rfl) ?_
  refine getS 0 (i := j) hx hb hts hown hK hG.2 (by omega) (by decide) qF_X3_9 rfl dX3_copyFrom_2 ?_
  refine lv_topi (fun x1 ex1 => ?_)
  refine putS 0 (i := i) hx hb hts hown hK hG.1 hS hA (by omega) (by decide) qF_X3_9 rfl dX3_copyFrom_5 (fun H locs hG hS => ?_)
  have hG : Two D b a (upd P (9 + 8 * i + 0) x1) O H := ⟨hG, Graph.off hS hd hO0⟩
  generalize eP2 : upd P (9 + 8 * i + 0) x1 = P2 at hG
  refine lv_aload_n hx hb dX3_copyFrom_8 rfl (lv_at hl 0 rfl) ?_
  refine lv_aload_n hx hb dX3_copyFrom_9 rfl (lv_at hl 1 rfl) ?_
  refine getS 1 (i := j) hx hb hts hown hK hG.2 (by omega) (by decide) qF_X3_15 rfl dX3_copyFrom_10 ?_
  refine lv_topi (fun x3 ex3 => ?_)
  refine putS 1 (i := i) hx hb hts hown hK hG.1 hS hA (by omega) (by decide) qF_X3_15 rfl dX3_copyFrom_13 (fun H locs hG hS => ?_)
  have hG : Two D b a (upd P2 (9 + 8 * i + 1) x3) O H := ⟨hG, Graph.off hS hd hO0⟩
  generalize eP4 : upd P2 (9 + 8 * i + 1) x3 = P4 at hG
  refine lv_aload_n hx hb dX3_copyFrom_16 rfl (lv_at hl 0 rfl) ?_
  refine lv_aload_n hx hb dX3_copyFrom_17 rfl (lv_at hl 1 rfl) ?_
  refine getS 2 (i := j) hx hb hts hown hK hG.2 (by omega) (by decide) qF_X3_18 rfl dX3_copyFrom_18 ?_
  refine lv_topi (fun x5 ex5 => ?_)
  refine putS 2 (i := i) hx hb hts hown hK hG.1 hS hA (by omega) (by decide) qF_X3_18 rfl dX3_copyFrom_21 (fun H locs hG hS => ?_)
  have hG : Two D b a (upd P4 (9 + 8 * i + 2) x5) O H := ⟨hG, Graph.off hS hd hO0⟩
  generalize eP6 : upd P4 (9 + 8 * i + 2) x5 = P6 at hG
  refine lv_aload_n hx hb dX3_copyFrom_24 rfl (lv_at hl 0 rfl) ?_
  refine lv_aload_n hx hb dX3_copyFrom_25 rfl (lv_at hl 1 rfl) ?_
  refine getS 3 (i := j) hx hb hts hown hK hG.2 (by omega) (by decide) qF_X3_21 rfl dX3_copyFrom_26 ?_
  refine lv_topi (fun x7 ex7 => ?_)
  refine putS 3 (i := i) hx hb hts hown hK hG.1 hS hA (by omega) (by decide) qF_X3_21 rfl dX3_copyFrom_29 (fun H locs hG hS => ?_)
  have hG : Two D b a (upd P6 (9 + 8 * i + 3) x7) O H := ⟨hG, Graph.off hS hd hO0⟩
  generalize eP8 : upd P6 (9 + 8 * i + 3) x7 = P8 at hG
  refine lv_aload_n hx hb dX3_copyFrom_32 rfl (lv_at hl 0 rfl) ?_
  refine lv_aload_n hx hb dX3_copyFrom_33 rfl (lv_at hl 1 rfl) ?_
  refine getS 4 (i := j) hx hb hts hown hK hG.2 (by omega) (by decide) qF_X3_24 rfl dX3_copyFrom_34 ?_
  refine lv_topi (fun x9 ex9 => ?_)
  refine putS 4 (i := i) hx hb hts hown hK hG.1 hS hA (by omega) (by decide) qF_X3_24 rfl dX3_copyFrom_37 (fun H locs hG hS => ?_)
  have hG : Two D b a (upd P8 (9 + 8 * i + 4) x9) O H := ⟨hG, Graph.off hS hd hO0⟩
  generalize eP10 : upd P8 (9 + 8 * i + 4) x9 = P10 at hG
  refine lv_aload_n hx hb dX3_copyFrom_40 rfl (lv_at hl 0 rfl) ?_
  refine lv_aload_n hx hb dX3_copyFrom_41 rfl (lv_at hl 1 rfl) ?_
  refine getS 5 (i := j) hx hb hts hown hK hG.2 (by omega) (by decide) qF_X3_27 rfl dX3_copyFrom_42 ?_
  refine lv_topi (fun x11 ex11 => ?_)
  refine putS 5 (i := i) hx hb hts hown hK hG.1 hS hA (by omega) (by decide) qF_X3_27 rfl dX3_copyFrom_45 (fun H locs hG hS => ?_)
  have hG : Two D b a (upd P10 (9 + 8 * i + 5) x11) O H := ⟨hG, Graph.off hS hd hO0⟩
  generalize eP12 : upd P10 (9 + 8 * i + 5) x11 = P12 at hG
  refine lv_aload_n hx hb dX3_copyFrom_48 rfl (lv_at hl 0 rfl) ?_
  refine lv_aload_n hx hb dX3_copyFrom_49 rfl (lv_at hl 1 rfl) ?_
  refine getS 6 (i := j) hx hb hts hown hK hG.2 (by omega) (by decide) qF_X3_30 rfl dX3_copyFrom_50 ?_
  refine lv_topi (fun x13 ex13 => ?_)
  refine putS 6 (i := i) hx hb hts hown hK hG.1 hS hA (by omega) (by decide) qF_X3_30 rfl dX3_copyFrom_53 (fun H locs hG hS => ?_)
  have hG : Two D b a (upd P12 (9 + 8 * i + 6) x13) O H := ⟨hG, Graph.off hS hd hO0⟩
  generalize eP14 : upd P12 (9 + 8 * i + 6) x13 = P14 at hG
  refine lv_aload_n hx hb dX3_copyFrom_56 rfl (lv_at hl 0 rfl) ?_
  refine lv_aload_n hx hb dX3_copyFrom_57 rfl (lv_at hl 1 rfl) ?_
  refine getS 7 (i := j) hx hb hts hown hK hG.2 (by omega) (by decide) qF_X3_33 rfl dX3_copyFrom_58 ?_
  refine lv_topi (fun x15 ex15 => ?_)
  refine putS 7 (i := i) hx hb hts hown hK hG.1 hS hA (by omega) (by decide) qF_X3_33 rfl dX3_copyFrom_61 (fun H locs hG hS => ?_)
  have hG : Two D b a (upd P14 (9 + 8 * i + 7) x15) O H := ⟨hG, Graph.off hS hd hO0⟩
  generalize eP16 : upd P14 (9 + 8 * i + 7) x15 = P16 at hG
  subst eP16
  subst ex15
  subst eP14
  subst ex13
  subst eP12
  subst ex11
  subst eP10
  subst ex9
  subst eP8
  subst ex7
  subst eP6
  subst ex5
  subst eP4
  subst ex3
  subst eP2
  subst ex1
  have hG9 : Two D b a (fP_X3_copyFrom P O i j) O H := by
    unfold fP_X3_copyFrom; (try dsimp only)
    exact hG
  exact W.vret hx hb hr (fun t ht hW => gQv_of hG9 hS ht) hS.2.2 dX3_copyFrom_64
theorem hdv_X1_copyFrom : yX1_copyFrom.cls = RX1 ∧ yX1_copyFrom.cls ≠ "java/lang/invoke/MethodHandle" ∧ yX1_copyFrom.cls ≠ "java/lang/invoke/VarHandle" ∧ (parseMethodDescriptor yX1_copyFrom.desc).map (fun d => d.parameters.length) = some 1 := by decide +kernel
def fP_X1_copyFrom (P : Nat → Int32) (O : Nat → Int32) (q : Nat) (r : Nat) : Nat → Int32 :=
  let x1 := O (169 + 20 * r + 0)
  let P2 := upd P (169 + 20 * q + 0) x1
  let x3 := O (169 + 20 * r + 1)
  let P4 := upd P2 (169 + 20 * q + 1) x3
  let x5 := O (169 + 20 * r + 2)
  let P6 := upd P4 (169 + 20 * q + 2) x5
  let P7 := cpyP P6 O q r
  let x8 := O (169 + 20 * r + 3)
  let P9 := upd P7 (169 + 20 * q + 3) x8
  let x10 := O (169 + 20 * r + 4)
  let P11 := upd P9 (169 + 20 * q + 4) x10
  let x12 := O (169 + 20 * r + 5)
  let P13 := upd P11 (169 + 20 * q + 5) x12
  let x14 := O (169 + 20 * r + 6)
  let P15 := upd P13 (169 + 20 * q + 6) x14
  let x16 := O (169 + 20 * r + 7)
  let P17 := upd P15 (169 + 20 * q + 7) x16
  P17
set_option maxHeartbeats 4000000 in
set_option maxRecDepth 100000 in
theorem c_X1_copyFrom (l : Launch) (D : va_G) (b a : Nat) (P O : Nat → Int32) (q : Nat) (r : Nat) (hd : apart b a) (hq : q < 3) (hr3 : r < 3) : Met l yX1_copyFrom (wA yX1_copyFrom cX1_copyFrom 2 none) (rmL 1) (gPc D [.ref (b + 24 + 2 * q), .ref (a + 24 + 2 * r)] (fun H => Two D b a P O H)) (gQv (inG b) (fun H => Two D b a (fP_X1_copyFrom P O q r) O H)) 0 0 (inG b) := by
  refine Met.ofW (cc := cX1_copyFrom) (maxL := 2) (ret := none) (by decide) rfl ?_
  intro p e s m args below meth c s₁ B hml hv
  obtain ⟨hav, hG, hK⟩ := hv
  have hx := B.exec
  have hb := B.bytes
  have hr := B.returns
  have hts0 := atoms_spec (ws := wA yX1_copyFrom cX1_copyFrom 2 none) B.pre
  have hts : ∀ w ∈ AW, w.before _ s = true := fun w h => hts0 w (List.mem_cons_of_mem _ h)
  have hown : s.vm.findClass RX1 = some m.cls := findClass_of_methodNamed B.named
  have hlocks := B.notSynchronized
  have hA : ∀ q, (inG b) q → (inG b) q := fun _ h => h
  have hS : va_S (inG b) s.heap s.heap [] := va_S.rf
  have hG : Two D b a P O s.heap := hG
  have hl := lv_entry ([.ref (b + 24 + 2 * q), .ref (a + 24 + 2 * r)]) (n := 2) (Nat.le_of_ble_eq_true rfl)
  refine W.eq (g2 := entryFrame m ([.ref (b + 24 + 2 * q), .ref (a + 24 + 2 * r)] : List Value).toArray 2) (by rw [hav]) ?_
  rw [lg_entry_eq]
  generalize (lg_sl ([.ref (b + 24 + 2 * q), .ref (a + 24 + 2 * r)]) ++ List.replicate (2 - (lg_sl ([.ref (b + 24 + 2 * q), .ref (a + 24 + 2 * r)])).length) Slot.unset).toArray = ls at hl ⊢
  have hl : lv_has ls 2 [(0, .ref (b + 24 + 2 * q)), (1, .ref (a + 24 + 2 * r))] := hl
  have hO0 := hG.2
  refine lv_aload_n hx hb dX1_copyFrom_0 rfl (lv_at hl 0 rfl) ?_
  refine lv_aload_n hx hb dX1_copyFrom_1 rfl (lv_at hl 1 rfl) ?_
  refine getP 0 0 (i := r) rfl hx hb hts hown hK hG.2 (by omega) (by decide) (by decide) qF_X1_15 rfl dX1_copyFrom_2 ?_
  refine lv_topi (fun x1 ex1 => ?_)
  refine putP 0 0 (i := q) rfl hx hb hts hown hK hG.1 hS hA (by omega) (by decide) (by decide) qF_X1_15 rfl dX1_copyFrom_5 (fun H locs hG hS => ?_)
  have hG : Two D b a (upd P (169 + 20 * q + 0) x1) O H := ⟨hG, Graph.off hS hd hO0⟩
  generalize eP2 : upd P (169 + 20 * q + 0) x1 = P2 at hG
  refine lv_aload_n hx hb dX1_copyFrom_8 rfl (lv_at hl 0 rfl) ?_
  refine lv_aload_n hx hb dX1_copyFrom_9 rfl (lv_at hl 1 rfl) ?_
  refine getP 1 1 (i := r) rfl hx hb hts hown hK hG.2 (by omega) (by decide) (by decide) qF_X1_19 rfl dX1_copyFrom_10 ?_
  refine lv_topi (fun x3 ex3 => ?_)
  refine putP 1 1 (i := q) rfl hx hb hts hown hK hG.1 hS hA (by omega) (by decide) (by decide) qF_X1_19 rfl dX1_copyFrom_13 (fun H locs hG hS => ?_)
  have hG : Two D b a (upd P2 (169 + 20 * q + 1) x3) O H := ⟨hG, Graph.off hS hd hO0⟩
  generalize eP4 : upd P2 (169 + 20 * q + 1) x3 = P4 at hG
  refine lv_aload_n hx hb dX1_copyFrom_16 rfl (lv_at hl 0 rfl) ?_
  refine lv_aload_n hx hb dX1_copyFrom_17 rfl (lv_at hl 1 rfl) ?_
  refine getP 2 2 (i := r) rfl hx hb hts hown hK hG.2 (by omega) (by decide) (by decide) qF_X1_22 rfl dX1_copyFrom_18 ?_
  refine lv_topi (fun x5 ex5 => ?_)
  refine putP 2 2 (i := q) rfl hx hb hts hown hK hG.1 hS hA (by omega) (by decide) (by decide) qF_X1_22 rfl dX1_copyFrom_21 (fun H locs hG hS => ?_)
  have hG : Two D b a (upd P4 (169 + 20 * q + 2) x5) O H := ⟨hG, Graph.off hS hd hO0⟩
  generalize eP6 : upd P4 (169 + 20 * q + 2) x5 = P6 at hG
  refine lv_aload_n hx hb dX1_copyFrom_24 rfl (lv_at hl 1 rfl) ?_
  refine getPr (i := r) hx hb hts hown hK hG.2 (by omega) qF_X1_9 dX1_copyFrom_25 ?_
  refine lv_iconst (v := 0) hx hb dX1_copyFrom_28 (by decide) ?_
  refine lv_aload_n hx hb dX1_copyFrom_29 rfl (lv_at hl 0 rfl) ?_
  refine getPr (i := q) hx hb hts hown hK hG.1 (by omega) qF_X1_9 dX1_copyFrom_30 ?_
  refine lv_iconst (v := 0) hx hb dX1_copyFrom_33 (by decide) ?_
  refine lv_bipush (v := 12) hx hb dX1_copyFrom_34 (by decide) ?_
  refine cpyR (i := q) (j := r) hx hb hml hown hts hl.1 qM_X1_40 hK hG.1 hG.2 hS hA (by omega) (by omega) (Nat.le_of_ble_eq_true rfl) (by decide) dX1_copyFrom_36 (fun H locs hG hS => ?_)
  have hG : Two D b a (cpyP P6 O q r) O H := ⟨hG, Graph.off hS hd hO0⟩
  generalize eP7 : cpyP P6 O q r = P7 at hG
  refine lv_aload_n hx hb dX1_copyFrom_39 rfl (lv_at hl 0 rfl) ?_
  refine lv_aload_n hx hb dX1_copyFrom_40 rfl (lv_at hl 1 rfl) ?_
  refine getP 4 3 (i := r) rfl hx hb hts hown hK hG.2 (by omega) (by decide) (by decide) qF_X1_25 rfl dX1_copyFrom_41 ?_
  refine lv_topi (fun x8 ex8 => ?_)
  refine putP 4 3 (i := q) rfl hx hb hts hown hK hG.1 hS hA (by omega) (by decide) (by decide) qF_X1_25 rfl dX1_copyFrom_44 (fun H locs hG hS => ?_)
  have hG : Two D b a (upd P7 (169 + 20 * q + 3) x8) O H := ⟨hG, Graph.off hS hd hO0⟩
  generalize eP9 : upd P7 (169 + 20 * q + 3) x8 = P9 at hG
  refine lv_aload_n hx hb dX1_copyFrom_47 rfl (lv_at hl 0 rfl) ?_
  refine lv_aload_n hx hb dX1_copyFrom_48 rfl (lv_at hl 1 rfl) ?_
  refine getP 5 4 (i := r) rfl hx hb hts hown hK hG.2 (by omega) (by decide) (by decide) qF_X1_28 rfl dX1_copyFrom_49 ?_
  refine lv_topi (fun x10 ex10 => ?_)
  refine putP 5 4 (i := q) rfl hx hb hts hown hK hG.1 hS hA (by omega) (by decide) (by decide) qF_X1_28 rfl dX1_copyFrom_52 (fun H locs hG hS => ?_)
  have hG : Two D b a (upd P9 (169 + 20 * q + 4) x10) O H := ⟨hG, Graph.off hS hd hO0⟩
  generalize eP11 : upd P9 (169 + 20 * q + 4) x10 = P11 at hG
  refine lv_aload_n hx hb dX1_copyFrom_55 rfl (lv_at hl 0 rfl) ?_
  refine lv_aload_n hx hb dX1_copyFrom_56 rfl (lv_at hl 1 rfl) ?_
  refine getP 6 5 (i := r) rfl hx hb hts hown hK hG.2 (by omega) (by decide) (by decide) qF_X1_31 rfl dX1_copyFrom_57 ?_
  refine lv_topi (fun x12 ex12 => ?_)
  refine putP 6 5 (i := q) rfl hx hb hts hown hK hG.1 hS hA (by omega) (by decide) (by decide) qF_X1_31 rfl dX1_copyFrom_60 (fun H locs hG hS => ?_)
  have hG : Two D b a (upd P11 (169 + 20 * q + 5) x12) O H := ⟨hG, Graph.off hS hd hO0⟩
  generalize eP13 : upd P11 (169 + 20 * q + 5) x12 = P13 at hG
  refine lv_aload_n hx hb dX1_copyFrom_63 rfl (lv_at hl 0 rfl) ?_
  refine lv_aload_n hx hb dX1_copyFrom_64 rfl (lv_at hl 1 rfl) ?_
  refine getP 7 6 (i := r) rfl hx hb hts hown hK hG.2 (by omega) (by decide) (by decide) qF_X1_34 rfl dX1_copyFrom_65 ?_
  refine lv_topi (fun x14 ex14 => ?_)
  refine putP 7 6 (i := q) rfl hx hb hts hown hK hG.1 hS hA (by omega) (by decide) (by decide) qF_X1_34 rfl dX1_copyFrom_68 (fun H locs hG hS => ?_)
  have hG : Two D b a (upd P13 (169 + 20 * q + 6) x14) O H := ⟨hG, Graph.off hS hd hO0⟩
  generalize eP15 : upd P13 (169 + 20 * q + 6) x14 = P15 at hG
  refine lv_aload_n hx hb dX1_copyFrom_71 rfl (lv_at hl 0 rfl) ?_
  refine lv_aload_n hx hb dX1_copyFrom_72 rfl (lv_at hl 1 rfl) ?_
  refine getP 8 7 (i := r) rfl hx hb hts hown hK hG.2 (by omega) (by decide) (by decide) qF_X1_37 rfl dX1_copyFrom_73 ?_
  refine lv_topi (fun x16 ex16 => ?_)
  refine putP 8 7 (i := q) rfl hx hb hts hown hK hG.1 hS hA (by omega) (by decide) (by decide) qF_X1_37 rfl dX1_copyFrom_76 (fun H locs hG hS => ?_)
  have hG : Two D b a (upd P15 (169 + 20 * q + 7) x16) O H := ⟨hG, Graph.off hS hd hO0⟩
  generalize eP17 : upd P15 (169 + 20 * q + 7) x16 = P17 at hG
  subst eP17
  subst ex16
  subst eP15
  subst ex14
  subst eP13
  subst ex12
  subst eP11
  subst ex10
  subst eP9
  subst ex8
  subst eP7
  subst eP6
  subst ex5
  subst eP4
  subst ex3
  subst eP2
  subst ex1
  have hG9 : Two D b a (fP_X1_copyFrom P O q r) O H := by
    unfold fP_X1_copyFrom; (try dsimp only)
    exact hG
  exact W.vret hx hb hr (fun t ht hW => gQv_of hG9 hS ht) hS.2.2 dX1_copyFrom_79
theorem hdv_X4_copyFrom : yX4_copyFrom.cls = RX4 ∧ yX4_copyFrom.cls ≠ "java/lang/invoke/MethodHandle" ∧ yX4_copyFrom.cls ≠ "java/lang/invoke/VarHandle" ∧ (parseMethodDescriptor yX4_copyFrom.desc).map (fun d => d.parameters.length) = some 1 := by decide +kernel
def fP_X4_copyFrom (P : Nat → Int32) (O : Nat → Int32) (r : Nat) (k : Nat) : Nat → Int32 :=
  let x1 := O (229 + 4 * k + 0)
  let P2 := upd P (229 + 4 * r + 0) x1
  let x3 := O (229 + 4 * k + 1)
  let P4 := upd P2 (229 + 4 * r + 1) x3
  let x5 := O (229 + 4 * k + 2)
  let P6 := upd P4 (229 + 4 * r + 2) x5
  let x7 := O (229 + 4 * k + 3)
  let P8 := upd P6 (229 + 4 * r + 3) x7
  P8
set_option maxHeartbeats 4000000 in
set_option maxRecDepth 100000 in
theorem c_X4_copyFrom (l : Launch) (D : va_G) (b a : Nat) (P O : Nat → Int32) (r : Nat) (k : Nat) (hd : apart b a) (hr3 : r < 3) (hk3 : k < 3) : Met l yX4_copyFrom (wA yX4_copyFrom cX4_copyFrom 2 none) (rmL 0) (gPc D [.ref (b + 30 + r), .ref (a + 30 + k)] (fun H => Two D b a P O H)) (gQv (inG b) (fun H => Two D b a (fP_X4_copyFrom P O r k) O H)) 0 0 (inG b) := by
  refine Met.ofW (cc := cX4_copyFrom) (maxL := 2) (ret := none) (by decide) rfl ?_
  intro p e s m args below meth c s₁ B hml hv
  obtain ⟨hav, hG, hK⟩ := hv
  have hx := B.exec
  have hb := B.bytes
  have hr := B.returns
  have hts0 := atoms_spec (ws := wA yX4_copyFrom cX4_copyFrom 2 none) B.pre
  have hts : ∀ w ∈ AW, w.before _ s = true := fun w h => hts0 w (List.mem_cons_of_mem _ h)
  have hown : s.vm.findClass RX4 = some m.cls := findClass_of_methodNamed B.named
  have hlocks := B.notSynchronized
  have hA : ∀ q, (inG b) q → (inG b) q := fun _ h => h
  have hS : va_S (inG b) s.heap s.heap [] := va_S.rf
  have hG : Two D b a P O s.heap := hG
  have hl := lv_entry ([.ref (b + 30 + r), .ref (a + 30 + k)]) (n := 2) (Nat.le_of_ble_eq_true rfl)
  refine W.eq (g2 := entryFrame m ([.ref (b + 30 + r), .ref (a + 30 + k)] : List Value).toArray 2) (by rw [hav]) ?_
  rw [lg_entry_eq]
  generalize (lg_sl ([.ref (b + 30 + r), .ref (a + 30 + k)]) ++ List.replicate (2 - (lg_sl ([.ref (b + 30 + r), .ref (a + 30 + k)])).length) Slot.unset).toArray = ls at hl ⊢
  have hl : lv_has ls 2 [(0, .ref (b + 30 + r)), (1, .ref (a + 30 + k))] := hl
  have hO0 := hG.2
  refine lv_aload_n hx hb dX4_copyFrom_0 rfl (lv_at hl 0 rfl) ?_
  refine lv_aload_n hx hb dX4_copyFrom_1 rfl (lv_at hl 1 rfl) ?_
  refine getT 0 (i := k) hx hb hts hown hK hG.2 (by omega) (by decide) qF_X4_7 rfl dX4_copyFrom_2 ?_
  refine lv_topi (fun x1 ex1 => ?_)
  refine putT 0 (i := r) hx hb hts hown hK hG.1 hS hA (by omega) (by decide) qF_X4_7 rfl dX4_copyFrom_5 (fun H locs hG hS => ?_)
  have hG : Two D b a (upd P (229 + 4 * r + 0) x1) O H := ⟨hG, Graph.off hS hd hO0⟩
  generalize eP2 : upd P (229 + 4 * r + 0) x1 = P2 at hG
  refine lv_aload_n hx hb dX4_copyFrom_8 rfl (lv_at hl 0 rfl) ?_
  refine lv_aload_n hx hb dX4_copyFrom_9 rfl (lv_at hl 1 rfl) ?_
  refine getT 1 (i := k) hx hb hts hown hK hG.2 (by omega) (by decide) qF_X4_13 rfl dX4_copyFrom_10 ?_
  refine lv_topi (fun x3 ex3 => ?_)
  refine putT 1 (i := r) hx hb hts hown hK hG.1 hS hA (by omega) (by decide) qF_X4_13 rfl dX4_copyFrom_13 (fun H locs hG hS => ?_)
  have hG : Two D b a (upd P2 (229 + 4 * r + 1) x3) O H := ⟨hG, Graph.off hS hd hO0⟩
  generalize eP4 : upd P2 (229 + 4 * r + 1) x3 = P4 at hG
  refine lv_aload_n hx hb dX4_copyFrom_16 rfl (lv_at hl 0 rfl) ?_
  refine lv_aload_n hx hb dX4_copyFrom_17 rfl (lv_at hl 1 rfl) ?_
  refine getT 2 (i := k) hx hb hts hown hK hG.2 (by omega) (by decide) qF_X4_16 rfl dX4_copyFrom_18 ?_
  refine lv_topi (fun x5 ex5 => ?_)
  refine putT 2 (i := r) hx hb hts hown hK hG.1 hS hA (by omega) (by decide) qF_X4_16 rfl dX4_copyFrom_21 (fun H locs hG hS => ?_)
  have hG : Two D b a (upd P4 (229 + 4 * r + 2) x5) O H := ⟨hG, Graph.off hS hd hO0⟩
  generalize eP6 : upd P4 (229 + 4 * r + 2) x5 = P6 at hG
  refine lv_aload_n hx hb dX4_copyFrom_24 rfl (lv_at hl 0 rfl) ?_
  refine lv_aload_n hx hb dX4_copyFrom_25 rfl (lv_at hl 1 rfl) ?_
  refine getT 3 (i := k) hx hb hts hown hK hG.2 (by omega) (by decide) qF_X4_19 rfl dX4_copyFrom_26 ?_
  refine lv_topi (fun x7 ex7 => ?_)
  refine putT 3 (i := r) hx hb hts hown hK hG.1 hS hA (by omega) (by decide) qF_X4_19 rfl dX4_copyFrom_29 (fun H locs hG hS => ?_)
  have hG : Two D b a (upd P6 (229 + 4 * r + 3) x7) O H := ⟨hG, Graph.off hS hd hO0⟩
  generalize eP8 : upd P6 (229 + 4 * r + 3) x7 = P8 at hG
  subst eP8
  subst ex7
  subst eP6
  subst ex5
  subst eP4
  subst ex3
  subst eP2
  subst ex1
  have hG9 : Two D b a (fP_X4_copyFrom P O r k) O H := by
    unfold fP_X4_copyFrom; (try dsimp only)
    exact hG
  exact W.vret hx hb hr (fun t ht hW => gQv_of hG9 hS ht) hS.2.2 dX4_copyFrom_32
