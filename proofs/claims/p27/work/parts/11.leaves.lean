theorem hdv_X3_thaw : yX3_thaw.cls = RX3 ∧ yX3_thaw.cls ≠ "java/lang/invoke/MethodHandle" ∧ yX3_thaw.cls ≠ "java/lang/invoke/VarHandle" ∧ (parseMethodDescriptor yX3_thaw.desc).map (fun d => d.parameters.length) = some 1 := by decide +kernel
def fP_X3_thaw (P : Nat → Int32) (i : Nat) (most : Int32) : Nat → Int32 :=
  let x1 := (if most < P (9 + 8 * i + 2) then most else P (9 + 8 * i + 2))
  let x2 := (P (9 + 8 * i + 2)) - x1
  let P3 := upd P (9 + 8 * i + 2) x2
  let x4 := (if 100 < (P3 (9 + 8 * i + 3)) + (2 * x1) then 100 else (P3 (9 + 8 * i + 3)) + (2 * x1))
  let P5 := upd P3 (9 + 8 * i + 3) x4
  let x6 := (if (P5 (9 + 8 * i + 4)) - most < 0 then 0 else (P5 (9 + 8 * i + 4)) - most)
  let P7 := upd P5 (9 + 8 * i + 4) x6
  P7
set_option maxHeartbeats 4000000 in
set_option maxRecDepth 100000 in
theorem c_X3_thaw (l : Launch) (D : va_G) (b : Nat) (P : Nat → Int32) (i : Nat) (most : Int32) (hi : i < 20) : Met l yX3_thaw (wA yX3_thaw cX3_thaw 3 none) (rmL 1) (gPc D [.ref (b + 4 + i), .int most] (fun H => Graph D b P H)) (gQv (inG b) (fun H => Graph D b (fP_X3_thaw P i most) H)) 0 0 (inG b) := by
  refine Met.ofW (cc := cX3_thaw) (maxL := 3) (ret := none) (by decide) rfl ?_
  intro p e s m args below meth c s₁ B hml hv
  obtain ⟨hav, hG, hK⟩ := hv
  have hx := B.exec
  have hb := B.bytes
  have hr := B.returns
  have hts0 := atoms_spec (ws := wA yX3_thaw cX3_thaw 3 none) B.pre
  have hts : ∀ w ∈ AW, w.before _ s = true := fun w h => hts0 w (List.mem_cons_of_mem _ h)
  have hown : s.vm.findClass RX3 = some m.cls := findClass_of_methodNamed B.named
  have hlocks := B.notSynchronized
  have hA : ∀ q, (inG b) q → (inG b) q := fun _ h => h
  have hS : va_S (inG b) s.heap s.heap [] := va_S.rf
  have hG : Graph D b P s.heap := hG
  have hl := lv_entry ([.ref (b + 4 + i), .int most]) (n := 3) (Nat.le_of_ble_eq_true rfl)
  refine W.eq (g2 := entryFrame m ([.ref (b + 4 + i), .int most] : List Value).toArray 3) (by rw [hav]) ?_
  rw [lg_entry_eq]
  generalize (lg_sl ([.ref (b + 4 + i), .int most]) ++ List.replicate (3 - (lg_sl ([.ref (b + 4 + i), .int most])).length) Slot.unset).toArray = ls at hl ⊢
  have hl : lv_has ls 3 [(0, .ref (b + 4 + i)), (1, .int most)] := hl
  refine lv_aload_n hx hb dX3_thaw_0 rfl (lv_at hl 0 rfl) ?_
  refine getS 2 (i := i) hx hb hts hown hK hG (by omega) (by decide) qF_X3_18 rfl dX3_thaw_1 ?_
  refine lv_iload_n hx hb dX3_thaw_4 rfl (lv_at hl 1 rfl) ?_
  refine gmin hx hb hml hown hts hl.1 qM_X3_43 (Nat.le_of_ble_eq_true rfl) (Nat.le_of_ble_eq_true rfl) ⟨Nat.zero_le _, Nat.zero_le _⟩ dX3_thaw_5 ?_
  refine lv_topi (fun x1 ex1 => ?_)
  refine lv_istore_n (lv' := [(2, .int x1), (0, .ref (b + 4 + i)), (1, .int most)]) hx hb dX3_thaw_8 rfl hl (by decide) rfl (fun ls hl => ?_)
  refine lv_aload_n hx hb dX3_thaw_9 rfl (lv_at hl 1 rfl) ?_
  refine lv_dup hx hb dX3_thaw_10 rfl ?_
  refine getS 2 (i := i) hx hb hts hown hK hG (by omega) (by decide) qF_X3_18 rfl dX3_thaw_11 ?_
  refine lv_iload_n hx hb dX3_thaw_14 rfl (lv_at hl 0 rfl) ?_
  refine lv_isub hx hb dX3_thaw_15 ?_
  refine lv_topi (fun x2 ex2 => ?_)
  refine putS 2 (i := i) hx hb hts hown hK hG hS hA (by omega) (by decide) qF_X3_18 rfl dX3_thaw_16 (fun H locs hG hS => ?_)
  generalize eP3 : upd P (9 + 8 * i + 2) x2 = P3 at hG
  refine lv_aload_n hx hb dX3_thaw_19 rfl (lv_at hl 1 rfl) ?_
  refine lv_aload_n hx hb dX3_thaw_20 rfl (lv_at hl 1 rfl) ?_
  refine getS 3 (i := i) hx hb hts hown hK hG (by omega) (by decide) qF_X3_21 rfl dX3_thaw_21 ?_
  refine lv_iconst (v := 2) hx hb dX3_thaw_24 (by decide) ?_
  refine lv_iload_n hx hb dX3_thaw_25 rfl (lv_at hl 0 rfl) ?_
  refine lv_imul hx hb dX3_thaw_26 ?_
  refine lv_iadd hx hb dX3_thaw_27 ?_
  refine lv_bipush (v := 100) hx hb dX3_thaw_28 (by decide) ?_
  refine gmin hx hb hml hown hts hl.1 qM_X3_43 (Nat.le_of_ble_eq_true rfl) (Nat.le_of_ble_eq_true rfl) ⟨Nat.zero_le _, Nat.zero_le _⟩ dX3_thaw_30 ?_
  refine lv_topi (fun x4 ex4 => ?_)
  refine putS 3 (i := i) hx hb hts hown hK hG hS hA (by omega) (by decide) qF_X3_21 rfl dX3_thaw_33 (fun H locs hG hS => ?_)
  generalize eP5 : upd P3 (9 + 8 * i + 3) x4 = P5 at hG
  refine lv_aload_n hx hb dX3_thaw_36 rfl (lv_at hl 1 rfl) ?_
  refine lv_aload_n hx hb dX3_thaw_37 rfl (lv_at hl 1 rfl) ?_
  refine getS 4 (i := i) hx hb hts hown hK hG (by omega) (by decide) qF_X3_24 rfl dX3_thaw_38 ?_
  refine lv_iload_n hx hb dX3_thaw_41 rfl (lv_at hl 2 rfl) ?_
  refine lv_isub hx hb dX3_thaw_42 ?_
  refine lv_iconst (v := 0) hx hb dX3_thaw_43 (by decide) ?_
  refine gmax hx hb hml hown hts hl.1 qM_X3_49 (Nat.le_of_ble_eq_true rfl) (Nat.le_of_ble_eq_true rfl) ⟨Nat.zero_le _, Nat.zero_le _⟩ dX3_thaw_44 ?_
  refine lv_topi (fun x6 ex6 => ?_)
  refine putS 4 (i := i) hx hb hts hown hK hG hS hA (by omega) (by decide) qF_X3_24 rfl dX3_thaw_47 (fun H locs hG hS => ?_)
  generalize eP7 : upd P5 (9 + 8 * i + 4) x6 = P7 at hG
  subst eP7
  subst ex6
  subst eP5
  subst ex4
  subst eP3
  subst ex2
  subst ex1
  have hG9 : Graph D b (fP_X3_thaw P i most) H := by
    unfold fP_X3_thaw; (try dsimp only)
    exact hG
  exact W.vret hx hb hr (fun t ht hW => gQv_of hG9 hS ht) hS.2.2 dX3_thaw_50
theorem hdv_X3_freeze : yX3_freeze.cls = RX3 ∧ yX3_freeze.cls ≠ "java/lang/invoke/MethodHandle" ∧ yX3_freeze.cls ≠ "java/lang/invoke/VarHandle" ∧ (parseMethodDescriptor yX3_freeze.desc).map (fun d => d.parameters.length) = some 1 := by decide +kernel
def fP_X3_freeze (P : Nat → Int32) (i : Nat) (most : Int32) : Nat → Int32 :=
  let x1 := (if most < P (9 + 8 * i + 3) then most else P (9 + 8 * i + 3))
  let x2 := (P (9 + 8 * i + 3)) - x1
  let P3 := upd P (9 + 8 * i + 3) x2
  let x4 := (if 100 < (P3 (9 + 8 * i + 4)) + x1 then 100 else (P3 (9 + 8 * i + 4)) + x1)
  let P5 := upd P3 (9 + 8 * i + 4) x4
  P5
set_option maxHeartbeats 4000000 in
set_option maxRecDepth 100000 in
theorem c_X3_freeze (l : Launch) (D : va_G) (b : Nat) (P : Nat → Int32) (i : Nat) (most : Int32) (hi : i < 20) : Met l yX3_freeze (wA yX3_freeze cX3_freeze 3 none) (rmL 1) (gPc D [.ref (b + 4 + i), .int most] (fun H => Graph D b P H)) (gQv (inG b) (fun H => Graph D b (fP_X3_freeze P i most) H)) 0 0 (inG b) := by
  refine Met.ofW (cc := cX3_freeze) (maxL := 3) (ret := none) (by decide) rfl ?_
  intro p e s m args below meth c s₁ B hml hv
  obtain ⟨hav, hG, hK⟩ := hv
  have hx := B.exec
  have hb := B.bytes
  have hr := B.returns
  have hts0 := atoms_spec (ws := wA yX3_freeze cX3_freeze 3 none) B.pre
  have hts : ∀ w ∈ AW, w.before _ s = true := fun w h => hts0 w (List.mem_cons_of_mem _ h)
  have hown : s.vm.findClass RX3 = some m.cls := findClass_of_methodNamed B.named
  have hlocks := B.notSynchronized
  have hA : ∀ q, (inG b) q → (inG b) q := fun _ h => h
  have hS : va_S (inG b) s.heap s.heap [] := va_S.rf
  have hG : Graph D b P s.heap := hG
  have hl := lv_entry ([.ref (b + 4 + i), .int most]) (n := 3) (Nat.le_of_ble_eq_true rfl)
  refine W.eq (g2 := entryFrame m ([.ref (b + 4 + i), .int most] : List Value).toArray 3) (by rw [hav]) ?_
  rw [lg_entry_eq]
  generalize (lg_sl ([.ref (b + 4 + i), .int most]) ++ List.replicate (3 - (lg_sl ([.ref (b + 4 + i), .int most])).length) Slot.unset).toArray = ls at hl ⊢
  have hl : lv_has ls 3 [(0, .ref (b + 4 + i)), (1, .int most)] := hl
  refine lv_aload_n hx hb dX3_freeze_0 rfl (lv_at hl 0 rfl) ?_
  refine getS 3 (i := i) hx hb hts hown hK hG (by omega) (by decide) qF_X3_21 rfl dX3_freeze_1 ?_
  refine lv_iload_n hx hb dX3_freeze_4 rfl (lv_at hl 1 rfl) ?_
  refine gmin hx hb hml hown hts hl.1 qM_X3_43 (Nat.le_of_ble_eq_true rfl) (Nat.le_of_ble_eq_true rfl) ⟨Nat.zero_le _, Nat.zero_le _⟩ dX3_freeze_5 ?_
  refine lv_topi (fun x1 ex1 => ?_)
  refine lv_istore_n (lv' := [(2, .int x1), (0, .ref (b + 4 + i)), (1, .int most)]) hx hb dX3_freeze_8 rfl hl (by decide) rfl (fun ls hl => ?_)
  refine lv_aload_n hx hb dX3_freeze_9 rfl (lv_at hl 1 rfl) ?_
  refine lv_dup hx hb dX3_freeze_10 rfl ?_
  refine getS 3 (i := i) hx hb hts hown hK hG (by omega) (by decide) qF_X3_21 rfl dX3_freeze_11 ?_
  refine lv_iload_n hx hb dX3_freeze_14 rfl (lv_at hl 0 rfl) ?_
  refine lv_isub hx hb dX3_freeze_15 ?_
  refine lv_topi (fun x2 ex2 => ?_)
  refine putS 3 (i := i) hx hb hts hown hK hG hS hA (by omega) (by decide) qF_X3_21 rfl dX3_freeze_16 (fun H locs hG hS => ?_)
  generalize eP3 : upd P (9 + 8 * i + 3) x2 = P3 at hG
  refine lv_aload_n hx hb dX3_freeze_19 rfl (lv_at hl 1 rfl) ?_
  refine lv_aload_n hx hb dX3_freeze_20 rfl (lv_at hl 1 rfl) ?_
  refine getS 4 (i := i) hx hb hts hown hK hG (by omega) (by decide) qF_X3_24 rfl dX3_freeze_21 ?_
  refine lv_iload_n hx hb dX3_freeze_24 rfl (lv_at hl 0 rfl) ?_
  refine lv_iadd hx hb dX3_freeze_25 ?_
  refine lv_bipush (v := 100) hx hb dX3_freeze_26 (by decide) ?_
  refine gmin hx hb hml hown hts hl.1 qM_X3_43 (Nat.le_of_ble_eq_true rfl) (Nat.le_of_ble_eq_true rfl) ⟨Nat.zero_le _, Nat.zero_le _⟩ dX3_freeze_28 ?_
  refine lv_topi (fun x4 ex4 => ?_)
  refine putS 4 (i := i) hx hb hts hown hK hG hS hA (by omega) (by decide) qF_X3_24 rfl dX3_freeze_31 (fun H locs hG hS => ?_)
  generalize eP5 : upd P3 (9 + 8 * i + 4) x4 = P5 at hG
  subst eP5
  subst ex4
  subst eP3
  subst ex2
  subst ex1
  have hG9 : Graph D b (fP_X3_freeze P i most) H := by
    unfold fP_X3_freeze; (try dsimp only)
    exact hG
  exact W.vret hx hb hr (fun t ht hW => gQv_of hG9 hS ht) hS.2.2 dX3_freeze_34
theorem hdv_X3_takeWeather : yX3_takeWeather.cls = RX3 ∧ yX3_takeWeather.cls ≠ "java/lang/invoke/MethodHandle" ∧ yX3_takeWeather.cls ≠ "java/lang/invoke/VarHandle" ∧ (parseMethodDescriptor yX3_takeWeather.desc).map (fun d => d.parameters.length) = some 2 := by decide +kernel
def fP_X3_takeWeather (P : Nat → Int32) (i : Nat) (tmp : Int32) (sn : Int32) : Nat → Int32 :=
  let x1 := (P (9 + 8 * i + 2)) + sn
  let P2 := upd P (9 + 8 * i + 2) x1
  if tmp ≤ 0 then
    if 0 ≤ tmp then
      P2
    else
      let P3 := fP_X3_freeze P2 i (((-tmp) / 10) + 1)
      P3
  else
    let P4 := fP_X3_thaw P2 i (tmp / 5)
    P4
set_option maxHeartbeats 4000000 in
set_option maxRecDepth 100000 in
theorem c_X3_takeWeather (l : Launch) (D : va_G) (b : Nat) (P : Nat → Int32) (i : Nat) (tmp : Int32) (sn : Int32) (hi : i < 20) : Met l yX3_takeWeather (wA yX3_takeWeather cX3_takeWeather 3 none) (rmL 2) (gPc D [.ref (b + 4 + i), .int tmp, .int sn] (fun H => Graph D b P H)) (gQv (inG b) (fun H => Graph D b (fP_X3_takeWeather P i tmp sn) H)) 0 0 (inG b) := by
  refine Met.ofW (cc := cX3_takeWeather) (maxL := 3) (ret := none) (by decide) rfl ?_
  intro p e s m args below meth c s₁ B hml hv
  obtain ⟨hav, hG, hK⟩ := hv
  have hx := B.exec
  have hb := B.bytes
  have hr := B.returns
  have hts0 := atoms_spec (ws := wA yX3_takeWeather cX3_takeWeather 3 none) B.pre
  have hts : ∀ w ∈ AW, w.before _ s = true := fun w h => hts0 w (List.mem_cons_of_mem _ h)
  have hown : s.vm.findClass RX3 = some m.cls := findClass_of_methodNamed B.named
  have hlocks := B.notSynchronized
  have hA : ∀ q, (inG b) q → (inG b) q := fun _ h => h
  have hS : va_S (inG b) s.heap s.heap [] := va_S.rf
  have hG : Graph D b P s.heap := hG
  have hl := lv_entry ([.ref (b + 4 + i), .int tmp, .int sn]) (n := 3) (Nat.le_of_ble_eq_true rfl)
  refine W.eq (g2 := entryFrame m ([.ref (b + 4 + i), .int tmp, .int sn] : List Value).toArray 3) (by rw [hav]) ?_
  rw [lg_entry_eq]
  generalize (lg_sl ([.ref (b + 4 + i), .int tmp, .int sn]) ++ List.replicate (3 - (lg_sl ([.ref (b + 4 + i), .int tmp, .int sn])).length) Slot.unset).toArray = ls at hl ⊢
  have hl : lv_has ls 3 [(0, .ref (b + 4 + i)), (1, .int tmp), (2, .int sn)] := hl
  refine lv_aload_n hx hb dX3_takeWeather_0 rfl (lv_at hl 0 rfl) ?_
  refine lv_dup hx hb dX3_takeWeather_1 rfl ?_
  refine getS 2 (i := i) hx hb hts hown hK hG (by omega) (by decide) qF_X3_18 rfl dX3_takeWeather_2 ?_
  refine lv_iload_n hx hb dX3_takeWeather_5 rfl (lv_at hl 2 rfl) ?_
  refine lv_iadd hx hb dX3_takeWeather_6 ?_
  refine lv_topi (fun x1 ex1 => ?_)
  refine putS 2 (i := i) hx hb hts hown hK hG hS hA (by omega) (by decide) qF_X3_18 rfl dX3_takeWeather_7 (fun H locs hG hS => ?_)
  generalize eP2 : upd P (9 + 8 * i + 2) x1 = P2 at hG
  refine lv_iload_n hx hb dX3_takeWeather_10 rfl (lv_at hl 1 rfl) ?_
  refine lv_if_le (tgt := 24) hx hb dX3_takeWeather_11 (by decide) (fun c11 => ?_) (fun c11 => ?_)
  · refine lv_iload_n hx hb dX3_takeWeather_24 rfl (lv_at hl 1 rfl) ?_
    refine lv_if_ge (tgt := 39) hx hb dX3_takeWeather_25 (by decide) (fun c25 => ?_) (fun c25 => ?_)
    · subst eP2
      subst ex1
      have hG9 : Graph D b (fP_X3_takeWeather P i tmp sn) H := by
        unfold fP_X3_takeWeather; (try dsimp only); (try rw [if_pos c11, if_pos c25])
        exact hG
      exact W.vret hx hb hr (fun t ht hW => gQv_of hG9 hS ht) hS.2.2 dX3_takeWeather_39
    · refine lv_aload_n hx hb dX3_takeWeather_28 rfl (lv_at hl 0 rfl) ?_
      refine lv_iload_n hx hb dX3_takeWeather_29 rfl (lv_at hl 1 rfl) ?_
      refine lv_ineg hx hb dX3_takeWeather_30 ?_
      refine lv_bipush (v := 10) hx hb dX3_takeWeather_31 (by decide) ?_
      refine lv_idiv hx hb dX3_takeWeather_33 (by decide) ?_
      refine lv_iconst (v := 1) hx hb dX3_takeWeather_34 (by decide) ?_
      refine lv_iadd hx hb dX3_takeWeather_35 ?_
      refine gcVv (As := [.int (((-tmp) / 10) + 1)]) (rest := []) hx hb hml hown hts hl.1 hK (c_X3_freeze l D b P2 i (((-tmp) / 10) + 1) (by first | assumption | omega)) (gaV qM_X3_40 qI_X3_freeze qS_X3_freeze qK_X3 qC_X3_freeze) hdv_X3_freeze ⟨Nat.le_of_ble_eq_true rfl, Nat.le_of_ble_eq_true rfl⟩ hG (hG.recvS hK (by omega)) rfl (Nat.le_of_ble_eq_true rfl) ⟨Nat.zero_le _, Nat.zero_le _⟩ dX3_takeWeather_36 hS hA (fun H locs hG _ _ hS => ?_)
      have hG : Graph D b (fP_X3_freeze P2 i (((-tmp) / 10) + 1)) H := hG
      generalize eP3 : fP_X3_freeze P2 i (((-tmp) / 10) + 1) = P3 at hG
      subst eP3
      subst eP2
      subst ex1
      have hG9 : Graph D b (fP_X3_takeWeather P i tmp sn) H := by
        unfold fP_X3_takeWeather; (try dsimp only); (try rw [if_pos c11, if_neg c25])
        exact hG
      exact W.vret hx hb hr (fun t ht hW => gQv_of hG9 hS ht) hS.2.2 dX3_takeWeather_39
  · refine lv_aload_n hx hb dX3_takeWeather_14 rfl (lv_at hl 0 rfl) ?_
    refine lv_iload_n hx hb dX3_takeWeather_15 rfl (lv_at hl 1 rfl) ?_
    refine lv_iconst (v := 5) hx hb dX3_takeWeather_16 (by decide) ?_
    refine lv_idiv hx hb dX3_takeWeather_17 (by decide) ?_
    refine gcVv (As := [.int (tmp / 5)]) (rest := []) hx hb hml hown hts hl.1 hK (c_X3_thaw l D b P2 i (tmp / 5) (by first | assumption | omega)) (gaV qM_X3_36 qI_X3_thaw qS_X3_thaw qK_X3 qC_X3_thaw) hdv_X3_thaw ⟨Nat.le_of_ble_eq_true rfl, Nat.le_of_ble_eq_true rfl⟩ hG (hG.recvS hK (by omega)) rfl (Nat.le_of_ble_eq_true rfl) ⟨Nat.zero_le _, Nat.zero_le _⟩ dX3_takeWeather_18 hS hA (fun H locs hG _ _ hS => ?_)
    have hG : Graph D b (fP_X3_thaw P2 i (tmp / 5)) H := hG
    generalize eP4 : fP_X3_thaw P2 i (tmp / 5) = P4 at hG
    refine lv_goto (tgt := 39) hx hb dX3_takeWeather_21 (by decide) ?_
    subst eP4
    subst eP2
    subst ex1
    have hG9 : Graph D b (fP_X3_takeWeather P i tmp sn) H := by
      unfold fP_X3_takeWeather; (try dsimp only); (try rw [if_neg c11])
      exact hG
    exact W.vret hx hb hr (fun t ht hW => gQv_of hG9 hS ht) hS.2.2 dX3_takeWeather_39
theorem hdv_X3_begin : yX3_begin.cls = RX3 ∧ yX3_begin.cls ≠ "java/lang/invoke/MethodHandle" ∧ yX3_begin.cls ≠ "java/lang/invoke/VarHandle" ∧ (parseMethodDescriptor yX3_begin.desc).map (fun d => d.parameters.length) = some 2 := by decide +kernel
def fP_X3_begin (P : Nat → Int32) (i : Nat) (len : Int32) (pri : Int32) : Nat → Int32 :=
  let P1 := upd P (9 + 8 * i + 0) len
  let P2 := upd P1 (9 + 8 * i + 1) pri
  let P3 := upd P2 (9 + 8 * i + 2) 0
  let P4 := upd P3 (9 + 8 * i + 3) 0
  let P5 := upd P4 (9 + 8 * i + 4) 0
  let P6 := upd P5 (9 + 8 * i + 5) 0
  let P7 := upd P6 (9 + 8 * i + 6) 0
  let P8 := upd P7 (9 + 8 * i + 7) (-1)
  P8
set_option maxHeartbeats 4000000 in
set_option maxRecDepth 100000 in
theorem c_X3_begin (l : Launch) (D : va_G) (b : Nat) (P : Nat → Int32) (i : Nat) (len : Int32) (pri : Int32) (hi : i < 20) : Met l yX3_begin (wA yX3_begin cX3_begin 3 none) (rmL 0) (gPc D [.ref (b + 4 + i), .int len, .int pri] (fun H => Graph D b P H)) (gQv (inG b) (fun H => Graph D b (fP_X3_begin P i len pri) H)) 0 0 (inG b) := by
  refine Met.ofW (cc := cX3_begin) (maxL := 3) (ret := none) (by decide) rfl ?_
  intro p e s m args below meth c s₁ B hml hv
  obtain ⟨hav, hG, hK⟩ := hv
  have hx := B.exec
  have hb := B.bytes
  have hr := B.returns
  have hts0 := atoms_spec (ws := wA yX3_begin cX3_begin 3 none) B.pre
  have hts : ∀ w ∈ AW, w.before _ s = true := fun w h => hts0 w (List.mem_cons_of_mem _ h)
  have hown : s.vm.findClass RX3 = some m.cls := findClass_of_methodNamed B.named
  have hlocks := B.notSynchronized
  have hA : ∀ q, (inG b) q → (inG b) q := fun _ h => h
  have hS : va_S (inG b) s.heap s.heap [] := va_S.rf
  have hG : Graph D b P s.heap := hG
  have hl := lv_entry ([.ref (b + 4 + i), .int len, .int pri]) (n := 3) (Nat.le_of_ble_eq_true rfl)
  refine W.eq (g2 := entryFrame m ([.ref (b + 4 + i), .int len, .int pri] : List Value).toArray 3) (by rw [hav]) ?_
  rw [lg_entry_eq]
  generalize (lg_sl ([.ref (b + 4 + i), .int len, .int pri]) ++ List.replicate (3 - (lg_sl ([.ref (b + 4 + i), .int len, .int pri])).length) Slot.unset).toArray = ls at hl ⊢
  have hl : lv_has ls 3 [(0, .ref (b + 4 + i)), (1, .int len), (2, .int pri)] := hl
  refine lv_aload_n hx hb dX3_begin_0 rfl (lv_at hl 0 rfl) ?_
  refine lv_iload_n hx hb dX3_begin_1 rfl (lv_at hl 1 rfl) ?_
  refine putS 0 (i := i) hx hb hts hown hK hG hS hA (by omega) (by decide) qF_X3_9 rfl dX3_begin_2 (fun H locs hG hS => ?_)
  generalize eP1 : upd P (9 + 8 * i + 0) len = P1 at hG
  refine lv_aload_n hx hb dX3_begin_5 rfl (lv_at hl 0 rfl) ?_
  refine lv_iload_n hx hb dX3_begin_6 rfl (lv_at hl 2 rfl) ?_
  refine putS 1 (i := i) hx hb hts hown hK hG hS hA (by omega) (by decide) qF_X3_15 rfl dX3_begin_7 (fun H locs hG hS => ?_)
  generalize eP2 : upd P1 (9 + 8 * i + 1) pri = P2 at hG
  refine lv_aload_n hx hb dX3_begin_10 rfl (lv_at hl 0 rfl) ?_
  refine lv_iconst (v := 0) hx hb dX3_begin_11 (by decide) ?_
  refine putS 2 (i := i) hx hb hts hown hK hG hS hA (by omega) (by decide) qF_X3_18 rfl dX3_begin_12 (fun H locs hG hS => ?_)
  generalize eP3 : upd P2 (9 + 8 * i + 2) 0 = P3 at hG
  refine lv_aload_n hx hb dX3_begin_15 rfl (lv_at hl 0 rfl) ?_
  refine lv_iconst (v := 0) hx hb dX3_begin_16 (by decide) ?_
  refine putS 3 (i := i) hx hb hts hown hK hG hS hA (by omega) (by decide) qF_X3_21 rfl dX3_begin_17 (fun H locs hG hS => ?_)
  generalize eP4 : upd P3 (9 + 8 * i + 3) 0 = P4 at hG
  refine lv_aload_n hx hb dX3_begin_20 rfl (lv_at hl 0 rfl) ?_
  refine lv_iconst (v := 0) hx hb dX3_begin_21 (by decide) ?_
  refine putS 4 (i := i) hx hb hts hown hK hG hS hA (by omega) (by decide) qF_X3_24 rfl dX3_begin_22 (fun H locs hG hS => ?_)
  generalize eP5 : upd P4 (9 + 8 * i + 4) 0 = P5 at hG
  refine lv_aload_n hx hb dX3_begin_25 rfl (lv_at hl 0 rfl) ?_
  refine lv_iconst (v := 0) hx hb dX3_begin_26 (by decide) ?_
  refine putS 5 (i := i) hx hb hts hown hK hG hS hA (by omega) (by decide) qF_X3_27 rfl dX3_begin_27 (fun H locs hG hS => ?_)
  generalize eP6 : upd P5 (9 + 8 * i + 5) 0 = P6 at hG
  refine lv_aload_n hx hb dX3_begin_30 rfl (lv_at hl 0 rfl) ?_
  refine lv_iconst (v := 0) hx hb dX3_begin_31 (by decide) ?_
  refine putS 6 (i := i) hx hb hts hown hK hG hS hA (by omega) (by decide) qF_X3_30 rfl dX3_begin_32 (fun H locs hG hS => ?_)
  generalize eP7 : upd P6 (9 + 8 * i + 6) 0 = P7 at hG
  refine lv_aload_n hx hb dX3_begin_35 rfl (lv_at hl 0 rfl) ?_
  refine lv_iconst (v := (-1)) hx hb dX3_begin_36 (by decide) ?_
  refine putS 7 (i := i) hx hb hts hown hK hG hS hA (by omega) (by decide) qF_X3_33 rfl dX3_begin_37 (fun H locs hG hS => ?_)
  generalize eP8 : upd P7 (9 + 8 * i + 7) (-1) = P8 at hG
  subst eP8
  subst eP7
  subst eP6
  subst eP5
  subst eP4
  subst eP3
  subst eP2
  subst eP1
  have hG9 : Graph D b (fP_X3_begin P i len pri) H := by
    unfold fP_X3_begin; (try dsimp only)
    exact hG
  exact W.vret hx hb hr (fun t ht hW => gQv_of hG9 hS ht) hS.2.2 dX3_begin_40
theorem hdv_X3_becomeClear : yX3_becomeClear.cls = RX3 ∧ yX3_becomeClear.cls ≠ "java/lang/invoke/MethodHandle" ∧ yX3_becomeClear.cls ≠ "java/lang/invoke/VarHandle" ∧ (parseMethodDescriptor yX3_becomeClear.desc).map (fun d => d.parameters.length) = some 3 := by decide +kernel
def fP_X3_becomeClear (P : Nat → Int32) (i : Nat) (hour : Int32) (salt : Int32) (need : Int32) : Nat → Int32 :=
  let P1 := upd P (9 + 8 * i + 2) 0
  if need ≤ 0 then
    let x2 := (P1 (9 + 8 * i + 6)) + 1
    let P3 := upd P1 (9 + 8 * i + 6) x2
    let P4 := upd P3 (9 + 8 * i + 7) hour
    P4
  else
    let x5 := (P1 (9 + 8 * i + 4)) - (((P1 (9 + 8 * i + 4)) * salt) / need)
    let P6 := upd P1 (9 + 8 * i + 4) x5
    let x7 := (P6 (9 + 8 * i + 6)) + 1
    let P8 := upd P6 (9 + 8 * i + 6) x7
    let P9 := upd P8 (9 + 8 * i + 7) hour
    P9
set_option maxHeartbeats 4000000 in
set_option maxRecDepth 100000 in
theorem c_X3_becomeClear (l : Launch) (D : va_G) (b : Nat) (P : Nat → Int32) (i : Nat) (hour : Int32) (salt : Int32) (need : Int32) (hi : i < 20) : Met l yX3_becomeClear (wA yX3_becomeClear cX3_becomeClear 4 none) (rmL 0) (gPc D [.ref (b + 4 + i), .int hour, .int salt, .int need] (fun H => Graph D b P H)) (gQv (inG b) (fun H => Graph D b (fP_X3_becomeClear P i hour salt need) H)) 0 0 (inG b) := by
  refine Met.ofW (cc := cX3_becomeClear) (maxL := 4) (ret := none) (by decide) rfl ?_
  intro p e s m args below meth c s₁ B hml hv
  obtain ⟨hav, hG, hK⟩ := hv
  have hx := B.exec
  have hb := B.bytes
  have hr := B.returns
  have hts0 := atoms_spec (ws := wA yX3_becomeClear cX3_becomeClear 4 none) B.pre
  have hts : ∀ w ∈ AW, w.before _ s = true := fun w h => hts0 w (List.mem_cons_of_mem _ h)
  have hown : s.vm.findClass RX3 = some m.cls := findClass_of_methodNamed B.named
  have hlocks := B.notSynchronized
  have hA : ∀ q, (inG b) q → (inG b) q := fun _ h => h
  have hS : va_S (inG b) s.heap s.heap [] := va_S.rf
  have hG : Graph D b P s.heap := hG
  have hl := lv_entry ([.ref (b + 4 + i), .int hour, .int salt, .int need]) (n := 4) (Nat.le_of_ble_eq_true rfl)
  refine W.eq (g2 := entryFrame m ([.ref (b + 4 + i), .int hour, .int salt, .int need] : List Value).toArray 4) (by rw [hav]) ?_
  rw [lg_entry_eq]
  generalize (lg_sl ([.ref (b + 4 + i), .int hour, .int salt, .int need]) ++ List.replicate (4 - (lg_sl ([.ref (b + 4 + i), .int hour, .int salt, .int need])).length) Slot.unset).toArray = ls at hl ⊢
  have hl : lv_has ls 4 [(0, .ref (b + 4 + i)), (1, .int hour), (2, .int salt), (3, .int need)] := hl
  refine lv_aload_n hx hb dX3_becomeClear_0 rfl (lv_at hl 0 rfl) ?_
  refine lv_iconst (v := 0) hx hb dX3_becomeClear_1 (by decide) ?_
  refine putS 2 (i := i) hx hb hts hown hK hG hS hA (by omega) (by decide) qF_X3_18 rfl dX3_becomeClear_2 (fun H locs hG hS => ?_)
  generalize eP1 : upd P (9 + 8 * i + 2) 0 = P1 at hG
  refine lv_iload_n hx hb dX3_becomeClear_5 rfl (lv_at hl 3 rfl) ?_
  refine lv_if_le (tgt := 26) hx hb dX3_becomeClear_6 (by decide) (fun c6 => ?_) (fun c6 => ?_)
  · refine lv_aload_n hx hb dX3_becomeClear_26 rfl (lv_at hl 0 rfl) ?_
    refine lv_dup hx hb dX3_becomeClear_27 rfl ?_
    refine getS 6 (i := i) hx hb hts hown hK hG (by omega) (by decide) qF_X3_30 rfl dX3_becomeClear_28 ?_
    refine lv_iconst (v := 1) hx hb dX3_becomeClear_31 (by decide) ?_
    refine lv_iadd hx hb dX3_becomeClear_32 ?_
    refine lv_topi (fun x2 ex2 => ?_)
    refine putS 6 (i := i) hx hb hts hown hK hG hS hA (by omega) (by decide) qF_X3_30 rfl dX3_becomeClear_33 (fun H locs hG hS => ?_)
    generalize eP3 : upd P1 (9 + 8 * i + 6) x2 = P3 at hG
    refine lv_aload_n hx hb dX3_becomeClear_36 rfl (lv_at hl 0 rfl) ?_
    refine lv_iload_n hx hb dX3_becomeClear_37 rfl (lv_at hl 1 rfl) ?_
    refine putS 7 (i := i) hx hb hts hown hK hG hS hA (by omega) (by decide) qF_X3_33 rfl dX3_becomeClear_38 (fun H locs hG hS => ?_)
    generalize eP4 : upd P3 (9 + 8 * i + 7) hour = P4 at hG
    subst eP4
    subst eP3
    subst ex2
    subst eP1
    have hG9 : Graph D b (fP_X3_becomeClear P i hour salt need) H := by
      unfold fP_X3_becomeClear; (try dsimp only); (try rw [if_pos c6])
      exact hG
    exact W.vret hx hb hr (fun t ht hW => gQv_of hG9 hS ht) hS.2.2 dX3_becomeClear_41
  · refine lv_aload_n hx hb dX3_becomeClear_9 rfl (lv_at hl 0 rfl) ?_
    refine lv_dup hx hb dX3_becomeClear_10 rfl ?_
    refine getS 4 (i := i) hx hb hts hown hK hG (by omega) (by decide) qF_X3_24 rfl dX3_becomeClear_11 ?_
    refine lv_aload_n hx hb dX3_becomeClear_14 rfl (lv_at hl 0 rfl) ?_
    refine getS 4 (i := i) hx hb hts hown hK hG (by omega) (by decide) qF_X3_24 rfl dX3_becomeClear_15 ?_
    refine lv_iload_n hx hb dX3_becomeClear_18 rfl (lv_at hl 2 rfl) ?_
    refine lv_imul hx hb dX3_becomeClear_19 ?_
    refine lv_iload_n hx hb dX3_becomeClear_20 rfl (lv_at hl 3 rfl) ?_
    refine lv_idiv hx hb dX3_becomeClear_21 (fun h => c6 (by rw [h]; decide)) ?_
    refine lv_isub hx hb dX3_becomeClear_22 ?_
    refine lv_topi (fun x5 ex5 => ?_)
    refine putS 4 (i := i) hx hb hts hown hK hG hS hA (by omega) (by decide) qF_X3_24 rfl dX3_becomeClear_23 (fun H locs hG hS => ?_)
    generalize eP6 : upd P1 (9 + 8 * i + 4) x5 = P6 at hG
    refine lv_aload_n hx hb dX3_becomeClear_26 rfl (lv_at hl 0 rfl) ?_
    refine lv_dup hx hb dX3_becomeClear_27 rfl ?_
    refine getS 6 (i := i) hx hb hts hown hK hG (by omega) (by decide) qF_X3_30 rfl dX3_becomeClear_28 ?_
    refine lv_iconst (v := 1) hx hb dX3_becomeClear_31 (by decide) ?_
    refine lv_iadd hx hb dX3_becomeClear_32 ?_
    refine lv_topi (fun x7 ex7 => ?_)
    refine putS 6 (i := i) hx hb hts hown hK hG hS hA (by omega) (by decide) qF_X3_30 rfl dX3_becomeClear_33 (fun H locs hG hS => ?_)
    generalize eP8 : upd P6 (9 + 8 * i + 6) x7 = P8 at hG
    refine lv_aload_n hx hb dX3_becomeClear_36 rfl (lv_at hl 0 rfl) ?_
    refine lv_iload_n hx hb dX3_becomeClear_37 rfl (lv_at hl 1 rfl) ?_
    refine putS 7 (i := i) hx hb hts hown hK hG hS hA (by omega) (by decide) qF_X3_33 rfl dX3_becomeClear_38 (fun H locs hG hS => ?_)
    generalize eP9 : upd P8 (9 + 8 * i + 7) hour = P9 at hG
    subst eP9
    subst eP8
    subst ex7
    subst eP6
    subst ex5
    subst eP1
    have hG9 : Graph D b (fP_X3_becomeClear P i hour salt need) H := by
      unfold fP_X3_becomeClear; (try dsimp only); (try rw [if_neg c6])
      exact hG
    exact W.vret hx hb hr (fun t ht hW => gQv_of hG9 hS ht) hS.2.2 dX3_becomeClear_41
theorem hdv_X1_begin : yX1_begin.cls = RX1 ∧ yX1_begin.cls ≠ "java/lang/invoke/MethodHandle" ∧ yX1_begin.cls ≠ "java/lang/invoke/VarHandle" ∧ (parseMethodDescriptor yX1_begin.desc).map (fun d => d.parameters.length) = some 2 := by decide +kernel
def fP_X1_begin (P : Nat → Int32) (q : Nat) (sp : Int32) (cap : Int32) : Nat → Int32 :=
  let P1 := upd P (169 + 20 * q + 0) sp
  let P2 := upd P1 (169 + 20 * q + 1) cap
  let P3 := upd P2 (169 + 20 * q + 2) 0
  let P4 := upd P3 (169 + 20 * q + 3) 0
  let P5 := upd P4 (169 + 20 * q + 4) 0
  let P6 := upd P5 (169 + 20 * q + 5) 0
  let P7 := upd P6 (169 + 20 * q + 6) 0
  let P8 := upd P7 (169 + 20 * q + 7) 0
  P8
set_option maxHeartbeats 4000000 in
set_option maxRecDepth 100000 in
theorem c_X1_begin (l : Launch) (D : va_G) (b : Nat) (P : Nat → Int32) (q : Nat) (sp : Int32) (cap : Int32) (hq : q < 3) : Met l yX1_begin (wA yX1_begin cX1_begin 3 none) (rmL 0) (gPc D [.ref (b + 24 + 2 * q), .int sp, .int cap] (fun H => Graph D b P H)) (gQv (inG b) (fun H => Graph D b (fP_X1_begin P q sp cap) H)) 0 0 (inG b) := by
  refine Met.ofW (cc := cX1_begin) (maxL := 3) (ret := none) (by decide) rfl ?_
  intro p e s m args below meth c s₁ B hml hv
  obtain ⟨hav, hG, hK⟩ := hv
  have hx := B.exec
  have hb := B.bytes
  have hr := B.returns
  have hts0 := atoms_spec (ws := wA yX1_begin cX1_begin 3 none) B.pre
  have hts : ∀ w ∈ AW, w.before _ s = true := fun w h => hts0 w (List.mem_cons_of_mem _ h)
  have hown : s.vm.findClass RX1 = some m.cls := findClass_of_methodNamed B.named
  have hlocks := B.notSynchronized
  have hA : ∀ q, (inG b) q → (inG b) q := fun _ h => h
  have hS : va_S (inG b) s.heap s.heap [] := va_S.rf
  have hG : Graph D b P s.heap := hG
  have hl := lv_entry ([.ref (b + 24 + 2 * q), .int sp, .int cap]) (n := 3) (Nat.le_of_ble_eq_true rfl)
  refine W.eq (g2 := entryFrame m ([.ref (b + 24 + 2 * q), .int sp, .int cap] : List Value).toArray 3) (by rw [hav]) ?_
  rw [lg_entry_eq]
  generalize (lg_sl ([.ref (b + 24 + 2 * q), .int sp, .int cap]) ++ List.replicate (3 - (lg_sl ([.ref (b + 24 + 2 * q), .int sp, .int cap])).length) Slot.unset).toArray = ls at hl ⊢
  have hl : lv_has ls 3 [(0, .ref (b + 24 + 2 * q)), (1, .int sp), (2, .int cap)] := hl
  refine lv_aload_n hx hb dX1_begin_0 rfl (lv_at hl 0 rfl) ?_
  refine lv_iload_n hx hb dX1_begin_1 rfl (lv_at hl 1 rfl) ?_
  refine putP 0 0 (i := q) rfl hx hb hts hown hK hG hS hA (by omega) (by decide) (by decide) qF_X1_15 rfl dX1_begin_2 (fun H locs hG hS => ?_)
  generalize eP1 : upd P (169 + 20 * q + 0) sp = P1 at hG
  refine lv_aload_n hx hb dX1_begin_5 rfl (lv_at hl 0 rfl) ?_
  refine lv_iload_n hx hb dX1_begin_6 rfl (lv_at hl 2 rfl) ?_
  refine putP 1 1 (i := q) rfl hx hb hts hown hK hG hS hA (by omega) (by decide) (by decide) qF_X1_19 rfl dX1_begin_7 (fun H locs hG hS => ?_)
  generalize eP2 : upd P1 (169 + 20 * q + 1) cap = P2 at hG
  refine lv_aload_n hx hb dX1_begin_10 rfl (lv_at hl 0 rfl) ?_
  refine lv_iconst (v := 0) hx hb dX1_begin_11 (by decide) ?_
  refine putP 2 2 (i := q) rfl hx hb hts hown hK hG hS hA (by omega) (by decide) (by decide) qF_X1_22 rfl dX1_begin_12 (fun H locs hG hS => ?_)
  generalize eP3 : upd P2 (169 + 20 * q + 2) 0 = P3 at hG
  refine lv_aload_n hx hb dX1_begin_15 rfl (lv_at hl 0 rfl) ?_
  refine lv_iconst (v := 0) hx hb dX1_begin_16 (by decide) ?_
  refine putP 4 3 (i := q) rfl hx hb hts hown hK hG hS hA (by omega) (by decide) (by decide) qF_X1_25 rfl dX1_begin_17 (fun H locs hG hS => ?_)
  generalize eP4 : upd P3 (169 + 20 * q + 3) 0 = P4 at hG
  refine lv_aload_n hx hb dX1_begin_20 rfl (lv_at hl 0 rfl) ?_
  refine lv_iconst (v := 0) hx hb dX1_begin_21 (by decide) ?_
  refine putP 5 4 (i := q) rfl hx hb hts hown hK hG hS hA (by omega) (by decide) (by decide) qF_X1_28 rfl dX1_begin_22 (fun H locs hG hS => ?_)
  generalize eP5 : upd P4 (169 + 20 * q + 4) 0 = P5 at hG
  refine lv_aload_n hx hb dX1_begin_25 rfl (lv_at hl 0 rfl) ?_
  refine lv_iconst (v := 0) hx hb dX1_begin_26 (by decide) ?_
  refine putP 6 5 (i := q) rfl hx hb hts hown hK hG hS hA (by omega) (by decide) (by decide) qF_X1_31 rfl dX1_begin_27 (fun H locs hG hS => ?_)
  generalize eP6 : upd P5 (169 + 20 * q + 5) 0 = P6 at hG
  refine lv_aload_n hx hb dX1_begin_30 rfl (lv_at hl 0 rfl) ?_
  refine lv_iconst (v := 0) hx hb dX1_begin_31 (by decide) ?_
  refine putP 7 6 (i := q) rfl hx hb hts hown hK hG hS hA (by omega) (by decide) (by decide) qF_X1_34 rfl dX1_begin_32 (fun H locs hG hS => ?_)
  generalize eP7 : upd P6 (169 + 20 * q + 6) 0 = P7 at hG
  refine lv_aload_n hx hb dX1_begin_35 rfl (lv_at hl 0 rfl) ?_
  refine lv_iconst (v := 0) hx hb dX1_begin_36 (by decide) ?_
  refine putP 8 7 (i := q) rfl hx hb hts hown hK hG hS hA (by omega) (by decide) (by decide) qF_X1_37 rfl dX1_begin_37 (fun H locs hG hS => ?_)
  generalize eP8 : upd P7 (169 + 20 * q + 7) 0 = P8 at hG
  subst eP8
  subst eP7
  subst eP6
  subst eP5
  subst eP4
  subst eP3
  subst eP2
  subst eP1
  have hG9 : Graph D b (fP_X1_begin P q sp cap) H := by
    unfold fP_X1_begin; (try dsimp only)
    exact hG
  exact W.vret hx hb hr (fun t ht hW => gQv_of hG9 hS ht) hS.2.2 dX1_begin_40
theorem hdv_X1_forgetRoute : yX1_forgetRoute.cls = RX1 ∧ yX1_forgetRoute.cls ≠ "java/lang/invoke/MethodHandle" ∧ yX1_forgetRoute.cls ≠ "java/lang/invoke/VarHandle" ∧ (parseMethodDescriptor yX1_forgetRoute.desc).map (fun d => d.parameters.length) = some 0 := by decide +kernel
def fP_X1_forgetRoute (P : Nat → Int32) (q : Nat) : Nat → Int32 :=
  let P2 := upd P (169 + 20 * q + 3) 0
  let P3 := upd P2 (169 + 20 * q + 4) 0
  let P4 := upd P3 (169 + 20 * q + 5) 0
  P4
def fR_X1_forgetRoute (P : Nat → Int32) (q : Nat) : Int32 :=
  let x1 := P (169 + 20 * q + 3)
  x1
set_option maxHeartbeats 4000000 in
set_option maxRecDepth 100000 in
theorem c_X1_forgetRoute (l : Launch) (D : va_G) (b : Nat) (P : Nat → Int32) (q : Nat) (hq : q < 3) : Met l yX1_forgetRoute (wA yX1_forgetRoute cX1_forgetRoute 2 (some .int)) (rmL 0) (gPc D [.ref (b + 24 + 2 * q)] (fun H => Graph D b P H)) (gQi (inG b) (fR_X1_forgetRoute P q) (fun H => Graph D b (fP_X1_forgetRoute P q) H)) 0 0 (inG b) := by
  refine Met.ofW (cc := cX1_forgetRoute) (maxL := 2) (ret := (some .int)) (by decide) rfl ?_
  intro p e s m args below meth c s₁ B hml hv
  obtain ⟨hav, hG, hK⟩ := hv
  have hx := B.exec
  have hb := B.bytes
  have hr := B.returns
  have hts0 := atoms_spec (ws := wA yX1_forgetRoute cX1_forgetRoute 2 (some .int)) B.pre
  have hts : ∀ w ∈ AW, w.before _ s = true := fun w h => hts0 w (List.mem_cons_of_mem _ h)
  have hown : s.vm.findClass RX1 = some m.cls := findClass_of_methodNamed B.named
  have hlocks := B.notSynchronized
  have hA : ∀ q, (inG b) q → (inG b) q := fun _ h => h
  have hS : va_S (inG b) s.heap s.heap [] := va_S.rf
  have hG : Graph D b P s.heap := hG
  have hl := lv_entry ([.ref (b + 24 + 2 * q)]) (n := 2) (Nat.le_of_ble_eq_true rfl)
  refine W.eq (g2 := entryFrame m ([.ref (b + 24 + 2 * q)] : List Value).toArray 2) (by rw [hav]) ?_
  rw [lg_entry_eq]
  generalize (lg_sl ([.ref (b + 24 + 2 * q)]) ++ List.replicate (2 - (lg_sl ([.ref (b + 24 + 2 * q)])).length) Slot.unset).toArray = ls at hl ⊢
  have hl : lv_has ls 2 [(0, .ref (b + 24 + 2 * q))] := hl
  refine lv_aload_n hx hb dX1_forgetRoute_0 rfl (lv_at hl 0 rfl) ?_
  refine getP 4 3 (i := q) rfl hx hb hts hown hK hG (by omega) (by decide) (by decide) qF_X1_25 rfl dX1_forgetRoute_1 ?_
  refine lv_topi (fun x1 ex1 => ?_)
  refine lv_istore_n (lv' := [(1, .int x1), (0, .ref (b + 24 + 2 * q))]) hx hb dX1_forgetRoute_4 rfl hl (by decide) rfl (fun ls hl => ?_)
  refine lv_aload_n hx hb dX1_forgetRoute_5 rfl (lv_at hl 1 rfl) ?_
  refine lv_iconst (v := 0) hx hb dX1_forgetRoute_6 (by decide) ?_
  refine putP 4 3 (i := q) rfl hx hb hts hown hK hG hS hA (by omega) (by decide) (by decide) qF_X1_25 rfl dX1_forgetRoute_7 (fun H locs hG hS => ?_)
  generalize eP2 : upd P (169 + 20 * q + 3) 0 = P2 at hG
  refine lv_aload_n hx hb dX1_forgetRoute_10 rfl (lv_at hl 1 rfl) ?_
  refine lv_iconst (v := 0) hx hb dX1_forgetRoute_11 (by decide) ?_
  refine putP 5 4 (i := q) rfl hx hb hts hown hK hG hS hA (by omega) (by decide) (by decide) qF_X1_28 rfl dX1_forgetRoute_12 (fun H locs hG hS => ?_)
  generalize eP3 : upd P2 (169 + 20 * q + 4) 0 = P3 at hG
  refine lv_aload_n hx hb dX1_forgetRoute_15 rfl (lv_at hl 1 rfl) ?_
  refine lv_iconst (v := 0) hx hb dX1_forgetRoute_16 (by decide) ?_
  refine putP 6 5 (i := q) rfl hx hb hts hown hK hG hS hA (by omega) (by decide) (by decide) qF_X1_31 rfl dX1_forgetRoute_17 (fun H locs hG hS => ?_)
  generalize eP4 : upd P3 (169 + 20 * q + 5) 0 = P4 at hG
  refine lv_iload_n hx hb dX1_forgetRoute_20 rfl (lv_at hl 0 rfl) ?_
  subst eP4
  subst eP3
  subst eP2
  subst ex1
  have hG9 : Graph D b (fP_X1_forgetRoute P q) H := by
    unfold fP_X1_forgetRoute; (try dsimp only)
    exact hG
  exact W.iret hx hb hr (fun t ht hW => gQi_of (by unfold fR_X1_forgetRoute; (try dsimp only); (try rfl)) hG9 hS ht) hS.2.2 dX1_forgetRoute_21
theorem hdv_X1_isAtStart : yX1_isAtStart.cls = RX1 ∧ yX1_isAtStart.cls ≠ "java/lang/invoke/MethodHandle" ∧ yX1_isAtStart.cls ≠ "java/lang/invoke/VarHandle" ∧ (parseMethodDescriptor yX1_isAtStart.desc).map (fun d => d.parameters.length) = some 0 := by decide +kernel
def fR_X1_isAtStart (P : Nat → Int32) (q : Nat) : Int32 :=
  if P (169 + 20 * q + 4) = 0 then
    if P (169 + 20 * q + 5) = 0 then
      1
    else
      0
  else
    0
set_option maxHeartbeats 4000000 in
set_option maxRecDepth 100000 in
theorem c_X1_isAtStart (l : Launch) (D : va_G) (b : Nat) (P : Nat → Int32) (q : Nat) (hq : q < 3) : Met l yX1_isAtStart (wA yX1_isAtStart cX1_isAtStart 1 (some .boolean)) (rmL 0) (gPc D [.ref (b + 24 + 2 * q)] (fun H => Graph D b P H)) (gQi (inG b) (fR_X1_isAtStart P q) (fun H => Graph D b P H)) 0 0 (inG b) := by
  refine Met.ofW (cc := cX1_isAtStart) (maxL := 1) (ret := (some .boolean)) (by decide) rfl ?_
  intro p e s m args below meth c s₁ B hml hv
  obtain ⟨hav, hG, hK⟩ := hv
  have hx := B.exec
  have hb := B.bytes
  have hr := B.returns
  have hts0 := atoms_spec (ws := wA yX1_isAtStart cX1_isAtStart 1 (some .boolean)) B.pre
  have hts : ∀ w ∈ AW, w.before _ s = true := fun w h => hts0 w (List.mem_cons_of_mem _ h)
  have hown : s.vm.findClass RX1 = some m.cls := findClass_of_methodNamed B.named
  have hlocks := B.notSynchronized
  have hA : ∀ q, (inG b) q → (inG b) q := fun _ h => h
  have hS : va_S (inG b) s.heap s.heap [] := va_S.rf
  have hG : Graph D b P s.heap := hG
  have hl := lv_entry ([.ref (b + 24 + 2 * q)]) (n := 1) (Nat.le_of_ble_eq_true rfl)
  refine W.eq (g2 := entryFrame m ([.ref (b + 24 + 2 * q)] : List Value).toArray 1) (by rw [hav]) ?_
  rw [lg_entry_eq]
  generalize (lg_sl ([.ref (b + 24 + 2 * q)]) ++ List.replicate (1 - (lg_sl ([.ref (b + 24 + 2 * q)])).length) Slot.unset).toArray = ls at hl ⊢
  have hl : lv_has ls 1 [(0, .ref (b + 24 + 2 * q))] := hl
  refine lv_aload_n hx hb dX1_isAtStart_0 rfl (lv_at hl 0 rfl) ?_
  refine getP 5 4 (i := q) rfl hx hb hts hown hK hG (by omega) (by decide) (by decide) qF_X1_28 rfl dX1_isAtStart_1 ?_
  refine lv_if_ne (tgt := 18) hx hb dX1_isAtStart_4 (by decide) (fun c4 => ?_) (fun c4 => ?_)
  · refine lv_iconst (v := 0) hx hb dX1_isAtStart_18 (by decide) ?_
    have hG9 := hG
    exact W.zret hx hb hr (by first | with_reducible exact nb_of in_b | with_reducible exact nb_of takes_b | rfl) (fun t ht hW => gQi_of (by unfold fR_X1_isAtStart; (try dsimp only); (try rw [if_neg c4]); (try rfl)) hG9 hS ht) hS.2.2 dX1_isAtStart_19
  · refine lv_aload_n hx hb dX1_isAtStart_7 rfl (lv_at hl 0 rfl) ?_
    refine getP 6 5 (i := q) rfl hx hb hts hown hK hG (by omega) (by decide) (by decide) qF_X1_31 rfl dX1_isAtStart_8 ?_
    refine lv_if_ne (tgt := 18) hx hb dX1_isAtStart_11 (by decide) (fun c11 => ?_) (fun c11 => ?_)
    · refine lv_iconst (v := 0) hx hb dX1_isAtStart_18 (by decide) ?_
      have hG9 := hG
      exact W.zret hx hb hr (by first | with_reducible exact nb_of in_b | with_reducible exact nb_of takes_b | rfl) (fun t ht hW => gQi_of (by unfold fR_X1_isAtStart; (try dsimp only); (try rw [if_pos c4, if_neg c11]); (try rfl)) hG9 hS ht) hS.2.2 dX1_isAtStart_19
    · refine lv_iconst (v := 1) hx hb dX1_isAtStart_14 (by decide) ?_
      refine lv_goto (tgt := 19) hx hb dX1_isAtStart_15 (by decide) ?_
      have hG9 := hG
      exact W.zret hx hb hr (by first | with_reducible exact nb_of in_b | with_reducible exact nb_of takes_b | rfl) (fun t ht hW => gQi_of (by unfold fR_X1_isAtStart; (try dsimp only); (try rw [if_pos c4, if_pos c11]); (try rfl)) hG9 hS ht) hS.2.2 dX1_isAtStart_19
theorem hdv_X1_goOn : yX1_goOn.cls = RX1 ∧ yX1_goOn.cls ≠ "java/lang/invoke/MethodHandle" ∧ yX1_goOn.cls ≠ "java/lang/invoke/VarHandle" ∧ (parseMethodDescriptor yX1_goOn.desc).map (fun d => d.parameters.length) = some 0 := by decide +kernel
def fP_X1_goOn (P : Nat → Int32) (q : Nat) : Nat → Int32 :=
  let P1 := upd P (169 + 20 * q + 5) 0
  let x2 := (P1 (169 + 20 * q + 4)) + 1
  let P3 := upd P1 (169 + 20 * q + 4) x2
  if P3 (169 + 20 * q + 3) ≤ P3 (169 + 20 * q + 4) then
    let P4 := upd P3 (169 + 20 * q + 4) 0
    let x5 := (P4 (169 + 20 * q + 6)) + 1
    let P6 := upd P4 (169 + 20 * q + 6) x5
    P6
  else
    P3
def fR_X1_goOn (P : Nat → Int32) (q : Nat) : Int32 :=
  let P1 := upd P (169 + 20 * q + 5) 0
  let x2 := (P1 (169 + 20 * q + 4)) + 1
  let P3 := upd P1 (169 + 20 * q + 4) x2
  if P3 (169 + 20 * q + 3) ≤ P3 (169 + 20 * q + 4) then
    0
  else
    1
set_option maxHeartbeats 4000000 in
set_option maxRecDepth 100000 in
theorem c_X1_goOn (l : Launch) (D : va_G) (b : Nat) (P : Nat → Int32) (q : Nat) (hq : q < 3) : Met l yX1_goOn (wA yX1_goOn cX1_goOn 1 (some .boolean)) (rmL 0) (gPc D [.ref (b + 24 + 2 * q)] (fun H => Graph D b P H)) (gQi (inG b) (fR_X1_goOn P q) (fun H => Graph D b (fP_X1_goOn P q) H)) 0 0 (inG b) := by
  refine Met.ofW (cc := cX1_goOn) (maxL := 1) (ret := (some .boolean)) (by decide) rfl ?_
  intro p e s m args below meth c s₁ B hml hv
  obtain ⟨hav, hG, hK⟩ := hv
  have hx := B.exec
  have hb := B.bytes
  have hr := B.returns
  have hts0 := atoms_spec (ws := wA yX1_goOn cX1_goOn 1 (some .boolean)) B.pre
  have hts : ∀ w ∈ AW, w.before _ s = true := fun w h => hts0 w (List.mem_cons_of_mem _ h)
  have hown : s.vm.findClass RX1 = some m.cls := findClass_of_methodNamed B.named
  have hlocks := B.notSynchronized
  have hA : ∀ q, (inG b) q → (inG b) q := fun _ h => h
  have hS : va_S (inG b) s.heap s.heap [] := va_S.rf
  have hG : Graph D b P s.heap := hG
  have hl := lv_entry ([.ref (b + 24 + 2 * q)]) (n := 1) (Nat.le_of_ble_eq_true rfl)
  refine W.eq (g2 := entryFrame m ([.ref (b + 24 + 2 * q)] : List Value).toArray 1) (by rw [hav]) ?_
  rw [lg_entry_eq]
  generalize (lg_sl ([.ref (b + 24 + 2 * q)]) ++ List.replicate (1 - (lg_sl ([.ref (b + 24 + 2 * q)])).length) Slot.unset).toArray = ls at hl ⊢
  have hl : lv_has ls 1 [(0, .ref (b + 24 + 2 * q))] := hl
  refine lv_aload_n hx hb dX1_goOn_0 rfl (lv_at hl 0 rfl) ?_
  refine lv_iconst (v := 0) hx hb dX1_goOn_1 (by decide) ?_
  refine putP 6 5 (i := q) rfl hx hb hts hown hK hG hS hA (by omega) (by decide) (by decide) qF_X1_31 rfl dX1_goOn_2 (fun H locs hG hS => ?_)
  generalize eP1 : upd P (169 + 20 * q + 5) 0 = P1 at hG
  refine lv_aload_n hx hb dX1_goOn_5 rfl (lv_at hl 0 rfl) ?_
  refine lv_dup hx hb dX1_goOn_6 rfl ?_
  refine getP 5 4 (i := q) rfl hx hb hts hown hK hG (by omega) (by decide) (by decide) qF_X1_28 rfl dX1_goOn_7 ?_
  refine lv_iconst (v := 1) hx hb dX1_goOn_10 (by decide) ?_
  refine lv_iadd hx hb dX1_goOn_11 ?_
  refine lv_topi (fun x2 ex2 => ?_)
  refine putP 5 4 (i := q) rfl hx hb hts hown hK hG hS hA (by omega) (by decide) (by decide) qF_X1_28 rfl dX1_goOn_12 (fun H locs hG hS => ?_)
  generalize eP3 : upd P1 (169 + 20 * q + 4) x2 = P3 at hG
  refine lv_aload_n hx hb dX1_goOn_15 rfl (lv_at hl 0 rfl) ?_
  refine getP 5 4 (i := q) rfl hx hb hts hown hK hG (by omega) (by decide) (by decide) qF_X1_28 rfl dX1_goOn_16 ?_
  refine lv_aload_n hx hb dX1_goOn_19 rfl (lv_at hl 0 rfl) ?_
  refine getP 4 3 (i := q) rfl hx hb hts hown hK hG (by omega) (by decide) (by decide) qF_X1_25 rfl dX1_goOn_20 ?_
  refine lv_icmp_ge (tgt := 28) hx hb dX1_goOn_23 (by decide) (fun c23 => ?_) (fun c23 => ?_)
  · refine lv_aload_n hx hb dX1_goOn_28 rfl (lv_at hl 0 rfl) ?_
    refine lv_iconst (v := 0) hx hb dX1_goOn_29 (by decide) ?_
    refine putP 5 4 (i := q) rfl hx hb hts hown hK hG hS hA (by omega) (by decide) (by decide) qF_X1_28 rfl dX1_goOn_30 (fun H locs hG hS => ?_)
    generalize eP4 : upd P3 (169 + 20 * q + 4) 0 = P4 at hG
    refine lv_aload_n hx hb dX1_goOn_33 rfl (lv_at hl 0 rfl) ?_
    refine lv_dup hx hb dX1_goOn_34 rfl ?_
    refine getP 7 6 (i := q) rfl hx hb hts hown hK hG (by omega) (by decide) (by decide) qF_X1_34 rfl dX1_goOn_35 ?_
    refine lv_iconst (v := 1) hx hb dX1_goOn_38 (by decide) ?_
    refine lv_iadd hx hb dX1_goOn_39 ?_
    refine lv_topi (fun x5 ex5 => ?_)
    refine putP 7 6 (i := q) rfl hx hb hts hown hK hG hS hA (by omega) (by decide) (by decide) qF_X1_34 rfl dX1_goOn_40 (fun H locs hG hS => ?_)
    generalize eP6 : upd P4 (169 + 20 * q + 6) x5 = P6 at hG
    refine lv_iconst (v := 0) hx hb dX1_goOn_43 (by decide) ?_
    subst eP6
    subst ex5
    subst eP4
    subst eP3
    subst ex2
    subst eP1
    have hG9 : Graph D b (fP_X1_goOn P q) H := by
      unfold fP_X1_goOn; (try dsimp only); (try rw [if_pos c23])
      exact hG
    exact W.zret hx hb hr (by first | with_reducible exact nb_of in_b | with_reducible exact nb_of takes_b | rfl) (fun t ht hW => gQi_of (by unfold fR_X1_goOn; (try dsimp only); (try rw [if_pos c23]); (try rfl)) hG9 hS ht) hS.2.2 dX1_goOn_44
  · refine lv_iconst (v := 1) hx hb dX1_goOn_26 (by decide) ?_
    subst eP3
    subst ex2
    subst eP1
    have hG9 : Graph D b (fP_X1_goOn P q) H := by
      unfold fP_X1_goOn; (try dsimp only); (try rw [if_neg c23])
      exact hG
    exact W.zret hx hb hr (by first | with_reducible exact nb_of in_b | with_reducible exact nb_of takes_b | rfl) (fun t ht hW => gQi_of (by unfold fR_X1_goOn; (try dsimp only); (try rw [if_neg c23]); (try rfl)) hG9 hS ht) hS.2.2 dX1_goOn_27
theorem hdv_X1_plowOn : yX1_plowOn.cls = RX1 ∧ yX1_plowOn.cls ≠ "java/lang/invoke/MethodHandle" ∧ yX1_plowOn.cls ≠ "java/lang/invoke/VarHandle" ∧ (parseMethodDescriptor yX1_plowOn.desc).map (fun d => d.parameters.length) = some 2 := by decide +kernel
def fP_X1_plowOn (P : Nat → Int32) (q : Nat) (len : Int32) (left : Int32) : Nat → Int32 :=
  let x1 := (if len - (P (169 + 20 * q + 5)) < left then len - (P (169 + 20 * q + 5)) else left)
  let x2 := (P (169 + 20 * q + 5)) + x1
  let P3 := upd P (169 + 20 * q + 5) x2
  let x4 := (P3 (169 + 20 * q + 7)) + x1
  let P5 := upd P3 (169 + 20 * q + 7) x4
  P5
def fR_X1_plowOn (P : Nat → Int32) (q : Nat) (len : Int32) (left : Int32) : Int32 :=
  let x1 := (if len - (P (169 + 20 * q + 5)) < left then len - (P (169 + 20 * q + 5)) else left)
  x1
set_option maxHeartbeats 4000000 in
set_option maxRecDepth 100000 in
theorem c_X1_plowOn (l : Launch) (D : va_G) (b : Nat) (P : Nat → Int32) (q : Nat) (len : Int32) (left : Int32) (hq : q < 3) : Met l yX1_plowOn (wA yX1_plowOn cX1_plowOn 4 (some .int)) (rmL 1) (gPc D [.ref (b + 24 + 2 * q), .int len, .int left] (fun H => Graph D b P H)) (gQi (inG b) (fR_X1_plowOn P q len left) (fun H => Graph D b (fP_X1_plowOn P q len left) H)) 0 0 (inG b) := by
  refine Met.ofW (cc := cX1_plowOn) (maxL := 4) (ret := (some .int)) (by decide) rfl ?_
  intro p e s m args below meth c s₁ B hml hv
  obtain ⟨hav, hG, hK⟩ := hv
  have hx := B.exec
  have hb := B.bytes
  have hr := B.returns
  have hts0 := atoms_spec (ws := wA yX1_plowOn cX1_plowOn 4 (some .int)) B.pre
  have hts : ∀ w ∈ AW, w.before _ s = true := fun w h => hts0 w (List.mem_cons_of_mem _ h)
  have hown : s.vm.findClass RX1 = some m.cls := findClass_of_methodNamed B.named
  have hlocks := B.notSynchronized
  have hA : ∀ q, (inG b) q → (inG b) q := fun _ h => h
  have hS : va_S (inG b) s.heap s.heap [] := va_S.rf
  have hG : Graph D b P s.heap := hG
  have hl := lv_entry ([.ref (b + 24 + 2 * q), .int len, .int left]) (n := 4) (Nat.le_of_ble_eq_true rfl)
  refine W.eq (g2 := entryFrame m ([.ref (b + 24 + 2 * q), .int len, .int left] : List Value).toArray 4) (by rw [hav]) ?_
  rw [lg_entry_eq]
  generalize (lg_sl ([.ref (b + 24 + 2 * q), .int len, .int left]) ++ List.replicate (4 - (lg_sl ([.ref (b + 24 + 2 * q), .int len, .int left])).length) Slot.unset).toArray = ls at hl ⊢
  have hl : lv_has ls 4 [(0, .ref (b + 24 + 2 * q)), (1, .int len), (2, .int left)] := hl
  refine lv_iload_n hx hb dX1_plowOn_0 rfl (lv_at hl 2 rfl) ?_
  refine lv_iload_n hx hb dX1_plowOn_1 rfl (lv_at hl 1 rfl) ?_
  refine lv_aload_n hx hb dX1_plowOn_2 rfl (lv_at hl 0 rfl) ?_
  refine getP 6 5 (i := q) rfl hx hb hts hown hK hG (by omega) (by decide) (by decide) qF_X1_31 rfl dX1_plowOn_3 ?_
  refine lv_isub hx hb dX1_plowOn_6 ?_
  refine gmin hx hb hml hown hts hl.1 qM_X1_46 (Nat.le_of_ble_eq_true rfl) (Nat.le_of_ble_eq_true rfl) ⟨Nat.zero_le _, Nat.zero_le _⟩ dX1_plowOn_7 ?_
  refine lv_topi (fun x1 ex1 => ?_)
  refine lv_istore_n (lv' := [(3, .int x1), (0, .ref (b + 24 + 2 * q)), (1, .int len), (2, .int left)]) hx hb dX1_plowOn_10 rfl hl (by decide) rfl (fun ls hl => ?_)
  refine lv_aload_n hx hb dX1_plowOn_11 rfl (lv_at hl 1 rfl) ?_
  refine lv_dup hx hb dX1_plowOn_12 rfl ?_
  refine getP 6 5 (i := q) rfl hx hb hts hown hK hG (by omega) (by decide) (by decide) qF_X1_31 rfl dX1_plowOn_13 ?_
  refine lv_iload_n hx hb dX1_plowOn_16 rfl (lv_at hl 0 rfl) ?_
  refine lv_iadd hx hb dX1_plowOn_17 ?_
  refine lv_topi (fun x2 ex2 => ?_)
  refine putP 6 5 (i := q) rfl hx hb hts hown hK hG hS hA (by omega) (by decide) (by decide) qF_X1_31 rfl dX1_plowOn_18 (fun H locs hG hS => ?_)
  generalize eP3 : upd P (169 + 20 * q + 5) x2 = P3 at hG
  refine lv_aload_n hx hb dX1_plowOn_21 rfl (lv_at hl 1 rfl) ?_
  refine lv_dup hx hb dX1_plowOn_22 rfl ?_
  refine getP 8 7 (i := q) rfl hx hb hts hown hK hG (by omega) (by decide) (by decide) qF_X1_37 rfl dX1_plowOn_23 ?_
  refine lv_iload_n hx hb dX1_plowOn_26 rfl (lv_at hl 0 rfl) ?_
  refine lv_iadd hx hb dX1_plowOn_27 ?_
  refine lv_topi (fun x4 ex4 => ?_)
  refine putP 8 7 (i := q) rfl hx hb hts hown hK hG hS hA (by omega) (by decide) (by decide) qF_X1_37 rfl dX1_plowOn_28 (fun H locs hG hS => ?_)
  generalize eP5 : upd P3 (169 + 20 * q + 7) x4 = P5 at hG
  refine lv_iload_n hx hb dX1_plowOn_31 rfl (lv_at hl 0 rfl) ?_
  subst eP5
  subst ex4
  subst eP3
  subst ex2
  subst ex1
  have hG9 : Graph D b (fP_X1_plowOn P q len left) H := by
    unfold fP_X1_plowOn; (try dsimp only)
    exact hG
  exact W.iret hx hb hr (fun t ht hW => gQi_of (by unfold fR_X1_plowOn; (try dsimp only); (try rfl)) hG9 hS ht) hS.2.2 dX1_plowOn_32
theorem hdv_X1_swapWithNext : yX1_swapWithNext.cls = RX1 ∧ yX1_swapWithNext.cls ≠ "java/lang/invoke/MethodHandle" ∧ yX1_swapWithNext.cls ≠ "java/lang/invoke/VarHandle" ∧ (parseMethodDescriptor yX1_swapWithNext.desc).map (fun d => d.parameters.length) = some 1 := by decide +kernel
def fP_X1_swapWithNext (P : Nat → Int32) (q : Nat) (k : Nat) : Nat → Int32 :=
  let x1 := P (169 + 20 * q + 8 + k)
  let x2 := P (169 + 20 * q + 8 + (k + 1))
  let P3 := upd P (169 + 20 * q + 8 + k) x2
  let P4 := upd P3 (169 + 20 * q + 8 + (k + 1)) x1
  P4
set_option maxHeartbeats 4000000 in
set_option maxRecDepth 100000 in
theorem c_X1_swapWithNext (l : Launch) (D : va_G) (b : Nat) (P : Nat → Int32) (q : Nat) (k : Nat) (hq : q < 3) (hk : k + 1 < 12) : Met l yX1_swapWithNext (wA yX1_swapWithNext cX1_swapWithNext 3 none) (rmL 0) (gPc D [.ref (b + 24 + 2 * q), .int (nI k)] (fun H => Graph D b P H)) (gQv (inG b) (fun H => Graph D b (fP_X1_swapWithNext P q k) H)) 0 0 (inG b) := by
  refine Met.ofW (cc := cX1_swapWithNext) (maxL := 3) (ret := none) (by decide) rfl ?_
  intro p e s m args below meth c s₁ B hml hv
  obtain ⟨hav, hG, hK⟩ := hv
  have hx := B.exec
  have hb := B.bytes
  have hr := B.returns
  have hts0 := atoms_spec (ws := wA yX1_swapWithNext cX1_swapWithNext 3 none) B.pre
  have hts : ∀ w ∈ AW, w.before _ s = true := fun w h => hts0 w (List.mem_cons_of_mem _ h)
  have hown : s.vm.findClass RX1 = some m.cls := findClass_of_methodNamed B.named
  have hlocks := B.notSynchronized
  have hA : ∀ q, (inG b) q → (inG b) q := fun _ h => h
  have hS : va_S (inG b) s.heap s.heap [] := va_S.rf
  have hG : Graph D b P s.heap := hG
  have hl := lv_entry ([.ref (b + 24 + 2 * q), .int (nI k)]) (n := 3) (Nat.le_of_ble_eq_true rfl)
  refine W.eq (g2 := entryFrame m ([.ref (b + 24 + 2 * q), .int (nI k)] : List Value).toArray 3) (by rw [hav]) ?_
  rw [lg_entry_eq]
  generalize (lg_sl ([.ref (b + 24 + 2 * q), .int (nI k)]) ++ List.replicate (3 - (lg_sl ([.ref (b + 24 + 2 * q), .int (nI k)])).length) Slot.unset).toArray = ls at hl ⊢
  have hl : lv_has ls 3 [(0, .ref (b + 24 + 2 * q)), (1, .int (nI k))] := hl
  refine lv_aload_n hx hb dX1_swapWithNext_0 rfl (lv_at hl 0 rfl) ?_
  refine getPr (i := q) hx hb hts hown hK hG (by omega) qF_X1_9 dX1_swapWithNext_1 ?_
  refine lv_iload_n hx hb dX1_swapWithNext_4 rfl (lv_at hl 1 rfl) ?_
  refine aldR (i := q) (k := k) hx hb hK hG (by omega) (by omega) dX1_swapWithNext_5 ?_
  refine lv_topi (fun x1 ex1 => ?_)
  refine lv_istore_n (lv' := [(2, .int x1), (0, .ref (b + 24 + 2 * q)), (1, .int (nI k))]) hx hb dX1_swapWithNext_6 rfl hl (by decide) rfl (fun ls hl => ?_)
  refine lv_aload_n hx hb dX1_swapWithNext_7 rfl (lv_at hl 1 rfl) ?_
  refine getPr (i := q) hx hb hts hown hK hG (by omega) qF_X1_9 dX1_swapWithNext_8 ?_
  refine lv_iload_n hx hb dX1_swapWithNext_11 rfl (lv_at hl 2 rfl) ?_
  refine lv_aload_n hx hb dX1_swapWithNext_12 rfl (lv_at hl 1 rfl) ?_
  refine getPr (i := q) hx hb hts hown hK hG (by omega) qF_X1_9 dX1_swapWithNext_13 ?_
  refine lv_iload_n hx hb dX1_swapWithNext_16 rfl (lv_at hl 2 rfl) ?_
  refine lv_iconst (v := 1) hx hb dX1_swapWithNext_17 (by decide) ?_
  refine iaddN (a := k) (b := 1) hx hb dX1_swapWithNext_18 ?_
  refine aldR (i := q) (k := k + 1) hx hb hK hG (by omega) (by omega) dX1_swapWithNext_19 ?_
  refine lv_topi (fun x2 ex2 => ?_)
  refine astR (i := q) (k := k) hx hb hK hG hS hA (by omega) (by omega) dX1_swapWithNext_20 (fun H locs hG hS => ?_)
  generalize eP3 : upd P (169 + 20 * q + 8 + k) x2 = P3 at hG
  refine lv_aload_n hx hb dX1_swapWithNext_21 rfl (lv_at hl 1 rfl) ?_
  refine getPr (i := q) hx hb hts hown hK hG (by omega) qF_X1_9 dX1_swapWithNext_22 ?_
  refine lv_iload_n hx hb dX1_swapWithNext_25 rfl (lv_at hl 2 rfl) ?_
  refine lv_iconst (v := 1) hx hb dX1_swapWithNext_26 (by decide) ?_
  refine iaddN (a := k) (b := 1) hx hb dX1_swapWithNext_27 ?_
  refine lv_iload_n hx hb dX1_swapWithNext_28 rfl (lv_at hl 0 rfl) ?_
  refine astR (i := q) (k := k + 1) hx hb hK hG hS hA (by omega) (by omega) dX1_swapWithNext_29 (fun H locs hG hS => ?_)
  generalize eP4 : upd P3 (169 + 20 * q + 8 + (k + 1)) x1 = P4 at hG
  subst eP4
  subst eP3
  subst ex2
  subst ex1
  have hG9 : Graph D b (fP_X1_swapWithNext P q k) H := by
    unfold fP_X1_swapWithNext; (try dsimp only)
    exact hG
  exact W.vret hx hb hr (fun t ht hW => gQv_of hG9 hS ht) hS.2.2 dX1_swapWithNext_30
theorem hdv_X1_isBusyAtPair : yX1_isBusyAtPair.cls = RX1 ∧ yX1_isBusyAtPair.cls ≠ "java/lang/invoke/MethodHandle" ∧ yX1_isBusyAtPair.cls ≠ "java/lang/invoke/VarHandle" ∧ (parseMethodDescriptor yX1_isBusyAtPair.desc).map (fun d => d.parameters.length) = some 1 := by decide +kernel
def fR_X1_isBusyAtPair (P : Nat → Int32) (q : Nat) (first : Int32) : Int32 :=
  if P (169 + 20 * q + 5) ≤ 0 then
    0
  else
    if P (169 + 20 * q + 4) = first then
      1
    else
      if P (169 + 20 * q + 4) = first + 1 then
        1
      else
        0
set_option maxHeartbeats 4000000 in
set_option maxRecDepth 100000 in
theorem c_X1_isBusyAtPair (l : Launch) (D : va_G) (b : Nat) (P : Nat → Int32) (q : Nat) (first : Int32) (hq : q < 3) : Met l yX1_isBusyAtPair (wA yX1_isBusyAtPair cX1_isBusyAtPair 2 (some .boolean)) (rmL 0) (gPc D [.ref (b + 24 + 2 * q), .int first] (fun H => Graph D b P H)) (gQi (inG b) (fR_X1_isBusyAtPair P q first) (fun H => Graph D b P H)) 0 0 (inG b) := by
  refine Met.ofW (cc := cX1_isBusyAtPair) (maxL := 2) (ret := (some .boolean)) (by decide) rfl ?_
  intro p e s m args below meth c s₁ B hml hv
  obtain ⟨hav, hG, hK⟩ := hv
  have hx := B.exec
  have hb := B.bytes
  have hr := B.returns
  have hts0 := atoms_spec (ws := wA yX1_isBusyAtPair cX1_isBusyAtPair 2 (some .boolean)) B.pre
  have hts : ∀ w ∈ AW, w.before _ s = true := fun w h => hts0 w (List.mem_cons_of_mem _ h)
  have hown : s.vm.findClass RX1 = some m.cls := findClass_of_methodNamed B.named
  have hlocks := B.notSynchronized
  have hA : ∀ q, (inG b) q → (inG b) q := fun _ h => h
  have hS : va_S (inG b) s.heap s.heap [] := va_S.rf
  have hG : Graph D b P s.heap := hG
  have hl := lv_entry ([.ref (b + 24 + 2 * q), .int first]) (n := 2) (Nat.le_of_ble_eq_true rfl)
  refine W.eq (g2 := entryFrame m ([.ref (b + 24 + 2 * q), .int first] : List Value).toArray 2) (by rw [hav]) ?_
  rw [lg_entry_eq]
  generalize (lg_sl ([.ref (b + 24 + 2 * q), .int first]) ++ List.replicate (2 - (lg_sl ([.ref (b + 24 + 2 * q), .int first])).length) Slot.unset).toArray = ls at hl ⊢
  have hl : lv_has ls 2 [(0, .ref (b + 24 + 2 * q)), (1, .int first)] := hl
  refine lv_aload_n hx hb dX1_isBusyAtPair_0 rfl (lv_at hl 0 rfl) ?_
  refine getP 6 5 (i := q) rfl hx hb hts hown hK hG (by omega) (by decide) (by decide) qF_X1_31 rfl dX1_isBusyAtPair_1 ?_
  refine lv_if_le (tgt := 29) hx hb dX1_isBusyAtPair_4 (by decide) (fun c4 => ?_) (fun c4 => ?_)
  · refine lv_iconst (v := 0) hx hb dX1_isBusyAtPair_29 (by decide) ?_
    have hG9 := hG
    exact W.zret hx hb hr (by first | with_reducible exact nb_of in_b | with_reducible exact nb_of takes_b | rfl) (fun t ht hW => gQi_of (by unfold fR_X1_isBusyAtPair; (try dsimp only); (try rw [if_pos c4]); (try rfl)) hG9 hS ht) hS.2.2 dX1_isBusyAtPair_30
  · refine lv_aload_n hx hb dX1_isBusyAtPair_7 rfl (lv_at hl 0 rfl) ?_
    refine getP 5 4 (i := q) rfl hx hb hts hown hK hG (by omega) (by decide) (by decide) qF_X1_28 rfl dX1_isBusyAtPair_8 ?_
    refine lv_iload_n hx hb dX1_isBusyAtPair_11 rfl (lv_at hl 1 rfl) ?_
    refine lv_icmp_eq (tgt := 25) hx hb dX1_isBusyAtPair_12 (by decide) (fun c12 => ?_) (fun c12 => ?_)
    · refine lv_iconst (v := 1) hx hb dX1_isBusyAtPair_25 (by decide) ?_
      refine lv_goto (tgt := 30) hx hb dX1_isBusyAtPair_26 (by decide) ?_
      have hG9 := hG
      exact W.zret hx hb hr (by first | with_reducible exact nb_of in_b | with_reducible exact nb_of takes_b | rfl) (fun t ht hW => gQi_of (by unfold fR_X1_isBusyAtPair; (try dsimp only); (try rw [if_neg c4, if_pos c12]); (try rfl)) hG9 hS ht) hS.2.2 dX1_isBusyAtPair_30
    · refine lv_aload_n hx hb dX1_isBusyAtPair_15 rfl (lv_at hl 0 rfl) ?_
      refine getP 5 4 (i := q) rfl hx hb hts hown hK hG (by omega) (by decide) (by decide) qF_X1_28 rfl dX1_isBusyAtPair_16 ?_
      refine lv_iload_n hx hb dX1_isBusyAtPair_19 rfl (lv_at hl 1 rfl) ?_
      refine lv_iconst (v := 1) hx hb dX1_isBusyAtPair_20 (by decide) ?_
      refine lv_iadd hx hb dX1_isBusyAtPair_21 ?_
      refine lv_icmp_ne (tgt := 29) hx hb dX1_isBusyAtPair_22 (by decide) (fun c22 => ?_) (fun c22 => ?_)
      · refine lv_iconst (v := 0) hx hb dX1_isBusyAtPair_29 (by decide) ?_
        have hG9 := hG
        exact W.zret hx hb hr (by first | with_reducible exact nb_of in_b | with_reducible exact nb_of takes_b | rfl) (fun t ht hW => gQi_of (by unfold fR_X1_isBusyAtPair; (try dsimp only); (try rw [if_neg c4, if_neg c12, if_neg c22]); (try rfl)) hG9 hS ht) hS.2.2 dX1_isBusyAtPair_30
      · refine lv_iconst (v := 1) hx hb dX1_isBusyAtPair_25 (by decide) ?_
        refine lv_goto (tgt := 30) hx hb dX1_isBusyAtPair_26 (by decide) ?_
        have hG9 := hG
        exact W.zret hx hb hr (by first | with_reducible exact nb_of in_b | with_reducible exact nb_of takes_b | rfl) (fun t ht hW => gQi_of (by unfold fR_X1_isBusyAtPair; (try dsimp only); (try rw [if_neg c4, if_neg c12, if_pos c22]); (try rfl)) hG9 hS ht) hS.2.2 dX1_isBusyAtPair_30
