theorem hdv_X4_number : yX4_number.cls = RX4 ∧ yX4_number.cls ≠ "java/lang/invoke/MethodHandle" ∧ yX4_number.cls ≠ "java/lang/invoke/VarHandle" ∧ (parseMethodDescriptor yX4_number.desc).map (fun d => d.parameters.length) = some 1 := by decide +kernel
def fR_X4_number (P : Nat → Int32) (r : Nat) (w : Nat) : Int32 :=
  P (229 + 4 * r + w)
set_option maxHeartbeats 4000000 in
set_option maxRecDepth 100000 in
theorem c_X4_number (l : Launch) (D : va_G) (b : Nat) (P : Nat → Int32) (r : Nat) (w : Nat) (hr3 : r < 3) (hw : w < 4) : Met l yX4_number (wA yX4_number cX4_number 2 (some .int)) (rmL 0) (gPc D [.ref (b + 30 + r), .int (nI w)] (fun H => Graph D b P H)) (gQi (inG b) (fR_X4_number P r w) (fun H => Graph D b P H)) 0 0 (inG b) := by
  refine Met.ofW (cc := cX4_number) (maxL := 2) (ret := (some .int)) (by decide) rfl ?_
  intro p e s m args below meth c s₁ B hml hv
  obtain ⟨hav, hG, hK⟩ := hv
  have hx := B.exec
  have hb := B.bytes
  have hr := B.returns
  have hts0 := atoms_spec (ws := wA yX4_number cX4_number 2 (some .int)) B.pre
  have hts : ∀ w ∈ AW, w.before _ s = true := fun w h => hts0 w (List.mem_cons_of_mem _ h)
  have hown : s.vm.findClass RX4 = some m.cls := findClass_of_methodNamed B.named
  have hlocks := B.notSynchronized
  have hA : ∀ q, (inG b) q → (inG b) q := fun _ h => h
  have hS : va_S (inG b) s.heap s.heap [] := va_S.rf
  have hG : Graph D b P s.heap := hG
  have hl := lv_entry ([.ref (b + 30 + r), .int (nI w)]) (n := 2) (Nat.le_of_ble_eq_true rfl)
  refine W.eq (g2 := entryFrame m ([.ref (b + 30 + r), .int (nI w)] : List Value).toArray 2) (by rw [hav]) ?_
  rw [lg_entry_eq]
  generalize (lg_sl ([.ref (b + 30 + r), .int (nI w)]) ++ List.replicate (2 - (lg_sl ([.ref (b + 30 + r), .int (nI w)])).length) Slot.unset).toArray = ls at hl ⊢
  have hl : lv_has ls 2 [(0, .ref (b + 30 + r)), (1, .int (nI w))] := hl
  refine lv_iload_n hx hb dX4_number_0 rfl (lv_at hl 1 rfl) ?_
  rcases (show w = 0 ∨ w = 1 ∨ w = 2 ∨ w = 3 by omega) with rfl | rfl | rfl | rfl
  · refine lv_tableIn (off := 27) (tgt := 28) hx hb dX4_number_1 (by decide) (by decide) rfl (by decide) ?_
    refine lv_aload_n hx hb dX4_number_28 rfl (lv_at hl 0 rfl) ?_
    refine getT 0 (i := r) hx hb hts hown hK hG (by omega) (by decide) qF_X4_7 rfl dX4_number_29 ?_
    have hG9 := hG
    exact W.iret hx hb hr (fun t ht hW => gQi_of (by unfold fR_X4_number; (try dsimp only); (try rfl)) hG9 hS ht) hS.2.2 dX4_number_32
  · refine lv_tableIn (off := 32) (tgt := 33) hx hb dX4_number_1 (by decide) (by decide) rfl (by decide) ?_
    refine lv_aload_n hx hb dX4_number_33 rfl (lv_at hl 0 rfl) ?_
    refine getT 1 (i := r) hx hb hts hown hK hG (by omega) (by decide) qF_X4_13 rfl dX4_number_34 ?_
    have hG9 := hG
    exact W.iret hx hb hr (fun t ht hW => gQi_of (by unfold fR_X4_number; (try dsimp only); (try rfl)) hG9 hS ht) hS.2.2 dX4_number_37
  · refine lv_tableIn (off := 37) (tgt := 38) hx hb dX4_number_1 (by decide) (by decide) rfl (by decide) ?_
    refine lv_aload_n hx hb dX4_number_38 rfl (lv_at hl 0 rfl) ?_
    refine getT 2 (i := r) hx hb hts hown hK hG (by omega) (by decide) qF_X4_16 rfl dX4_number_39 ?_
    have hG9 := hG
    exact W.iret hx hb hr (fun t ht hW => gQi_of (by unfold fR_X4_number; (try dsimp only); (try rfl)) hG9 hS ht) hS.2.2 dX4_number_42
  · refine lv_tableOut (tgt := 43) hx hb dX4_number_1 (by decide) (by decide) ?_
    refine lv_aload_n hx hb dX4_number_43 rfl (lv_at hl 0 rfl) ?_
    refine getT 3 (i := r) hx hb hts hown hK hG (by omega) (by decide) qF_X4_19 rfl dX4_number_44 ?_
    have hG9 := hG
    exact W.iret hx hb hr (fun t ht hW => gQi_of (by unfold fR_X4_number; (try dsimp only); (try rfl)) hG9 hS ht) hS.2.2 dX4_number_47
theorem hdv_X1_number : yX1_number.cls = RX1 ∧ yX1_number.cls ≠ "java/lang/invoke/MethodHandle" ∧ yX1_number.cls ≠ "java/lang/invoke/VarHandle" ∧ (parseMethodDescriptor yX1_number.desc).map (fun d => d.parameters.length) = some 1 := by decide +kernel
def fR_X1_number (P : Nat → Int32) (q : Nat) (w : Nat) : Int32 :=
  P (169 + 20 * q + w)
set_option maxHeartbeats 4000000 in
set_option maxRecDepth 100000 in
theorem c_X1_number (l : Launch) (D : va_G) (b : Nat) (P : Nat → Int32) (q : Nat) (w : Nat) (hq : q < 3) (hw : w < 8) : Met l yX1_number (wA yX1_number cX1_number 2 (some .int)) (rmL 0) (gPc D [.ref (b + 24 + 2 * q), .int (nI w)] (fun H => Graph D b P H)) (gQi (inG b) (fR_X1_number P q w) (fun H => Graph D b P H)) 0 0 (inG b) := by
  refine Met.ofW (cc := cX1_number) (maxL := 2) (ret := (some .int)) (by decide) rfl ?_
  intro p e s m args below meth c s₁ B hml hv
  obtain ⟨hav, hG, hK⟩ := hv
  have hx := B.exec
  have hb := B.bytes
  have hr := B.returns
  have hts0 := atoms_spec (ws := wA yX1_number cX1_number 2 (some .int)) B.pre
  have hts : ∀ w ∈ AW, w.before _ s = true := fun w h => hts0 w (List.mem_cons_of_mem _ h)
  have hown : s.vm.findClass RX1 = some m.cls := findClass_of_methodNamed B.named
  have hlocks := B.notSynchronized
  have hA : ∀ q, (inG b) q → (inG b) q := fun _ h => h
  have hS : va_S (inG b) s.heap s.heap [] := va_S.rf
  have hG : Graph D b P s.heap := hG
  have hl := lv_entry ([.ref (b + 24 + 2 * q), .int (nI w)]) (n := 2) (Nat.le_of_ble_eq_true rfl)
  refine W.eq (g2 := entryFrame m ([.ref (b + 24 + 2 * q), .int (nI w)] : List Value).toArray 2) (by rw [hav]) ?_
  rw [lg_entry_eq]
  generalize (lg_sl ([.ref (b + 24 + 2 * q), .int (nI w)]) ++ List.replicate (2 - (lg_sl ([.ref (b + 24 + 2 * q), .int (nI w)])).length) Slot.unset).toArray = ls at hl ⊢
  have hl : lv_has ls 2 [(0, .ref (b + 24 + 2 * q)), (1, .int (nI w))] := hl
  refine lv_iload_n hx hb dX1_number_0 rfl (lv_at hl 1 rfl) ?_
  rcases (show w = 0 ∨ w = 1 ∨ w = 2 ∨ w = 3 ∨ w = 4 ∨ w = 5 ∨ w = 6 ∨ w = 7 by omega) with rfl | rfl | rfl | rfl | rfl | rfl | rfl | rfl
  · refine lv_tableIn (off := 43) (tgt := 44) hx hb dX1_number_1 (by decide) (by decide) rfl (by decide) ?_
    refine lv_aload_n hx hb dX1_number_44 rfl (lv_at hl 0 rfl) ?_
    refine getP 0 0 (i := q) rfl hx hb hts hown hK hG (by omega) (by decide) (by decide) qF_X1_15 rfl dX1_number_45 ?_
    have hG9 := hG
    exact W.iret hx hb hr (fun t ht hW => gQi_of (by unfold fR_X1_number; (try dsimp only); (try rfl)) hG9 hS ht) hS.2.2 dX1_number_48
  · refine lv_tableIn (off := 48) (tgt := 49) hx hb dX1_number_1 (by decide) (by decide) rfl (by decide) ?_
    refine lv_aload_n hx hb dX1_number_49 rfl (lv_at hl 0 rfl) ?_
    refine getP 1 1 (i := q) rfl hx hb hts hown hK hG (by omega) (by decide) (by decide) qF_X1_19 rfl dX1_number_50 ?_
    have hG9 := hG
    exact W.iret hx hb hr (fun t ht hW => gQi_of (by unfold fR_X1_number; (try dsimp only); (try rfl)) hG9 hS ht) hS.2.2 dX1_number_53
  · refine lv_tableIn (off := 53) (tgt := 54) hx hb dX1_number_1 (by decide) (by decide) rfl (by decide) ?_
    refine lv_aload_n hx hb dX1_number_54 rfl (lv_at hl 0 rfl) ?_
    refine getP 2 2 (i := q) rfl hx hb hts hown hK hG (by omega) (by decide) (by decide) qF_X1_22 rfl dX1_number_55 ?_
    have hG9 := hG
    exact W.iret hx hb hr (fun t ht hW => gQi_of (by unfold fR_X1_number; (try dsimp only); (try rfl)) hG9 hS ht) hS.2.2 dX1_number_58
  · refine lv_tableIn (off := 58) (tgt := 59) hx hb dX1_number_1 (by decide) (by decide) rfl (by decide) ?_
    refine lv_aload_n hx hb dX1_number_59 rfl (lv_at hl 0 rfl) ?_
    refine getP 4 3 (i := q) rfl hx hb hts hown hK hG (by omega) (by decide) (by decide) qF_X1_25 rfl dX1_number_60 ?_
    have hG9 := hG
    exact W.iret hx hb hr (fun t ht hW => gQi_of (by unfold fR_X1_number; (try dsimp only); (try rfl)) hG9 hS ht) hS.2.2 dX1_number_63
  · refine lv_tableIn (off := 63) (tgt := 64) hx hb dX1_number_1 (by decide) (by decide) rfl (by decide) ?_
    refine lv_aload_n hx hb dX1_number_64 rfl (lv_at hl 0 rfl) ?_
    refine getP 5 4 (i := q) rfl hx hb hts hown hK hG (by omega) (by decide) (by decide) qF_X1_28 rfl dX1_number_65 ?_
    have hG9 := hG
    exact W.iret hx hb hr (fun t ht hW => gQi_of (by unfold fR_X1_number; (try dsimp only); (try rfl)) hG9 hS ht) hS.2.2 dX1_number_68
  · refine lv_tableIn (off := 68) (tgt := 69) hx hb dX1_number_1 (by decide) (by decide) rfl (by decide) ?_
    refine lv_aload_n hx hb dX1_number_69 rfl (lv_at hl 0 rfl) ?_
    refine getP 6 5 (i := q) rfl hx hb hts hown hK hG (by omega) (by decide) (by decide) qF_X1_31 rfl dX1_number_70 ?_
    have hG9 := hG
    exact W.iret hx hb hr (fun t ht hW => gQi_of (by unfold fR_X1_number; (try dsimp only); (try rfl)) hG9 hS ht) hS.2.2 dX1_number_73
  · refine lv_tableIn (off := 73) (tgt := 74) hx hb dX1_number_1 (by decide) (by decide) rfl (by decide) ?_
    refine lv_aload_n hx hb dX1_number_74 rfl (lv_at hl 0 rfl) ?_
    refine getP 7 6 (i := q) rfl hx hb hts hown hK hG (by omega) (by decide) (by decide) qF_X1_34 rfl dX1_number_75 ?_
    have hG9 := hG
    exact W.iret hx hb hr (fun t ht hW => gQi_of (by unfold fR_X1_number; (try dsimp only); (try rfl)) hG9 hS ht) hS.2.2 dX1_number_78
  · refine lv_tableOut (tgt := 79) hx hb dX1_number_1 (by decide) (by decide) ?_
    refine lv_aload_n hx hb dX1_number_79 rfl (lv_at hl 0 rfl) ?_
    refine getP 8 7 (i := q) rfl hx hb hts hown hK hG (by omega) (by decide) (by decide) qF_X1_37 rfl dX1_number_80 ?_
    have hG9 := hG
    exact W.iret hx hb hr (fun t ht hW => gQi_of (by unfold fR_X1_number; (try dsimp only); (try rfl)) hG9 hS ht) hS.2.2 dX1_number_83
theorem hdv_X0_isDue : yX0_isDue.cls = RX0 ∧ yX0_isDue.cls ≠ "java/lang/invoke/MethodHandle" ∧ yX0_isDue.cls ≠ "java/lang/invoke/VarHandle" ∧ (parseMethodDescriptor yX0_isDue.desc).map (fun d => d.parameters.length) = some 1 := by decide +kernel
def fR_X0_isDue (P : Nat → Int32) (i : Nat) : Int32 :=
  if P (9 + 8 * i + 2) < P (229 + 4 * (pr P i) + 0) then
    0
  else
    1
set_option maxHeartbeats 4000000 in
set_option maxRecDepth 100000 in
theorem c_X0_isDue (l : Launch) (D : va_G) (b : Nat) (P : Nat → Int32) (i : Nat) (hi : i < 20) (hp : okR P i) : Met l yX0_isDue (wA yX0_isDue cX0_isDue 2 (some .boolean)) (rmL 0) (gPc D [.ref b, .ref (b + 4 + i)] (fun H => Graph D b P H)) (gQi (inG b) (fR_X0_isDue P i) (fun H => Graph D b P H)) 0 0 (inG b) := by
  refine Met.ofW (cc := cX0_isDue) (maxL := 2) (ret := (some .boolean)) (by decide) rfl ?_
  intro p e s m args below meth c s₁ B hml hv
  obtain ⟨hav, hG, hK⟩ := hv
  have hx := B.exec
  have hb := B.bytes
  have hr := B.returns
  have hts0 := atoms_spec (ws := wA yX0_isDue cX0_isDue 2 (some .boolean)) B.pre
  have hts : ∀ w ∈ AW, w.before _ s = true := fun w h => hts0 w (List.mem_cons_of_mem _ h)
  have hown : s.vm.findClass RX0 = some m.cls := findClass_of_methodNamed B.named
  have hlocks := B.notSynchronized
  have hA : ∀ q, (inG b) q → (inG b) q := fun _ h => h
  have hS : va_S (inG b) s.heap s.heap [] := va_S.rf
  have hG : Graph D b P s.heap := hG
  have hl := lv_entry ([.ref b, .ref (b + 4 + i)]) (n := 2) (Nat.le_of_ble_eq_true rfl)
  refine W.eq (g2 := entryFrame m ([.ref b, .ref (b + 4 + i)] : List Value).toArray 2) (by rw [hav]) ?_
  rw [lg_entry_eq]
  generalize (lg_sl ([.ref b, .ref (b + 4 + i)]) ++ List.replicate (2 - (lg_sl ([.ref b, .ref (b + 4 + i)])).length) Slot.unset).toArray = ls at hl ⊢
  have hl : lv_has ls 2 [(0, .ref b), (1, .ref (b + 4 + i))] := hl
  refine lv_aload_n hx hb dX0_isDue_0 rfl (lv_at hl 1 rfl) ?_
  refine getS 2 (i := i) hx hb hts hown hK hG (by omega) (by decide) qF_X0_82 rfl dX0_isDue_1 ?_
  refine lv_aload_n hx hb dX0_isDue_4 rfl (lv_at hl 0 rfl) ?_
  refine getCt hx hb hts hown hK hG qF_X0_25 dX0_isDue_5 ?_
  refine lv_aload_n hx hb dX0_isDue_8 rfl (lv_at hl 1 rfl) ?_
  refine getS 1 (i := i) hx hb hts hown hK hG (by omega) (by decide) qF_X0_79 rfl dX0_isDue_9 ?_
  refine topN (n := (pr P i)) hp.1 ?_
  refine aldT (i := (pr P i)) hx hb hK hG hp.2 dX0_isDue_12 ?_
  refine getT 0 (i := (pr P i)) hx hb hts hown hK hG hp.2 (by decide) qF_X0_106 rfl dX0_isDue_13 ?_
  refine lv_icmp_lt (tgt := 23) hx hb dX0_isDue_16 (by decide) (fun c16 => ?_) (fun c16 => ?_)
  · refine lv_iconst (v := 0) hx hb dX0_isDue_23 (by decide) ?_
    have hG9 := hG
    exact W.zret hx hb hr (by rfl) (fun t ht hW => gQi_of (by unfold fR_X0_isDue; (try dsimp only); (try rw [if_pos c16]); (try rfl)) hG9 hS ht) hS.2.2 dX0_isDue_24
  · refine lv_iconst (v := 1) hx hb dX0_isDue_19 (by decide) ?_
    refine lv_goto (tgt := 24) hx hb dX0_isDue_20 (by decide) ?_
    have hG9 := hG
    exact W.zret hx hb hr (by rfl) (fun t ht hW => gQi_of (by unfold fR_X0_isDue; (try dsimp only); (try rw [if_neg c16]); (try rfl)) hG9 hS ht) hS.2.2 dX0_isDue_24
theorem hdv_X0_fill : yX0_fill.cls = RX0 ∧ yX0_fill.cls ≠ "java/lang/invoke/MethodHandle" ∧ yX0_fill.cls ≠ "java/lang/invoke/VarHandle" ∧ (parseMethodDescriptor yX0_fill.desc).map (fun d => d.parameters.length) = some 1 := by decide +kernel
def fP_X0_fill (P : Nat → Int32) (q : Nat) : Nat → Int32 :=
  let x1 := (if P 3 < (P (169 + 20 * q + 1)) - (P (169 + 20 * q + 2)) then P 3 else (P (169 + 20 * q + 1)) - (P (169 + 20 * q + 2)))
  let x2 := (P (169 + 20 * q + 2)) + x1
  let P3 := upd P (169 + 20 * q + 2) x2
  let x4 := (P3 3) - x1
  let P5 := upd P3 3 x4
  P5
set_option maxHeartbeats 4000000 in
set_option maxRecDepth 100000 in
theorem c_X0_fill (l : Launch) (D : va_G) (b : Nat) (P : Nat → Int32) (q : Nat) (hq : q < 3) : Met l yX0_fill (wA yX0_fill cX0_fill 3 none) (rmL 1) (gPc D [.ref b, .ref (b + 24 + 2 * q)] (fun H => Graph D b P H)) (gQv (inG b) (fun H => Graph D b (fP_X0_fill P q) H)) 0 0 (inG b) := by
  refine Met.ofW (cc := cX0_fill) (maxL := 3) (ret := none) (by decide) rfl ?_
  intro p e s m args below meth c s₁ B hml hv
  obtain ⟨hav, hG, hK⟩ := hv
  have hx := B.exec
  have hb := B.bytes
  have hr := B.returns
  have hts0 := atoms_spec (ws := wA yX0_fill cX0_fill 3 none) B.pre
  have hts : ∀ w ∈ AW, w.before _ s = true := fun w h => hts0 w (List.mem_cons_of_mem _ h)
  have hown : s.vm.findClass RX0 = some m.cls := findClass_of_methodNamed B.named
  have hlocks := B.notSynchronized
  have hA : ∀ q, (inG b) q → (inG b) q := fun _ h => h
  have hS : va_S (inG b) s.heap s.heap [] := va_S.rf
  have hG : Graph D b P s.heap := hG
  have hl := lv_entry ([.ref b, .ref (b + 24 + 2 * q)]) (n := 3) (Nat.le_of_ble_eq_true rfl)
  refine W.eq (g2 := entryFrame m ([.ref b, .ref (b + 24 + 2 * q)] : List Value).toArray 3) (by rw [hav]) ?_
  rw [lg_entry_eq]
  generalize (lg_sl ([.ref b, .ref (b + 24 + 2 * q)]) ++ List.replicate (3 - (lg_sl ([.ref b, .ref (b + 24 + 2 * q)])).length) Slot.unset).toArray = ls at hl ⊢
  have hl : lv_has ls 3 [(0, .ref b), (1, .ref (b + 24 + 2 * q))] := hl
  refine lv_aload_n hx hb dX0_fill_0 rfl (lv_at hl 1 rfl) ?_
  refine getP 1 1 (i := q) rfl hx hb hts hown hK hG (by omega) (by decide) (by decide) qF_X0_156 rfl dX0_fill_1 ?_
  refine lv_aload_n hx hb dX0_fill_4 rfl (lv_at hl 1 rfl) ?_
  refine getP 2 2 (i := q) rfl hx hb hts hown hK hG (by omega) (by decide) (by decide) qF_X0_159 rfl dX0_fill_5 ?_
  refine lv_isub hx hb dX0_fill_8 ?_
  refine lv_aload_n hx hb dX0_fill_9 rfl (lv_at hl 0 rfl) ?_
  refine getC 6 3 rfl hx hb hts hown hK hG (by decide) (by decide) (by decide) (by decide) qF_X0_29 rfl dX0_fill_10 ?_
  refine gmin hx hb hml hown hts hl.1 qM_X0_162 (Nat.le_of_ble_eq_true rfl) (Nat.le_of_ble_eq_true rfl) ⟨Nat.zero_le _, Nat.zero_le _⟩ dX0_fill_13 ?_
  refine lv_topi (fun x1 ex1 => ?_)
  refine lv_istore_n (lv' := [(2, .int x1), (0, .ref b), (1, .ref (b + 24 + 2 * q))]) hx hb dX0_fill_16 rfl hl (by decide) rfl (fun ls hl => ?_)
  refine lv_aload_n hx hb dX0_fill_17 rfl (lv_at hl 2 rfl) ?_
  refine lv_dup hx hb dX0_fill_18 rfl ?_
  refine getP 2 2 (i := q) rfl hx hb hts hown hK hG (by omega) (by decide) (by decide) qF_X0_159 rfl dX0_fill_19 ?_
  refine lv_iload_n hx hb dX0_fill_22 rfl (lv_at hl 0 rfl) ?_
  refine lv_iadd hx hb dX0_fill_23 ?_
  refine lv_topi (fun x2 ex2 => ?_)
  refine putP 2 2 (i := q) rfl hx hb hts hown hK hG hS hA (by omega) (by decide) (by decide) qF_X0_159 rfl dX0_fill_24 (fun H locs hG hS => ?_)
  generalize eP3 : upd P (169 + 20 * q + 2) x2 = P3 at hG
  refine lv_aload_n hx hb dX0_fill_27 rfl (lv_at hl 1 rfl) ?_
  refine lv_dup hx hb dX0_fill_28 rfl ?_
  refine getC 6 3 rfl hx hb hts hown hK hG (by decide) (by decide) (by decide) (by decide) qF_X0_29 rfl dX0_fill_29 ?_
  refine lv_iload_n hx hb dX0_fill_32 rfl (lv_at hl 0 rfl) ?_
  refine lv_isub hx hb dX0_fill_33 ?_
  refine lv_topi (fun x4 ex4 => ?_)
  refine putC 6 3 rfl hx hb hts hown hK hG hS hA (by decide) (by decide) (by decide) (by decide) qF_X0_29 rfl dX0_fill_34 (fun H locs hG hS => ?_)
  generalize eP5 : upd P3 3 x4 = P5 at hG
  subst eP5
  subst ex4
  subst eP3
  subst ex2
  subst ex1
  have hG9 : Graph D b (fP_X0_fill P q) H := by
    unfold fP_X0_fill; (try dsimp only)
    exact hG
  exact W.vret hx hb hr (fun t ht hW => gQv_of hG9 hS ht) hS.2.2 dX0_fill_37
theorem hdv_X0_clear : yX0_clear.cls = RX0 ∧ yX0_clear.cls ≠ "java/lang/invoke/MethodHandle" ∧ yX0_clear.cls ≠ "java/lang/invoke/VarHandle" ∧ (parseMethodDescriptor yX0_clear.desc).map (fun d => d.parameters.length) = some 2 := by decide +kernel
def fP_X0_clear (P : Nat → Int32) (i : Nat) (q : Nat) : Nat → Int32 :=
  let x1 := (((P (9 + 8 * i + 0)) * (P 4)) + 999) / 1000
  let x2 := (if P (169 + 20 * q + 2) < x1 then P (169 + 20 * q + 2) else x1)
  let x3 := (P (169 + 20 * q + 2)) - x2
  let P4 := upd P (169 + 20 * q + 2) x3
  let x5 := (P4 8) + x2
  let P6 := upd P4 8 x5
  let P7 := fP_X3_becomeClear P6 i (P6 0) x2 x1
  P7
set_option maxHeartbeats 4000000 in
set_option maxRecDepth 100000 in
theorem c_X0_clear (l : Launch) (D : va_G) (b : Nat) (P : Nat → Int32) (i : Nat) (q : Nat) (hi : i < 20) (hq : q < 3) : Met l yX0_clear (wA yX0_clear cX0_clear 5 none) (rmL 1) (gPc D [.ref b, .ref (b + 4 + i), .ref (b + 24 + 2 * q)] (fun H => Graph D b P H)) (gQv (inG b) (fun H => Graph D b (fP_X0_clear P i q) H)) 0 0 (inG b) := by
  refine Met.ofW (cc := cX0_clear) (maxL := 5) (ret := none) (by decide) rfl ?_
  intro p e s m args below meth c s₁ B hml hv
  obtain ⟨hav, hG, hK⟩ := hv
  have hx := B.exec
  have hb := B.bytes
  have hr := B.returns
  have hts0 := atoms_spec (ws := wA yX0_clear cX0_clear 5 none) B.pre
  have hts : ∀ w ∈ AW, w.before _ s = true := fun w h => hts0 w (List.mem_cons_of_mem _ h)
  have hown : s.vm.findClass RX0 = some m.cls := findClass_of_methodNamed B.named
  have hlocks := B.notSynchronized
  have hA : ∀ q, (inG b) q → (inG b) q := fun _ h => h
  have hS : va_S (inG b) s.heap s.heap [] := va_S.rf
  have hG : Graph D b P s.heap := hG
  have hl := lv_entry ([.ref b, .ref (b + 4 + i), .ref (b + 24 + 2 * q)]) (n := 5) (Nat.le_of_ble_eq_true rfl)
  refine W.eq (g2 := entryFrame m ([.ref b, .ref (b + 4 + i), .ref (b + 24 + 2 * q)] : List Value).toArray 5) (by rw [hav]) ?_
  rw [lg_entry_eq]
  generalize (lg_sl ([.ref b, .ref (b + 4 + i), .ref (b + 24 + 2 * q)]) ++ List.replicate (5 - (lg_sl ([.ref b, .ref (b + 4 + i), .ref (b + 24 + 2 * q)])).length) Slot.unset).toArray = ls at hl ⊢
  have hl : lv_has ls 5 [(0, .ref b), (1, .ref (b + 4 + i)), (2, .ref (b + 24 + 2 * q))] := hl
  refine lv_aload_n hx hb dX0_clear_0 rfl (lv_at hl 1 rfl) ?_
  refine getS 0 (i := i) hx hb hts hown hK hG (by omega) (by decide) qF_X0_76 rfl dX0_clear_1 ?_
  refine lv_aload_n hx hb dX0_clear_4 rfl (lv_at hl 0 rfl) ?_
  refine getC 7 4 rfl hx hb hts hown hK hG (by decide) (by decide) (by decide) (by decide) qF_X0_33 rfl dX0_clear_5 ?_
  refine lv_imul hx hb dX0_clear_8 ?_
  refine lv_sipush (v := 999) hx hb dX0_clear_9 (by decide) ?_
  refine lv_iadd hx hb dX0_clear_12 ?_
  refine lv_sipush (v := 1000) hx hb dX0_clear_13 (by decide) ?_
  refine lv_idiv hx hb dX0_clear_16 (by decide) ?_
  refine lv_topi (fun x1 ex1 => ?_)
  refine lv_istore_n (lv' := [(3, .int x1), (0, .ref b), (1, .ref (b + 4 + i)), (2, .ref (b + 24 + 2 * q))]) hx hb dX0_clear_17 rfl hl (by decide) rfl (fun ls hl => ?_)
  refine lv_iload_n hx hb dX0_clear_18 rfl (lv_at hl 0 rfl) ?_
  refine lv_aload_n hx hb dX0_clear_19 rfl (lv_at hl 3 rfl) ?_
  refine getP 2 2 (i := q) rfl hx hb hts hown hK hG (by omega) (by decide) (by decide) qF_X0_159 rfl dX0_clear_20 ?_
  refine gmin hx hb hml hown hts hl.1 qM_X0_162 (Nat.le_of_ble_eq_true rfl) (Nat.le_of_ble_eq_true rfl) ⟨Nat.zero_le _, Nat.zero_le _⟩ dX0_clear_23 ?_
  refine lv_topi (fun x2 ex2 => ?_)
  refine lv_istore (lv' := [(4, .int x2), (3, .int x1), (0, .ref b), (1, .ref (b + 4 + i)), (2, .ref (b + 24 + 2 * q))]) hx hb dX0_clear_26 hl (by decide) rfl (fun ls hl => ?_)
  refine lv_aload_n hx hb dX0_clear_28 rfl (lv_at hl 4 rfl) ?_
  refine lv_dup hx hb dX0_clear_29 rfl ?_
  refine getP 2 2 (i := q) rfl hx hb hts hown hK hG (by omega) (by decide) (by decide) qF_X0_159 rfl dX0_clear_30 ?_
  refine lv_iload hx hb dX0_clear_33 (lv_at hl 0 rfl) ?_
  refine lv_isub hx hb dX0_clear_35 ?_
  refine lv_topi (fun x3 ex3 => ?_)
  refine putP 2 2 (i := q) rfl hx hb hts hown hK hG hS hA (by omega) (by decide) (by decide) qF_X0_159 rfl dX0_clear_36 (fun H locs hG hS => ?_)
  generalize eP4 : upd P (169 + 20 * q + 2) x3 = P4 at hG
  refine lv_aload_n hx hb dX0_clear_39 rfl (lv_at hl 2 rfl) ?_
  refine lv_dup hx hb dX0_clear_40 rfl ?_
  refine getC 10 8 rfl hx hb hts hown hK hG (by decide) (by decide) (by decide) (by decide) qF_X0_66 rfl dX0_clear_41 ?_
  refine lv_iload hx hb dX0_clear_44 (lv_at hl 0 rfl) ?_
  refine lv_iadd hx hb dX0_clear_46 ?_
  refine lv_topi (fun x5 ex5 => ?_)
  refine putC 10 8 rfl hx hb hts hown hK hG hS hA (by decide) (by decide) (by decide) (by decide) qF_X0_66 rfl dX0_clear_47 (fun H locs hG hS => ?_)
  generalize eP6 : upd P4 8 x5 = P6 at hG
  refine lv_aload_n hx hb dX0_clear_50 rfl (lv_at hl 3 rfl) ?_
  refine lv_aload_n hx hb dX0_clear_51 rfl (lv_at hl 2 rfl) ?_
  refine getC 5 0 rfl hx hb hts hown hK hG (by decide) (by decide) (by decide) (by decide) qF_X0_60 rfl dX0_clear_52 ?_
  refine lv_iload hx hb dX0_clear_55 (lv_at hl 0 rfl) ?_
  refine lv_iload_n hx hb dX0_clear_57 rfl (lv_at hl 1 rfl) ?_
  refine gcVv (As := [.int (P6 0), .int x2, .int x1]) (rest := []) hx hb hml hown hts hl.1 hK (c_X3_becomeClear l D b P6 i (P6 0) x2 x1 (by first | assumption | omega)) (gaV qM_X0_167 qI_X3_becomeClear qS_X3_becomeClear qK_X3 qC_X3_becomeClear) hdv_X3_becomeClear ⟨Nat.le_of_ble_eq_true rfl, Nat.le_of_ble_eq_true rfl⟩ hG (hG.recvS hK (by omega)) rfl (Nat.le_of_ble_eq_true rfl) ⟨Nat.zero_le _, Nat.zero_le _⟩ dX0_clear_58 hS hA (fun H locs hG _ _ hS => ?_)
  have hG : Graph D b (fP_X3_becomeClear P6 i (P6 0) x2 x1) H := hG
  generalize eP7 : fP_X3_becomeClear P6 i (P6 0) x2 x1 = P7 at hG
  subst eP7
  subst eP6
  subst ex5
  subst eP4
  subst ex3
  subst ex2
  subst ex1
  have hG9 : Graph D b (fP_X0_clear P i q) H := by
    unfold fP_X0_clear; (try dsimp only)
    exact hG
  exact W.vret hx hb hr (fun t ht hW => gQv_of hG9 hS ht) hS.2.2 dX0_clear_61
theorem hdv_X0_complaints : yX0_complaints.cls = RX0 ∧ yX0_complaints.cls ≠ "java/lang/invoke/MethodHandle" ∧ yX0_complaints.cls ≠ "java/lang/invoke/VarHandle" ∧ (parseMethodDescriptor yX0_complaints.desc).map (fun d => d.parameters.length) = some 0 := by decide +kernel
def fR_X0_complaints_L4 (P : Nat → Int32) : Nat → Int32 → Nat → Int32
  | 0, acc, i =>
    acc
  | k + 1, acc, i =>
    let x1 := acc + (P (229 + 4 * i + 3))
    fR_X0_complaints_L4 P k x1 (i + 1)
def fR_X0_complaints (P : Nat → Int32) : Int32 :=
  fR_X0_complaints_L4 P 3 0 0
set_option maxHeartbeats 4000000 in
set_option maxRecDepth 100000 in
theorem c_X0_complaints (l : Launch) (D : va_G) (b : Nat) (P : Nat → Int32) : Met l yX0_complaints (wA yX0_complaints cX0_complaints 3 (some .int)) (rmL 0) (gPc D [.ref b] (fun H => Graph D b P H)) (gQi (inG b) (fR_X0_complaints P) (fun H => Graph D b P H)) 0 0 (inG b) := by
  refine Met.ofW (cc := cX0_complaints) (maxL := 3) (ret := (some .int)) (by decide) rfl ?_
  intro p e s m args below meth c s₁ B hml hv
  obtain ⟨hav, hG, hK⟩ := hv
  have hx := B.exec
  have hb := B.bytes
  have hr := B.returns
  have hts0 := atoms_spec (ws := wA yX0_complaints cX0_complaints 3 (some .int)) B.pre
  have hts : ∀ w ∈ AW, w.before _ s = true := fun w h => hts0 w (List.mem_cons_of_mem _ h)
  have hown : s.vm.findClass RX0 = some m.cls := findClass_of_methodNamed B.named
  have hlocks := B.notSynchronized
  have hA : ∀ q, (inG b) q → (inG b) q := fun _ h => h
  have hS : va_S (inG b) s.heap s.heap [] := va_S.rf
  have hG : Graph D b P s.heap := hG
  have hl := lv_entry ([.ref b]) (n := 3) (Nat.le_of_ble_eq_true rfl)
  refine W.eq (g2 := entryFrame m ([.ref b] : List Value).toArray 3) (by rw [hav]) ?_
  rw [lg_entry_eq]
  generalize (lg_sl ([.ref b]) ++ List.replicate (3 - (lg_sl ([.ref b])).length) Slot.unset).toArray = ls at hl ⊢
  have hl : lv_has ls 3 [(0, .ref b)] := hl
  have L4 : ∀ (k : Nat) (acc : Int32) (i : Nat) (H : Heap) (locs : List Loc) (ls : Array Slot) (hik : i + k = 3) (hfR : fR_X0_complaints P = fR_X0_complaints_L4 P k acc i) (hG : Graph D b P H) (hS : va_S (inG b) s.heap H locs) (hl : lv_has ls 3 [(0, .ref b), (1, .int acc), (2, .int (nI i))]), W p l e (headSpec (wA yX0_complaints cX0_complaints 3 (some .int)) (rmL 0)).room s m args below meth c H locs 0 0 (MQ below (gQi (inG b) (fR_X0_complaints P) (fun H => Graph D b P H)) args s 0 0 (inG b)) (F0 m 4 ls []) := by
    intro k
    induction k with
    | zero =>
      intro acc i H locs ls hik hfR hG hS hl
      refine lv_iload_n hx hb dX0_complaints_4 rfl (lv_at hl 2 rfl) ?_
      refine lv_iconst (v := 3) hx hb dX0_complaints_5 (by decide) ?_
      refine lv_icmp_ge (tgt := 27) hx hb dX0_complaints_6 (by decide) (fun c6 => ?_) (fun c6 => ?_)
      · have c6 : 3 ≤ i := (nI_leI (a := 3) (b := i) (by omega) (by omega)).mp c6
        refine lv_iload_n hx hb dX0_complaints_27 rfl (lv_at hl 1 rfl) ?_
        have hG9 := hG
        exact W.iret hx hb hr (fun t ht hW => gQi_of (by rw [hfR, fR_X0_complaints_L4]; (try dsimp only); (try rfl)) hG9 hS ht) hS.2.2 dX0_complaints_28
      · have c6 : ¬ 3 ≤ i := fun h => c6 ((nI_leI (a := 3) (b := i) (by omega) (by omega)).mpr h)
        exfalso; omega
    | succ k ih =>
      intro acc i H locs ls hik hfR hG hS hl
      refine lv_iload_n hx hb dX0_complaints_4 rfl (lv_at hl 2 rfl) ?_
      refine lv_iconst (v := 3) hx hb dX0_complaints_5 (by decide) ?_
      refine lv_icmp_ge (tgt := 27) hx hb dX0_complaints_6 (by decide) (fun c6 => ?_) (fun c6 => ?_)
      · have c6 : 3 ≤ i := (nI_leI (a := 3) (b := i) (by omega) (by omega)).mp c6
        exfalso; omega
      · have c6 : ¬ 3 ≤ i := fun h => c6 ((nI_leI (a := 3) (b := i) (by omega) (by omega)).mpr h)
        refine lv_iload_n hx hb dX0_complaints_9 rfl (lv_at hl 1 rfl) ?_
        refine lv_aload_n hx hb dX0_complaints_10 rfl (lv_at hl 0 rfl) ?_
        refine getCt hx hb hts hown hK hG qF_X0_25 dX0_complaints_11 ?_
        refine lv_iload_n hx hb dX0_complaints_14 rfl (lv_at hl 2 rfl) ?_
        refine aldT (i := i) hx hb hK hG (by omega) dX0_complaints_15 ?_
        refine getT 3 (i := i) hx hb hts hown hK hG (by omega) (by decide) qF_X0_104 rfl dX0_complaints_16 ?_
        refine lv_iadd hx hb dX0_complaints_19 ?_
        refine lv_topi (fun x1 ex1 => ?_)
        refine lv_istore_n (lv' := [(1, .int x1), (0, .ref b), (2, .int (nI i))]) hx hb dX0_complaints_20 rfl hl (by decide) rfl (fun ls hl => ?_)
        refine lv_iinc (v := nI (i + 1)) (lv' := [(2, .int (nI (i + 1))), (1, .int x1), (0, .ref b)]) hx hb dX0_complaints_21 hl (k := 2) rfl (nI_add i 1) (by decide) rfl (fun ls hl => ?_)
        refine lv_goto (tgt := 4) hx hb dX0_complaints_24 (by decide) ?_
        subst ex1
        exact ih _ (i + 1) _ _ _ (by first | assumption | omega) (by rw [hfR, fR_X0_complaints_L4]; (try dsimp only); (try rfl)) hG hS (lv_sub hl [2, 1, 0] rfl)
  refine lv_iconst (v := 0) hx hb dX0_complaints_0 (by decide) ?_
  refine lv_istore_n (lv' := [(1, .int 0), (0, .ref b)]) hx hb dX0_complaints_1 rfl hl (by decide) rfl (fun ls hl => ?_)
  refine lv_iconst (v := 0) hx hb dX0_complaints_2 (by decide) ?_
  refine lv_istore_n (lv' := [(2, .int 0), (1, .int 0), (0, .ref b)]) hx hb dX0_complaints_3 rfl hl (by decide) rfl (fun ls hl => ?_)
  exact L4 3 _ 0 _ _ _ (by first | assumption | omega) (by unfold fR_X0_complaints; (try dsimp only); (try rfl)) hG hS (lv_sub hl [2, 1, 0] rfl)
