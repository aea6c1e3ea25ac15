theorem hdv_X5_here : yX5_here.cls = RX5 ∧ yX5_here.cls ≠ "java/lang/invoke/MethodHandle" ∧ yX5_here.cls ≠ "java/lang/invoke/VarHandle" ∧ (parseMethodDescriptor yX5_here.desc).map (fun d => d.parameters.length) = some 0 := by decide +kernel
def fR_X5_here (Y : Nat → Int32) (F : Nat → Int32) : Int32 :=
  if (tl5 F) ≤ (ta5 F) then
    (-1)
  else
    Y (ta5 F)
set_option maxHeartbeats 4000000 in
set_option maxRecDepth 100000 in
theorem c_X5_here (l : Launch) (D : va_G) (t : Nat) (Y X U Z F : Nat → Int32) (hX : okX5 F) : Met l yX5_here (wA yX5_here cX5_here 1 (some .int)) (rmL 0) (gPc D [.ref t] (fun H => Tx D t Y X U Z F H)) (gQi (inT t) (fR_X5_here Y F) (fun H => Tx D t Y X U Z F H)) 0 0 (inT t) := by
  refine Met.ofW (cc := cX5_here) (maxL := 1) (ret := (some .int)) (by decide) rfl ?_
  intro p e s m args below meth c s₁ B hml hv
  obtain ⟨hav, hG, hK⟩ := hv
  have hx := B.exec
  have hb := B.bytes
  have hr := B.returns
  have hts0 := atoms_spec (ws := wA yX5_here cX5_here 1 (some .int)) B.pre
  have hts : ∀ w ∈ AW, w.before _ s = true := fun w h => hts0 w (List.mem_cons_of_mem _ h)
  have hown : s.vm.findClass RX5 = some m.cls := findClass_of_methodNamed B.named
  have hlocks := B.notSynchronized
  have hA : ∀ q, (inT t) q → (inT t) q := fun _ h => h
  have hS : va_S (inT t) s.heap s.heap [] := va_S.rf
  have hG : Tx D t Y X U Z F s.heap := hG
  have hl := lv_entry ([.ref t]) (n := 1) (Nat.le_of_ble_eq_true rfl)
  refine W.eq (g2 := entryFrame m ([.ref t] : List Value).toArray 1) (by rw [hav]) ?_
  rw [lg_entry_eq]
  generalize (lg_sl ([.ref t]) ++ List.replicate (1 - (lg_sl ([.ref t])).length) Slot.unset).toArray = ls at hl ⊢
  have hl : lv_has ls 1 [(0, .ref t)] := hl
  have hX2 := hX.1.2
  have hX3 := hX.2.2
  refine lv_aload_n hx hb dX5_here_0 rfl (lv_at hl 0 rfl) ?_
  refine getX 6 hx hb hts hown hK hG (by decide) qF_X5_28 rfl dX5_here_1 ?_
  refine topN (n := (ta5 F)) hX.2.1 ?_
  refine lv_aload_n hx hb dX5_here_4 rfl (lv_at hl 0 rfl) ?_
  refine getX 1 hx hb hts hown hK hG (by decide) qF_X5_34 rfl dX5_here_5 ?_
  refine topN (n := (tl5 F)) hX.1.1 ?_
  refine lv_icmp_ge (tgt := 23) hx hb dX5_here_8 (by decide) (fun c8 => ?_) (fun c8 => ?_)
  · have c8 : (tl5 F) ≤ (ta5 F) := (nI_leI (a := (tl5 F)) (b := (ta5 F)) (by omega) (by omega)).mp c8
    refine lv_iconst (v := (-1)) hx hb dX5_here_23 (by decide) ?_
    have hG9 := hG
    exact W.iret hx hb hr (fun t ht hW => gQi_of (by unfold fR_X5_here; (try dsimp only); (try rw [if_pos c8]); (try rfl)) hG9 hS ht) hS.2.2 dX5_here_24
  · have c8 : ¬ (tl5 F) ≤ (ta5 F) := fun h => c8 ((nI_leI (a := (tl5 F)) (b := (ta5 F)) (by omega) (by omega)).mpr h)
    refine lv_aload_n hx hb dX5_here_11 rfl (lv_at hl 0 rfl) ?_
    refine getXb hx hb hts hown hK hG qF_X5_9 dX5_here_12 ?_
    refine lv_aload_n hx hb dX5_here_15 rfl (lv_at hl 0 rfl) ?_
    refine getX 6 hx hb hts hown hK hG (by decide) qF_X5_28 rfl dX5_here_16 ?_
    refine topN (n := (ta5 F)) hX.2.1 ?_
    refine aldXb (k := (ta5 F)) hx hb hK hG (by omega) dX5_here_19 ?_
    refine lv_goto (tgt := 24) hx hb dX5_here_20 (by decide) ?_
    have hG9 := hG
    exact W.iret hx hb hr (fun t ht hW => gQi_of (by unfold fR_X5_here; (try dsimp only); (try rw [if_neg c8]); (try rfl)) hG9 hS ht) hS.2.2 dX5_here_24
theorem hdv_X5_isDigitHere : yX5_isDigitHere.cls = RX5 ∧ yX5_isDigitHere.cls ≠ "java/lang/invoke/MethodHandle" ∧ yX5_isDigitHere.cls ≠ "java/lang/invoke/VarHandle" ∧ (parseMethodDescriptor yX5_isDigitHere.desc).map (fun d => d.parameters.length) = some 0 := by decide +kernel
def fR_X5_isDigitHere (Y : Nat → Int32) (F : Nat → Int32) : Int32 :=
  if fR_X5_here Y F < 48 then
    0
  else
    if 57 < fR_X5_here Y F then
      0
    else
      1
set_option maxHeartbeats 4000000 in
set_option maxRecDepth 100000 in
theorem c_X5_isDigitHere (l : Launch) (D : va_G) (t : Nat) (Y X U Z F : Nat → Int32) (hX : okX5 F) : Met l yX5_isDigitHere (wA yX5_isDigitHere cX5_isDigitHere 1 (some .boolean)) (rmL 1) (gPc D [.ref t] (fun H => Tx D t Y X U Z F H)) (gQi (inT t) (fR_X5_isDigitHere Y F) (fun H => Tx D t Y X U Z F H)) 0 0 (inT t) := by
  refine Met.ofW (cc := cX5_isDigitHere) (maxL := 1) (ret := (some .boolean)) (by decide) rfl ?_
  intro p e s m args below meth c s₁ B hml hv
  obtain ⟨hav, hG, hK⟩ := hv
  have hx := B.exec
  have hb := B.bytes
  have hr := B.returns
  have hts0 := atoms_spec (ws := wA yX5_isDigitHere cX5_isDigitHere 1 (some .boolean)) B.pre
  have hts : ∀ w ∈ AW, w.before _ s = true := fun w h => hts0 w (List.mem_cons_of_mem _ h)
  have hown : s.vm.findClass RX5 = some m.cls := findClass_of_methodNamed B.named
  have hlocks := B.notSynchronized
  have hA : ∀ q, (inT t) q → (inT t) q := fun _ h => h
  have hS : va_S (inT t) s.heap s.heap [] := va_S.rf
  have hG : Tx D t Y X U Z F s.heap := hG
  have hl := lv_entry ([.ref t]) (n := 1) (Nat.le_of_ble_eq_true rfl)
  refine W.eq (g2 := entryFrame m ([.ref t] : List Value).toArray 1) (by rw [hav]) ?_
  rw [lg_entry_eq]
  generalize (lg_sl ([.ref t]) ++ List.replicate (1 - (lg_sl ([.ref t])).length) Slot.unset).toArray = ls at hl ⊢
  have hl : lv_has ls 1 [(0, .ref t)] := hl
  refine lv_aload_n hx hb dX5_isDigitHere_0 rfl (lv_at hl 0 rfl) ?_
  refine gcVi (As := []) (rest := []) hx hb hml hown hts hl.1 hK (c_X5_here l D t Y X U Z F (by first | assumption | omega)) (gaV qM_X5_52 qI_X5_here qS_X5_here qK_X5 qC_X5_here) hdv_X5_here ⟨Nat.le_of_ble_eq_true rfl, Nat.le_of_ble_eq_true rfl⟩ hG (hG.recv hK) rfl (Nat.le_of_ble_eq_true rfl) ⟨Nat.zero_le _, Nat.zero_le _⟩ dX5_isDigitHere_1 hS hA (fun H locs hG _ _ hS => ?_)
  have hG : Tx D t Y X U Z F H := hG
  refine lv_bipush (v := 48) hx hb dX5_isDigitHere_4 (by decide) ?_
  refine lv_icmp_lt (tgt := 22) hx hb dX5_isDigitHere_6 (by decide) (fun c6 => ?_) (fun c6 => ?_)
  · refine lv_iconst (v := 0) hx hb dX5_isDigitHere_22 (by decide) ?_
    have hG9 := hG
    exact W.zret hx hb hr (by first | with_reducible exact nb_of in_b | with_reducible exact nb_of takes_b | rfl) (fun t ht hW => gQi_of (by unfold fR_X5_isDigitHere; (try dsimp only); (try rw [if_pos c6]); (try rfl)) hG9 hS ht) hS.2.2 dX5_isDigitHere_23
  · refine lv_aload_n hx hb dX5_isDigitHere_9 rfl (lv_at hl 0 rfl) ?_
    refine gcVi (As := []) (rest := []) hx hb hml hown hts hl.1 hK (c_X5_here l D t Y X U Z F (by first | assumption | omega)) (gaV qM_X5_52 qI_X5_here qS_X5_here qK_X5 qC_X5_here) hdv_X5_here ⟨Nat.le_of_ble_eq_true rfl, Nat.le_of_ble_eq_true rfl⟩ hG (hG.recv hK) rfl (Nat.le_of_ble_eq_true rfl) ⟨Nat.zero_le _, Nat.zero_le _⟩ dX5_isDigitHere_10 hS hA (fun H locs hG _ _ hS => ?_)
    have hG : Tx D t Y X U Z F H := hG
    refine lv_bipush (v := 57) hx hb dX5_isDigitHere_13 (by decide) ?_
    refine lv_icmp_gt (tgt := 22) hx hb dX5_isDigitHere_15 (by decide) (fun c15 => ?_) (fun c15 => ?_)
    · refine lv_iconst (v := 0) hx hb dX5_isDigitHere_22 (by decide) ?_
      have hG9 := hG
      exact W.zret hx hb hr (by first | with_reducible exact nb_of in_b | with_reducible exact nb_of takes_b | rfl) (fun t ht hW => gQi_of (by unfold fR_X5_isDigitHere; (try dsimp only); (try rw [if_neg c6, if_pos c15]); (try rfl)) hG9 hS ht) hS.2.2 dX5_isDigitHere_23
    · refine lv_iconst (v := 1) hx hb dX5_isDigitHere_18 (by decide) ?_
      refine lv_goto (tgt := 23) hx hb dX5_isDigitHere_19 (by decide) ?_
      have hG9 := hG
      exact W.zret hx hb hr (by first | with_reducible exact nb_of in_b | with_reducible exact nb_of takes_b | rfl) (fun t ht hW => gQi_of (by unfold fR_X5_isDigitHere; (try dsimp only); (try rw [if_neg c6, if_neg c15]); (try rfl)) hG9 hS ht) hS.2.2 dX5_isDigitHere_23
theorem hdv_X5_fail : yX5_fail.cls = RX5 ∧ yX5_fail.cls ≠ "java/lang/invoke/MethodHandle" ∧ yX5_fail.cls ≠ "java/lang/invoke/VarHandle" ∧ (parseMethodDescriptor yX5_fail.desc).map (fun d => d.parameters.length) = some 1 := by decide +kernel
def fF_X5_fail (F : Nat → Int32) (pos : Int32) : Nat → Int32 :=
  if F 7 = (-1) then
    let F1 := upd F 7 pos
    F1
  else
    F
set_option maxHeartbeats 4000000 in
set_option maxRecDepth 100000 in
theorem c_X5_fail (l : Launch) (D : va_G) (t : Nat) (Y X U Z F : Nat → Int32) (pos : Int32) : Met l yX5_fail (wA yX5_fail cX5_fail 2 none) (rmL 0) (gPc D [.ref t, .int pos] (fun H => Tx D t Y X U Z F H)) (gQv (inT t) (fun H => Tx D t Y X U Z (fF_X5_fail F pos) H)) 0 0 (inT t) := by
  refine Met.ofW (cc := cX5_fail) (maxL := 2) (ret := none) (by decide) rfl ?_
  intro p e s m args below meth c s₁ B hml hv
  obtain ⟨hav, hG, hK⟩ := hv
  have hx := B.exec
  have hb := B.bytes
  have hr := B.returns
  have hts0 := atoms_spec (ws := wA yX5_fail cX5_fail 2 none) B.pre
  have hts : ∀ w ∈ AW, w.before _ s = true := fun w h => hts0 w (List.mem_cons_of_mem _ h)
  have hown : s.vm.findClass RX5 = some m.cls := findClass_of_methodNamed B.named
  have hlocks := B.notSynchronized
  have hA : ∀ q, (inT t) q → (inT t) q := fun _ h => h
  have hS : va_S (inT t) s.heap s.heap [] := va_S.rf
  have hG : Tx D t Y X U Z F s.heap := hG
  have hl := lv_entry ([.ref t, .int pos]) (n := 2) (Nat.le_of_ble_eq_true rfl)
  refine W.eq (g2 := entryFrame m ([.ref t, .int pos] : List Value).toArray 2) (by rw [hav]) ?_
  rw [lg_entry_eq]
  generalize (lg_sl ([.ref t, .int pos]) ++ List.replicate (2 - (lg_sl ([.ref t, .int pos])).length) Slot.unset).toArray = ls at hl ⊢
  have hl : lv_has ls 2 [(0, .ref t), (1, .int pos)] := hl
  refine lv_aload_n hx hb dX5_fail_0 rfl (lv_at hl 0 rfl) ?_
  refine getX 7 hx hb hts hown hK hG (by decide) qF_X5_31 rfl dX5_fail_1 ?_
  refine lv_iconst (v := (-1)) hx hb dX5_fail_4 (by decide) ?_
  refine lv_icmp_ne (tgt := 13) hx hb dX5_fail_5 (by decide) (fun c5 => ?_) (fun c5 => ?_)
  · have hG9 : Tx D t Y X U Z (fF_X5_fail F pos) s.heap := by
      unfold fF_X5_fail; (try dsimp only); (try rw [if_neg c5])
      exact hG
    exact W.vret hx hb hr (fun t ht hW => gQv_of hG9 hS ht) hS.2.2 dX5_fail_13
  · refine lv_aload_n hx hb dX5_fail_8 rfl (lv_at hl 0 rfl) ?_
    refine lv_iload_n hx hb dX5_fail_9 rfl (lv_at hl 1 rfl) ?_
    refine putX 7 hx hb hts hown hK hG hS hA (by decide) qF_X5_31 rfl dX5_fail_10 (fun H locs hG hS => ?_)
    generalize eF1 : upd F 7 pos = F1 at hG
    subst eF1
    have hG9 : Tx D t Y X U Z (fF_X5_fail F pos) H := by
      unfold fF_X5_fail; (try dsimp only); (try rw [if_pos c5])
      exact hG
    exact W.vret hx hb hr (fun t ht hW => gQv_of hG9 hS ht) hS.2.2 dX5_fail_13
theorem hdv_X5_expect : yX5_expect.cls = RX5 ∧ yX5_expect.cls ≠ "java/lang/invoke/MethodHandle" ∧ yX5_expect.cls ≠ "java/lang/invoke/VarHandle" ∧ (parseMethodDescriptor yX5_expect.desc).map (fun d => d.parameters.length) = some 1 := by decide +kernel
def fF_X5_expect (Y : Nat → Int32) (F : Nat → Int32) (cc0 : Int32) : Nat → Int32 :=
  if fR_X5_here Y F = cc0 then
    let F2 := upd F 6 (nI ((ta5 F) + 1))
    F2
  else
    let F1 := fF_X5_fail F (F 6)
    F1
set_option maxHeartbeats 4000000 in
set_option maxRecDepth 100000 in
theorem c_X5_expect (l : Launch) (D : va_G) (t : Nat) (Y X U Z F : Nat → Int32) (cc0 : Int32) (hX : okX5 F) : Met l yX5_expect (wA yX5_expect cX5_expect 2 none) (rmL 1) (gPc D [.ref t, .int cc0] (fun H => Tx D t Y X U Z F H)) (gQv (inT t) (fun H => Tx D t Y X U Z (fF_X5_expect Y F cc0) H)) 0 0 (inT t) := by
  refine Met.ofW (cc := cX5_expect) (maxL := 2) (ret := none) (by decide) rfl ?_
  intro p e s m args below meth c s₁ B hml hv
  obtain ⟨hav, hG, hK⟩ := hv
  have hx := B.exec
  have hb := B.bytes
  have hr := B.returns
  have hts0 := atoms_spec (ws := wA yX5_expect cX5_expect 2 none) B.pre
  have hts : ∀ w ∈ AW, w.before _ s = true := fun w h => hts0 w (List.mem_cons_of_mem _ h)
  have hown : s.vm.findClass RX5 = some m.cls := findClass_of_methodNamed B.named
  have hlocks := B.notSynchronized
  have hA : ∀ q, (inT t) q → (inT t) q := fun _ h => h
  have hS : va_S (inT t) s.heap s.heap [] := va_S.rf
  have hG : Tx D t Y X U Z F s.heap := hG
  have hl := lv_entry ([.ref t, .int cc0]) (n := 2) (Nat.le_of_ble_eq_true rfl)
  refine W.eq (g2 := entryFrame m ([.ref t, .int cc0] : List Value).toArray 2) (by rw [hav]) ?_
  rw [lg_entry_eq]
  generalize (lg_sl ([.ref t, .int cc0]) ++ List.replicate (2 - (lg_sl ([.ref t, .int cc0])).length) Slot.unset).toArray = ls at hl ⊢
  have hl : lv_has ls 2 [(0, .ref t), (1, .int cc0)] := hl
  have hX2 := hX.1.2
  have hX3 := hX.2.2
  refine lv_aload_n hx hb dX5_expect_0 rfl (lv_at hl 0 rfl) ?_
  refine gcVi (As := []) (rest := []) hx hb hml hown hts hl.1 hK (c_X5_here l D t Y X U Z F (by first | assumption | omega)) (gaV qM_X5_52 qI_X5_here qS_X5_here qK_X5 qC_X5_here) hdv_X5_here ⟨Nat.le_of_ble_eq_true rfl, Nat.le_of_ble_eq_true rfl⟩ hG (hG.recv hK) rfl (Nat.le_of_ble_eq_true rfl) ⟨Nat.zero_le _, Nat.zero_le _⟩ dX5_expect_1 hS hA (fun H locs hG _ _ hS => ?_)
  have hG : Tx D t Y X U Z F H := hG
  refine lv_iload_n hx hb dX5_expect_4 rfl (lv_at hl 1 rfl) ?_
  refine lv_icmp_ne (tgt := 21) hx hb dX5_expect_5 (by decide) (fun c5 => ?_) (fun c5 => ?_)
  · refine lv_aload_n hx hb dX5_expect_21 rfl (lv_at hl 0 rfl) ?_
    refine lv_aload_n hx hb dX5_expect_22 rfl (lv_at hl 0 rfl) ?_
    refine getX 6 hx hb hts hown hK hG (by decide) qF_X5_28 rfl dX5_expect_23 ?_
    refine gcVv (As := [.int (F 6)]) (rest := []) hx hb hml hown hts hl.1 hK (c_X5_fail l D t Y X U Z F (F 6)) (gaV qM_X5_59 qI_X5_fail qS_X5_fail qK_X5 qC_X5_fail) hdv_X5_fail ⟨Nat.le_of_ble_eq_true rfl, Nat.le_of_ble_eq_true rfl⟩ hG (hG.recv hK) rfl (Nat.le_of_ble_eq_true rfl) ⟨Nat.zero_le _, Nat.zero_le _⟩ dX5_expect_26 hS hA (fun H locs hG _ _ hS => ?_)
    have hG : Tx D t Y X U Z (fF_X5_fail F (F 6)) H := hG
    generalize eF1 : fF_X5_fail F (F 6) = F1 at hG
    subst eF1
    have hG9 : Tx D t Y X U Z (fF_X5_expect Y F cc0) H := by
      unfold fF_X5_expect; (try dsimp only); (try rw [if_neg c5])
      exact hG
    exact W.vret hx hb hr (fun t ht hW => gQv_of hG9 hS ht) hS.2.2 dX5_expect_29
  · refine lv_aload_n hx hb dX5_expect_8 rfl (lv_at hl 0 rfl) ?_
    refine lv_dup hx hb dX5_expect_9 rfl ?_
    refine getX 6 hx hb hts hown hK hG (by decide) qF_X5_28 rfl dX5_expect_10 ?_
    refine topN (n := (ta5 F)) hX.2.1 ?_
    refine lv_iconst (v := 1) hx hb dX5_expect_13 (by decide) ?_
    refine iaddN (a := (ta5 F)) (b := 1) hx hb dX5_expect_14 ?_
    refine putX 6 hx hb hts hown hK hG hS hA (by decide) qF_X5_28 rfl dX5_expect_15 (fun H locs hG hS => ?_)
    generalize eF2 : upd F 6 (nI ((ta5 F) + 1)) = F2 at hG
    refine lv_goto (tgt := 29) hx hb dX5_expect_18 (by decide) ?_
    subst eF2
    have hG9 : Tx D t Y X U Z (fF_X5_expect Y F cc0) H := by
      unfold fF_X5_expect; (try dsimp only); (try rw [if_pos c5])
      exact hG
    exact W.vret hx hb hr (fun t ht hW => gQv_of hG9 hS ht) hS.2.2 dX5_expect_29
theorem hdv_X5_hoursOfItems : yX5_hoursOfItems.cls = RX5 ∧ yX5_hoursOfItems.cls ≠ "java/lang/invoke/MethodHandle" ∧ yX5_hoursOfItems.cls ≠ "java/lang/invoke/VarHandle" ∧ (parseMethodDescriptor yX5_hoursOfItems.desc).map (fun d => d.parameters.length) = some 0 := by decide +kernel
def fR_X5_hoursOfItems_L4 (Z : Nat → Int32) (F : Nat → Int32) : Nat → Int32 → Nat → Int32
  | 0, acc, j =>
    acc
  | k + 1, acc, j =>
    let x1 := acc + (Z j)
    fR_X5_hoursOfItems_L4 Z F k x1 (j + 1)
def fR_X5_hoursOfItems (Z : Nat → Int32) (F : Nat → Int32) : Int32 :=
  fR_X5_hoursOfItems_L4 Z F (ti5 F) 0 0
set_option maxHeartbeats 4000000 in
set_option maxRecDepth 100000 in
theorem c_X5_hoursOfItems (l : Launch) (D : va_G) (t : Nat) (Y X U Z F : Nat → Int32) (hI : okI5 F) : Met l yX5_hoursOfItems (wA yX5_hoursOfItems cX5_hoursOfItems 3 (some .int)) (rmL 0) (gPc D [.ref t] (fun H => Tx D t Y X U Z F H)) (gQi (inT t) (fR_X5_hoursOfItems Z F) (fun H => Tx D t Y X U Z F H)) 0 0 (inT t) := by
  refine Met.ofW (cc := cX5_hoursOfItems) (maxL := 3) (ret := (some .int)) (by decide) rfl ?_
  intro p e s m args below meth c s₁ B hml hv
  obtain ⟨hav, hG, hK⟩ := hv
  have hx := B.exec
  have hb := B.bytes
  have hr := B.returns
  have hts0 := atoms_spec (ws := wA yX5_hoursOfItems cX5_hoursOfItems 3 (some .int)) B.pre
  have hts : ∀ w ∈ AW, w.before _ s = true := fun w h => hts0 w (List.mem_cons_of_mem _ h)
  have hown : s.vm.findClass RX5 = some m.cls := findClass_of_methodNamed B.named
  have hlocks := B.notSynchronized
  have hA : ∀ q, (inT t) q → (inT t) q := fun _ h => h
  have hS : va_S (inT t) s.heap s.heap [] := va_S.rf
  have hG : Tx D t Y X U Z F s.heap := hG
  have hl := lv_entry ([.ref t]) (n := 3) (Nat.le_of_ble_eq_true rfl)
  refine W.eq (g2 := entryFrame m ([.ref t] : List Value).toArray 3) (by rw [hav]) ?_
  rw [lg_entry_eq]
  generalize (lg_sl ([.ref t]) ++ List.replicate (3 - (lg_sl ([.ref t])).length) Slot.unset).toArray = ls at hl ⊢
  have hl : lv_has ls 3 [(0, .ref t)] := hl
  have hI2 := hI.2
  have L4 : ∀ (k : Nat) (acc : Int32) (j : Nat) (H : Heap) (locs : List Loc) (ls : Array Slot) (hik : j + k = ti5 F) (hfR : fR_X5_hoursOfItems Z F = fR_X5_hoursOfItems_L4 Z F k acc j) (hG : Tx D t Y X U Z F H) (hS : va_S (inT t) s.heap H locs) (hl : lv_has ls 3 [(0, .ref t), (1, .int acc), (2, .int (nI j))]), W p l e (headSpec (wA yX5_hoursOfItems cX5_hoursOfItems 3 (some .int)) (rmL 0)).room s m args below meth c H locs 0 0 (MQ below (gQi (inT t) (fR_X5_hoursOfItems Z F) (fun H => Tx D t Y X U Z F H)) args s 0 0 (inT t)) (F0 m 4 ls []) := by
    intro k
    induction k with
    | zero =>
      intro acc j H locs ls hik hfR hG hS hl
      refine lv_iload_n hx hb dX5_hoursOfItems_4 rfl (lv_at hl 2 rfl) ?_
      refine lv_aload_n hx hb dX5_hoursOfItems_5 rfl (lv_at hl 0 rfl) ?_
      refine getX 5 hx hb hts hown hK hG (by decide) qF_X5_24 rfl dX5_hoursOfItems_6 ?_
      refine topN (n := (ti5 F)) hI.1 ?_
      refine lv_icmp_ge (tgt := 27) hx hb dX5_hoursOfItems_9 (by decide) (fun c9 => ?_) (fun c9 => ?_)
      · have c9 : (ti5 F) ≤ j := (nI_leI (a := (ti5 F)) (b := j) (by omega) (by omega)).mp c9
        refine lv_iload_n hx hb dX5_hoursOfItems_27 rfl (lv_at hl 1 rfl) ?_
        have hG9 := hG
        exact W.iret hx hb hr (fun t ht hW => gQi_of (by rw [hfR, fR_X5_hoursOfItems_L4]; (try dsimp only); (try rfl)) hG9 hS ht) hS.2.2 dX5_hoursOfItems_28
      · have c9 : ¬ (ti5 F) ≤ j := fun h => c9 ((nI_leI (a := (ti5 F)) (b := j) (by omega) (by omega)).mpr h)
        exfalso; omega
    | succ k ih =>
      intro acc j H locs ls hik hfR hG hS hl
      refine lv_iload_n hx hb dX5_hoursOfItems_4 rfl (lv_at hl 2 rfl) ?_
      refine lv_aload_n hx hb dX5_hoursOfItems_5 rfl (lv_at hl 0 rfl) ?_
      refine getX 5 hx hb hts hown hK hG (by decide) qF_X5_24 rfl dX5_hoursOfItems_6 ?_
      refine topN (n := (ti5 F)) hI.1 ?_
      refine lv_icmp_ge (tgt := 27) hx hb dX5_hoursOfItems_9 (by decide) (fun c9 => ?_) (fun c9 => ?_)
      · have c9 : (ti5 F) ≤ j := (nI_leI (a := (ti5 F)) (b := j) (by omega) (by omega)).mp c9
        exfalso; omega
      · have c9 : ¬ (ti5 F) ≤ j := fun h => c9 ((nI_leI (a := (ti5 F)) (b := j) (by omega) (by omega)).mpr h)
        refine lv_iload_n hx hb dX5_hoursOfItems_12 rfl (lv_at hl 1 rfl) ?_
        refine lv_aload_n hx hb dX5_hoursOfItems_13 rfl (lv_at hl 0 rfl) ?_
        refine getXh hx hb hts hown hK hG qF_X5_21 dX5_hoursOfItems_14 ?_
        refine lv_iload_n hx hb dX5_hoursOfItems_17 rfl (lv_at hl 2 rfl) ?_
        refine aldXh (k := j) hx hb hK hG (by omega) dX5_hoursOfItems_18 ?_
        refine lv_iadd hx hb dX5_hoursOfItems_19 ?_
        refine lv_topi (fun x1 ex1 => ?_)
        refine lv_istore_n (lv' := [(1, .int x1), (0, .ref t), (2, .int (nI j))]) hx hb dX5_hoursOfItems_20 rfl hl (by decide) rfl (fun ls hl => ?_)
        refine lv_iinc (v := nI (j + 1)) (lv' := [(2, .int (nI (j + 1))), (1, .int x1), (0, .ref t)]) hx hb dX5_hoursOfItems_21 hl (k := 2) rfl (nI_add j 1) (by decide) rfl (fun ls hl => ?_)
        refine lv_goto (tgt := 4) hx hb dX5_hoursOfItems_24 (by decide) ?_
        subst ex1
        exact ih _ (j + 1) _ _ _ (by first | assumption | omega) (by rw [hfR, fR_X5_hoursOfItems_L4]; (try dsimp only); (try rfl)) hG hS (lv_sub hl [2, 1, 0] rfl)
  refine lv_iconst (v := 0) hx hb dX5_hoursOfItems_0 (by decide) ?_
  refine lv_istore_n (lv' := [(1, .int 0), (0, .ref t)]) hx hb dX5_hoursOfItems_1 rfl hl (by decide) rfl (fun ls hl => ?_)
  refine lv_iconst (v := 0) hx hb dX5_hoursOfItems_2 (by decide) ?_
  refine lv_istore_n (lv' := [(2, .int 0), (1, .int 0), (0, .ref t)]) hx hb dX5_hoursOfItems_3 rfl hl (by decide) rfl (fun ls hl => ?_)
  exact L4 (ti5 F) _ 0 _ _ _ (by first | assumption | omega) (by unfold fR_X5_hoursOfItems; (try dsimp only); (try rfl)) hG hS (lv_sub hl [2, 1, 0] rfl)
