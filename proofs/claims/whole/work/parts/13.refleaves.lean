theorem hds_X7_in : yX7_in.cls ≠ "java/lang/invoke/MethodHandle" ∧ yX7_in.cls ≠ "java/lang/invoke/VarHandle" ∧ (parseMethodDescriptor yX7_in.desc).map (fun d => d.parameters.length) = some 3 := by decide +kernel
def fR_X7_in  (v : Int32) (least : Int32) (most : Int32) : Int32 :=
  if v < least then
    0
  else
    if most < v then
      0
    else
      1
set_option maxHeartbeats 4000000 in
set_option maxRecDepth 100000 in
theorem c_X7_in (l : Launch) (D : va_G) (Pic : Heap → Prop) (v : Int32) (least : Int32) (most : Int32) : Met l yX7_in (wA yX7_in cX7_in 3 (some .boolean)) (rmL 0) (gPc D [.int v, .int least, .int most] Pic) (gQi noA (fR_X7_in v least most) Pic) 0 0 noA := by
  refine Met.ofW (cc := cX7_in) (maxL := 3) (ret := (some .boolean)) (by decide) rfl ?_
  intro p e s m args below meth c s₁ B hml hv
  obtain ⟨hav, hG, hK⟩ := hv
  have hx := B.exec
  have hb := B.bytes
  have hr := B.returns
  have hts0 := atoms_spec (ws := wA yX7_in cX7_in 3 (some .boolean)) B.pre
  have hts : ∀ w ∈ AW, w.before _ s = true := fun w h => hts0 w (List.mem_cons_of_mem _ h)
  have hown : s.vm.findClass RX7 = some m.cls := findClass_of_methodNamed B.named
  have hlocks := B.notSynchronized
  have hA : ∀ q, noA q → noA q := fun _ h => h
  have hS : va_S noA s.heap s.heap [] := va_S.rf
  have hG : Pic s.heap := hG
  have hl := lv_entry ([.int v, .int least, .int most]) (n := 3) (Nat.le_of_ble_eq_true rfl)
  refine W.eq (g2 := entryFrame m ([.int v, .int least, .int most] : List Value).toArray 3) (by rw [hav]) ?_
  rw [lg_entry_eq]
  generalize (lg_sl ([.int v, .int least, .int most]) ++ List.replicate (3 - (lg_sl ([.int v, .int least, .int most])).length) Slot.unset).toArray = ls at hl ⊢
  have hl : lv_has ls 3 [(0, .int v), (1, .int least), (2, .int most)] := hl
  refine lv_iload_n hx hb dX7_in_0 rfl (lv_at hl 0 rfl) ?_
  refine lv_iload_n hx hb dX7_in_1 rfl (lv_at hl 1 rfl) ?_
  refine lv_icmp_lt (tgt := 14) hx hb dX7_in_2 (by decide) (fun c2 => ?_) (fun c2 => ?_)
  · refine lv_iconst (v := 0) hx hb dX7_in_14 (by decide) ?_
    have hG9 := hG
    exact W.zret hx hb hr (by rfl) (fun t ht hW => gQi_of (by unfold fR_X7_in; (try dsimp only); (try rw [if_pos c2]); (try rfl)) hG9 hS ht) hS.2.2 dX7_in_15
  · refine lv_iload_n hx hb dX7_in_5 rfl (lv_at hl 0 rfl) ?_
    refine lv_iload_n hx hb dX7_in_6 rfl (lv_at hl 2 rfl) ?_
    refine lv_icmp_gt (tgt := 14) hx hb dX7_in_7 (by decide) (fun c7 => ?_) (fun c7 => ?_)
    · refine lv_iconst (v := 0) hx hb dX7_in_14 (by decide) ?_
      have hG9 := hG
      exact W.zret hx hb hr (by rfl) (fun t ht hW => gQi_of (by unfold fR_X7_in; (try dsimp only); (try rw [if_neg c2, if_pos c7]); (try rfl)) hG9 hS ht) hS.2.2 dX7_in_15
    · refine lv_iconst (v := 1) hx hb dX7_in_10 (by decide) ?_
      refine lv_goto (tgt := 15) hx hb dX7_in_11 (by decide) ?_
      have hG9 := hG
      exact W.zret hx hb hr (by rfl) (fun t ht hW => gQi_of (by unfold fR_X7_in; (try dsimp only); (try rw [if_neg c2, if_neg c7]); (try rfl)) hG9 hS ht) hS.2.2 dX7_in_15
theorem hds_X7_lesser : yX7_lesser.cls ≠ "java/lang/invoke/MethodHandle" ∧ yX7_lesser.cls ≠ "java/lang/invoke/VarHandle" ∧ (parseMethodDescriptor yX7_lesser.desc).map (fun d => d.parameters.length) = some 2 := by decide +kernel
def fR_X7_lesser  (u : Int32) (v : Int32) : Int32 :=
  if v ≤ u then
    v
  else
    u
set_option maxHeartbeats 4000000 in
set_option maxRecDepth 100000 in
theorem c_X7_lesser (l : Launch) (D : va_G) (Pic : Heap → Prop) (u : Int32) (v : Int32) : Met l yX7_lesser (wA yX7_lesser cX7_lesser 2 (some .int)) (rmL 0) (gPc D [.int u, .int v] Pic) (gQi noA (fR_X7_lesser u v) Pic) 0 0 noA := by
  refine Met.ofW (cc := cX7_lesser) (maxL := 2) (ret := (some .int)) (by decide) rfl ?_
  intro p e s m args below meth c s₁ B hml hv
  obtain ⟨hav, hG, hK⟩ := hv
  have hx := B.exec
  have hb := B.bytes
  have hr := B.returns
  have hts0 := atoms_spec (ws := wA yX7_lesser cX7_lesser 2 (some .int)) B.pre
  have hts : ∀ w ∈ AW, w.before _ s = true := fun w h => hts0 w (List.mem_cons_of_mem _ h)
  have hown : s.vm.findClass RX7 = some m.cls := findClass_of_methodNamed B.named
  have hlocks := B.notSynchronized
  have hA : ∀ q, noA q → noA q := fun _ h => h
  have hS : va_S noA s.heap s.heap [] := va_S.rf
  have hG : Pic s.heap := hG
  have hl := lv_entry ([.int u, .int v]) (n := 2) (Nat.le_of_ble_eq_true rfl)
  refine W.eq (g2 := entryFrame m ([.int u, .int v] : List Value).toArray 2) (by rw [hav]) ?_
  rw [lg_entry_eq]
  generalize (lg_sl ([.int u, .int v]) ++ List.replicate (2 - (lg_sl ([.int u, .int v])).length) Slot.unset).toArray = ls at hl ⊢
  have hl : lv_has ls 2 [(0, .int u), (1, .int v)] := hl
  refine lv_iload_n hx hb dX7_lesser_0 rfl (lv_at hl 0 rfl) ?_
  refine lv_iload_n hx hb dX7_lesser_1 rfl (lv_at hl 1 rfl) ?_
  refine lv_icmp_ge (tgt := 9) hx hb dX7_lesser_2 (by decide) (fun c2 => ?_) (fun c2 => ?_)
  · refine lv_iload_n hx hb dX7_lesser_9 rfl (lv_at hl 1 rfl) ?_
    have hG9 := hG
    exact W.iret hx hb hr (fun t ht hW => gQi_of (by unfold fR_X7_lesser; (try dsimp only); (try rw [if_pos c2]); (try rfl)) hG9 hS ht) hS.2.2 dX7_lesser_10
  · refine lv_iload_n hx hb dX7_lesser_5 rfl (lv_at hl 0 rfl) ?_
    refine lv_goto (tgt := 10) hx hb dX7_lesser_6 (by decide) ?_
    have hG9 := hG
    exact W.iret hx hb hr (fun t ht hW => gQi_of (by unfold fR_X7_lesser; (try dsimp only); (try rw [if_neg c2]); (try rfl)) hG9 hS ht) hS.2.2 dX7_lesser_10
theorem hds_X7_isWeather : yX7_isWeather.cls ≠ "java/lang/invoke/MethodHandle" ∧ yX7_isWeather.cls ≠ "java/lang/invoke/VarHandle" ∧ (parseMethodDescriptor yX7_isWeather.desc).map (fun d => d.parameters.length) = some 2 := by decide +kernel
def fR_X7_isWeather  (tmp : Int32) (sn : Int32) : Int32 :=
  if fR_X7_in tmp (-300) 300 = 0 then
    0
  else
    if fR_X7_in sn 0 100 = 0 then
      0
    else
      1
set_option maxHeartbeats 4000000 in
set_option maxRecDepth 100000 in
theorem c_X7_isWeather (l : Launch) (D : va_G) (Pic : Heap → Prop) (tmp : Int32) (sn : Int32) : Met l yX7_isWeather (wA yX7_isWeather cX7_isWeather 2 (some .boolean)) (rmL 1) (gPc D [.int tmp, .int sn] Pic) (gQi noA (fR_X7_isWeather tmp sn) Pic) 0 0 noA := by
  refine Met.ofW (cc := cX7_isWeather) (maxL := 2) (ret := (some .boolean)) (by decide) rfl ?_
  intro p e s m args below meth c s₁ B hml hv
  obtain ⟨hav, hG, hK⟩ := hv
  have hx := B.exec
  have hb := B.bytes
  have hr := B.returns
  have hts0 := atoms_spec (ws := wA yX7_isWeather cX7_isWeather 2 (some .boolean)) B.pre
  have hts : ∀ w ∈ AW, w.before _ s = true := fun w h => hts0 w (List.mem_cons_of_mem _ h)
  have hown : s.vm.findClass RX7 = some m.cls := findClass_of_methodNamed B.named
  have hlocks := B.notSynchronized
  have hA : ∀ q, noA q → noA q := fun _ h => h
  have hS : va_S noA s.heap s.heap [] := va_S.rf
  have hG : Pic s.heap := hG
  have hl := lv_entry ([.int tmp, .int sn]) (n := 2) (Nat.le_of_ble_eq_true rfl)
  refine W.eq (g2 := entryFrame m ([.int tmp, .int sn] : List Value).toArray 2) (by rw [hav]) ?_
  rw [lg_entry_eq]
  generalize (lg_sl ([.int tmp, .int sn]) ++ List.replicate (2 - (lg_sl ([.int tmp, .int sn])).length) Slot.unset).toArray = ls at hl ⊢
  have hl : lv_has ls 2 [(0, .int tmp), (1, .int sn)] := hl
  refine lv_iload_n hx hb dX7_isWeather_0 rfl (lv_at hl 0 rfl) ?_
  refine lv_sipush (v := (-300)) hx hb dX7_isWeather_1 (by decide) ?_
  refine lv_sipush (v := 300) hx hb dX7_isWeather_4 (by decide) ?_
  refine gcSi (As := [.int tmp, .int (-300), .int 300]) (rest := []) hx hb hml hown hts hl.1 hK (c_X7_in l D Pic tmp (-300) 300) (gaS qM_X7_37 qT_X7_in qK_X7 qC_X7_in) hds_X7_in ⟨Nat.le_of_ble_eq_true rfl, Nat.le_of_ble_eq_true rfl⟩ hG rfl (Nat.le_of_ble_eq_true rfl) ⟨Nat.zero_le _, Nat.zero_le _⟩ dX7_isWeather_7 hS (fun _ (h : noA _) => False.elim h) (fun H locs hG _ _ hS => ?_)
  have hG : Pic H := hG
  refine lv_if_eq (tgt := 27) hx hb dX7_isWeather_10 (by decide) (fun c10 => ?_) (fun c10 => ?_)
  · refine lv_iconst (v := 0) hx hb dX7_isWeather_27 (by decide) ?_
    have hG9 := hG
    exact W.zret hx hb hr (by rfl) (fun t ht hW => gQi_of (by unfold fR_X7_isWeather; (try dsimp only); (try rw [if_pos c10]); (try rfl)) hG9 hS ht) hS.2.2 dX7_isWeather_28
  · refine lv_iload_n hx hb dX7_isWeather_13 rfl (lv_at hl 1 rfl) ?_
    refine lv_iconst (v := 0) hx hb dX7_isWeather_14 (by decide) ?_
    refine lv_bipush (v := 100) hx hb dX7_isWeather_15 (by decide) ?_
    refine gcSi (As := [.int sn, .int 0, .int 100]) (rest := []) hx hb hml hown hts hl.1 hK (c_X7_in l D Pic sn 0 100) (gaS qM_X7_37 qT_X7_in qK_X7 qC_X7_in) hds_X7_in ⟨Nat.le_of_ble_eq_true rfl, Nat.le_of_ble_eq_true rfl⟩ hG rfl (Nat.le_of_ble_eq_true rfl) ⟨Nat.zero_le _, Nat.zero_le _⟩ dX7_isWeather_17 hS (fun _ (h : noA _) => False.elim h) (fun H locs hG _ _ hS => ?_)
    have hG : Pic H := hG
    refine lv_if_eq (tgt := 27) hx hb dX7_isWeather_20 (by decide) (fun c20 => ?_) (fun c20 => ?_)
    · refine lv_iconst (v := 0) hx hb dX7_isWeather_27 (by decide) ?_
      have hG9 := hG
      exact W.zret hx hb hr (by rfl) (fun t ht hW => gQi_of (by unfold fR_X7_isWeather; (try dsimp only); (try rw [if_neg c10, if_pos c20]); (try rfl)) hG9 hS ht) hS.2.2 dX7_isWeather_28
    · refine lv_iconst (v := 1) hx hb dX7_isWeather_23 (by decide) ?_
      refine lv_goto (tgt := 28) hx hb dX7_isWeather_24 (by decide) ?_
      have hG9 := hG
      exact W.zret hx hb hr (by rfl) (fun t ht hW => gQi_of (by unfold fR_X7_isWeather; (try dsimp only); (try rw [if_neg c10, if_neg c20]); (try rfl)) hG9 hS ht) hS.2.2 dX7_isWeather_28
theorem hdv_X7_of : yX7_of.cls = RX7 ∧ yX7_of.cls ≠ "java/lang/invoke/MethodHandle" ∧ yX7_of.cls ≠ "java/lang/invoke/VarHandle" ∧ (parseMethodDescriptor yX7_of.desc).map (fun d => d.parameters.length) = some 2 := by decide +kernel
def fR_X7_of (P : Nat → Int32) (si : Nat) (w : Nat) : Int32 :=
  P (9 + 8 * si + w)
set_option maxHeartbeats 4000000 in
set_option maxRecDepth 100000 in
theorem c_X7_of (l : Launch) (D : va_G) (o : Nat) (P S V T F : Nat → Int32) (h : Int64) (si : Nat) (w : Nat) (hs : si < 20) (hw : w < 8) : Met l yX7_of (wA yX7_of cX7_of 3 (some .int)) (rmL 0) (gPc D [.ref o, .int (nI si), .int (nI w)] (fun H => Md D o P S V T F h H)) (gQi (inM o) (fR_X7_of P si w) (fun H => Md D o P S V T F h H)) 0 0 (inM o) := by
  refine Met.ofW (cc := cX7_of) (maxL := 3) (ret := (some .int)) (by decide) rfl ?_
  intro p e s m args below meth c s₁ B hml hv
  obtain ⟨hav, hG, hK⟩ := hv
  have hx := B.exec
  have hb := B.bytes
  have hr := B.returns
  have hts0 := atoms_spec (ws := wA yX7_of cX7_of 3 (some .int)) B.pre
  have hts : ∀ w ∈ AW, w.before _ s = true := fun w h => hts0 w (List.mem_cons_of_mem _ h)
  have hown : s.vm.findClass RX7 = some m.cls := findClass_of_methodNamed B.named
  have hlocks := B.notSynchronized
  have hA : ∀ q, (inM o) q → (inM o) q := fun _ h => h
  have hS : va_S (inM o) s.heap s.heap [] := va_S.rf
  have hG : Md D o P S V T F h s.heap := hG
  have hl := lv_entry ([.ref o, .int (nI si), .int (nI w)]) (n := 3) (Nat.le_of_ble_eq_true rfl)
  refine W.eq (g2 := entryFrame m ([.ref o, .int (nI si), .int (nI w)] : List Value).toArray 3) (by rw [hav]) ?_
  rw [lg_entry_eq]
  generalize (lg_sl ([.ref o, .int (nI si), .int (nI w)]) ++ List.replicate (3 - (lg_sl ([.ref o, .int (nI si), .int (nI w)])).length) Slot.unset).toArray = ls at hl ⊢
  have hl : lv_has ls 3 [(0, .ref o), (1, .int (nI si)), (2, .int (nI w))] := hl
  refine lv_aload_n hx hb dX7_of_0 rfl (lv_at hl 0 rfl) ?_
  refine getMm hx hb hts hown hK hG qF_X7_7 dX7_of_1 ?_
  refine lv_bipush (v := 9) hx hb dX7_of_4 (by decide) ?_
  refine lv_bipush (v := 8) hx hb dX7_of_6 (by decide) ?_
  refine lv_iload_n hx hb dX7_of_8 rfl (lv_at hl 1 rfl) ?_
  refine imulN (a := 8) (b := si) hx hb dX7_of_9 ?_
  refine iaddN (a := 9) (b := 8 * si) hx hb dX7_of_10 ?_
  refine lv_iload_n hx hb dX7_of_11 rfl (lv_at hl 2 rfl) ?_
  refine iaddN (a := 9 + 8 * si) (b := w) hx hb dX7_of_12 ?_
  refine aldMm (k := 9 + 8 * si + w) hx hb hK hG (by omega) dX7_of_13 ?_
  have hG9 := hG
  exact W.iret hx hb hr (fun t ht hW => gQi_of (by unfold fR_X7_of; (try dsimp only); (try rfl)) hG9 hS ht) hS.2.2 dX7_of_14
theorem hdv_X7_ofPlow : yX7_ofPlow.cls = RX7 ∧ yX7_ofPlow.cls ≠ "java/lang/invoke/MethodHandle" ∧ yX7_ofPlow.cls ≠ "java/lang/invoke/VarHandle" ∧ (parseMethodDescriptor yX7_ofPlow.desc).map (fun d => d.parameters.length) = some 2 := by decide +kernel
def fR_X7_ofPlow (P : Nat → Int32) (q : Nat) (w : Nat) : Int32 :=
  P (169 + 20 * q + w)
set_option maxHeartbeats 4000000 in
set_option maxRecDepth 100000 in
theorem c_X7_ofPlow (l : Launch) (D : va_G) (o : Nat) (P S V T F : Nat → Int32) (h : Int64) (q : Nat) (w : Nat) (hq : q < 3) (hw : w < 20) : Met l yX7_ofPlow (wA yX7_ofPlow cX7_ofPlow 3 (some .int)) (rmL 0) (gPc D [.ref o, .int (nI q), .int (nI w)] (fun H => Md D o P S V T F h H)) (gQi (inM o) (fR_X7_ofPlow P q w) (fun H => Md D o P S V T F h H)) 0 0 (inM o) := by
  refine Met.ofW (cc := cX7_ofPlow) (maxL := 3) (ret := (some .int)) (by decide) rfl ?_
  intro p e s m args below meth c s₁ B hml hv
  obtain ⟨hav, hG, hK⟩ := hv
  have hx := B.exec
  have hb := B.bytes
  have hr := B.returns
  have hts0 := atoms_spec (ws := wA yX7_ofPlow cX7_ofPlow 3 (some .int)) B.pre
  have hts : ∀ w ∈ AW, w.before _ s = true := fun w h => hts0 w (List.mem_cons_of_mem _ h)
  have hown : s.vm.findClass RX7 = some m.cls := findClass_of_methodNamed B.named
  have hlocks := B.notSynchronized
  have hA : ∀ q, (inM o) q → (inM o) q := fun _ h => h
  have hS : va_S (inM o) s.heap s.heap [] := va_S.rf
  have hG : Md D o P S V T F h s.heap := hG
  have hl := lv_entry ([.ref o, .int (nI q), .int (nI w)]) (n := 3) (Nat.le_of_ble_eq_true rfl)
  refine W.eq (g2 := entryFrame m ([.ref o, .int (nI q), .int (nI w)] : List Value).toArray 3) (by rw [hav]) ?_
  rw [lg_entry_eq]
  generalize (lg_sl ([.ref o, .int (nI q), .int (nI w)]) ++ List.replicate (3 - (lg_sl ([.ref o, .int (nI q), .int (nI w)])).length) Slot.unset).toArray = ls at hl ⊢
  have hl : lv_has ls 3 [(0, .ref o), (1, .int (nI q)), (2, .int (nI w))] := hl
  refine lv_aload_n hx hb dX7_ofPlow_0 rfl (lv_at hl 0 rfl) ?_
  refine getMm hx hb hts hown hK hG qF_X7_7 dX7_ofPlow_1 ?_
  refine lv_sipush (v := 169) hx hb dX7_ofPlow_4 (by decide) ?_
  refine lv_bipush (v := 20) hx hb dX7_ofPlow_7 (by decide) ?_
  refine lv_iload_n hx hb dX7_ofPlow_9 rfl (lv_at hl 1 rfl) ?_
  refine imulN (a := 20) (b := q) hx hb dX7_ofPlow_10 ?_
  refine iaddN (a := 169) (b := 20 * q) hx hb dX7_ofPlow_11 ?_
  refine lv_iload_n hx hb dX7_ofPlow_12 rfl (lv_at hl 2 rfl) ?_
  refine iaddN (a := 169 + 20 * q) (b := w) hx hb dX7_ofPlow_13 ?_
  refine aldMm (k := 169 + 20 * q + w) hx hb hK hG (by omega) dX7_ofPlow_14 ?_
  have hG9 := hG
  exact W.iret hx hb hr (fun t ht hW => gQi_of (by unfold fR_X7_ofPlow; (try dsimp only); (try rfl)) hG9 hS ht) hS.2.2 dX7_ofPlow_15
theorem hdv_X7_term : yX7_term.cls = RX7 ∧ yX7_term.cls ≠ "java/lang/invoke/MethodHandle" ∧ yX7_term.cls ≠ "java/lang/invoke/VarHandle" ∧ (parseMethodDescriptor yX7_term.desc).map (fun d => d.parameters.length) = some 2 := by decide +kernel
def fR_X7_term (P : Nat → Int32) (si : Nat) (w : Nat) : Int32 :=
  P (229 + (4 * (pr P si)) + w)
set_option maxHeartbeats 4000000 in
set_option maxRecDepth 100000 in
theorem c_X7_term (l : Launch) (D : va_G) (o : Nat) (P S V T F : Nat → Int32) (h : Int64) (si : Nat) (w : Nat) (hs : si < 20) (hp : okR P si) (hw : w < 4) : Met l yX7_term (wA yX7_term cX7_term 3 (some .int)) (rmL 1) (gPc D [.ref o, .int (nI si), .int (nI w)] (fun H => Md D o P S V T F h H)) (gQi (inM o) (fR_X7_term P si w) (fun H => Md D o P S V T F h H)) 0 0 (inM o) := by
  refine Met.ofW (cc := cX7_term) (maxL := 3) (ret := (some .int)) (by decide) rfl ?_
  intro p e s m args below meth c s₁ B hml hv
  obtain ⟨hav, hG, hK⟩ := hv
  have hx := B.exec
  have hb := B.bytes
  have hr := B.returns
  have hts0 := atoms_spec (ws := wA yX7_term cX7_term 3 (some .int)) B.pre
  have hts : ∀ w ∈ AW, w.before _ s = true := fun w h => hts0 w (List.mem_cons_of_mem _ h)
  have hown : s.vm.findClass RX7 = some m.cls := findClass_of_methodNamed B.named
  have hlocks := B.notSynchronized
  have hA : ∀ q, (inM o) q → (inM o) q := fun _ h => h
  have hS : va_S (inM o) s.heap s.heap [] := va_S.rf
  have hG : Md D o P S V T F h s.heap := hG
  have hl := lv_entry ([.ref o, .int (nI si), .int (nI w)]) (n := 3) (Nat.le_of_ble_eq_true rfl)
  refine W.eq (g2 := entryFrame m ([.ref o, .int (nI si), .int (nI w)] : List Value).toArray 3) (by rw [hav]) ?_
  rw [lg_entry_eq]
  generalize (lg_sl ([.ref o, .int (nI si), .int (nI w)]) ++ List.replicate (3 - (lg_sl ([.ref o, .int (nI si), .int (nI w)])).length) Slot.unset).toArray = ls at hl ⊢
  have hl : lv_has ls 3 [(0, .ref o), (1, .int (nI si)), (2, .int (nI w))] := hl
  refine lv_aload_n hx hb dX7_term_0 rfl (lv_at hl 0 rfl) ?_
  refine getMm hx hb hts hown hK hG qF_X7_7 dX7_term_1 ?_
  refine lv_sipush (v := 229) hx hb dX7_term_4 (by decide) ?_
  refine lv_iconst (v := 4) hx hb dX7_term_7 (by decide) ?_
  refine lv_aload_n hx hb dX7_term_8 rfl (lv_at hl 0 rfl) ?_
  refine lv_iload_n hx hb dX7_term_9 rfl (lv_at hl 1 rfl) ?_
  refine lv_iconst (v := 1) hx hb dX7_term_10 (by decide) ?_
  refine gcVi (As := [.int (nI si), .int 1]) (rest := [.int 4, .int 229, .ref (o + 1)]) hx hb hml hown hts hl.1 hK (c_X7_of l D o P S V T F h si 1 (by first | assumption | omega) (by first | assumption | omega)) (gaV qM_X7_41 qI_X7_of qS_X7_of qK_X7 qC_X7_of) hdv_X7_of ⟨Nat.le_of_ble_eq_true rfl, Nat.le_of_ble_eq_true rfl⟩ hG (hG.recv hK) rfl (Nat.le_of_ble_eq_true rfl) ⟨Nat.zero_le _, Nat.zero_le _⟩ dX7_term_11 hS hA (fun H locs hG _ _ hS => ?_)
  have hG : Md D o P S V T F h H := hG
  refine topN (n := (pr P si)) hp.1 ?_
  refine imulN (a := 4) (b := (pr P si)) hx hb dX7_term_14 ?_
  refine iaddN (a := 229) (b := 4 * (pr P si)) hx hb dX7_term_15 ?_
  refine lv_iload_n hx hb dX7_term_16 rfl (lv_at hl 2 rfl) ?_
  refine iaddN (a := 229 + (4 * (pr P si))) (b := w) hx hb dX7_term_17 ?_
  refine aldMm (k := 229 + (4 * (pr P si)) + w) hx hb hK hG (by have := hp.2; omega) dX7_term_18 ?_
  have hG9 := hG
  exact W.iret hx hb hr (fun t ht hW => gQi_of (by unfold fR_X7_term; (try dsimp only); (try rfl)) hG9 hS ht) hS.2.2 dX7_term_19
theorem hdv_X7_isDue : yX7_isDue.cls = RX7 ∧ yX7_isDue.cls ≠ "java/lang/invoke/MethodHandle" ∧ yX7_isDue.cls ≠ "java/lang/invoke/VarHandle" ∧ (parseMethodDescriptor yX7_isDue.desc).map (fun d => d.parameters.length) = some 1 := by decide +kernel
def fR_X7_isDue (P : Nat → Int32) (si : Nat) : Int32 :=
  if fR_X7_of P si 2 < fR_X7_term P si 0 then
    0
  else
    1
set_option maxHeartbeats 4000000 in
set_option maxRecDepth 100000 in
theorem c_X7_isDue (l : Launch) (D : va_G) (o : Nat) (P S V T F : Nat → Int32) (h : Int64) (si : Nat) (hs : si < 20) (hp : okR P si) : Met l yX7_isDue (wA yX7_isDue cX7_isDue 2 (some .boolean)) (rmL 2) (gPc D [.ref o, .int (nI si)] (fun H => Md D o P S V T F h H)) (gQi (inM o) (fR_X7_isDue P si) (fun H => Md D o P S V T F h H)) 0 0 (inM o) := by
  refine Met.ofW (cc := cX7_isDue) (maxL := 2) (ret := (some .boolean)) (by decide) rfl ?_
  intro p e s m args below meth c s₁ B hml hv
  obtain ⟨hav, hG, hK⟩ := hv
  have hx := B.exec
  have hb := B.bytes
  have hr := B.returns
  have hts0 := atoms_spec (ws := wA yX7_isDue cX7_isDue 2 (some .boolean)) B.pre
  have hts : ∀ w ∈ AW, w.before _ s = true := fun w h => hts0 w (List.mem_cons_of_mem _ h)
  have hown : s.vm.findClass RX7 = some m.cls := findClass_of_methodNamed B.named
  have hlocks := B.notSynchronized
  have hA : ∀ q, (inM o) q → (inM o) q := fun _ h => h
  have hS : va_S (inM o) s.heap s.heap [] := va_S.rf
  have hG : Md D o P S V T F h s.heap := hG
  have hl := lv_entry ([.ref o, .int (nI si)]) (n := 2) (Nat.le_of_ble_eq_true rfl)
  refine W.eq (g2 := entryFrame m ([.ref o, .int (nI si)] : List Value).toArray 2) (by rw [hav]) ?_
  rw [lg_entry_eq]
  generalize (lg_sl ([.ref o, .int (nI si)]) ++ List.replicate (2 - (lg_sl ([.ref o, .int (nI si)])).length) Slot.unset).toArray = ls at hl ⊢
  have hl : lv_has ls 2 [(0, .ref o), (1, .int (nI si))] := hl
  refine lv_aload_n hx hb dX7_isDue_0 rfl (lv_at hl 0 rfl) ?_
  refine lv_iload_n hx hb dX7_isDue_1 rfl (lv_at hl 1 rfl) ?_
  refine lv_iconst (v := 2) hx hb dX7_isDue_2 (by decide) ?_
  refine gcVi (As := [.int (nI si), .int 2]) (rest := []) hx hb hml hown hts hl.1 hK (c_X7_of l D o P S V T F h si 2 (by first | assumption | omega) (by first | assumption | omega)) (gaV qM_X7_41 qI_X7_of qS_X7_of qK_X7 qC_X7_of) hdv_X7_of ⟨Nat.le_of_ble_eq_true rfl, Nat.le_of_ble_eq_true rfl⟩ hG (hG.recv hK) rfl (Nat.le_of_ble_eq_true rfl) ⟨Nat.zero_le _, Nat.zero_le _⟩ dX7_isDue_3 hS hA (fun H locs hG _ _ hS => ?_)
  have hG : Md D o P S V T F h H := hG
  refine lv_aload_n hx hb dX7_isDue_6 rfl (lv_at hl 0 rfl) ?_
  refine lv_iload_n hx hb dX7_isDue_7 rfl (lv_at hl 1 rfl) ?_
  refine lv_iconst (v := 0) hx hb dX7_isDue_8 (by decide) ?_
  refine gcVi (As := [.int (nI si), .int 0]) (rest := [.int (fR_X7_of P si 2)]) hx hb hml hown hts hl.1 hK (c_X7_term l D o P S V T F h si 0 (by first | assumption | omega) (by first | assumption | omega) (by first | assumption | omega)) (gaV qM_X7_45 qI_X7_term qS_X7_term qK_X7 qC_X7_term) hdv_X7_term ⟨Nat.le_of_ble_eq_true rfl, Nat.le_of_ble_eq_true rfl⟩ hG (hG.recv hK) rfl (Nat.le_of_ble_eq_true rfl) ⟨Nat.zero_le _, Nat.zero_le _⟩ dX7_isDue_9 hS hA (fun H locs hG _ _ hS => ?_)
  have hG : Md D o P S V T F h H := hG
  refine lv_icmp_lt (tgt := 19) hx hb dX7_isDue_12 (by decide) (fun c12 => ?_) (fun c12 => ?_)
  · refine lv_iconst (v := 0) hx hb dX7_isDue_19 (by decide) ?_
    have hG9 := hG
    exact W.zret hx hb hr (by rfl) (fun t ht hW => gQi_of (by unfold fR_X7_isDue; (try dsimp only); (try rw [if_pos c12]); (try rfl)) hG9 hS ht) hS.2.2 dX7_isDue_20
  · refine lv_iconst (v := 1) hx hb dX7_isDue_15 (by decide) ?_
    refine lv_goto (tgt := 20) hx hb dX7_isDue_16 (by decide) ?_
    have hG9 := hG
    exact W.zret hx hb hr (by rfl) (fun t ht hW => gQi_of (by unfold fR_X7_isDue; (try dsimp only); (try rw [if_neg c12]); (try rfl)) hG9 hS ht) hS.2.2 dX7_isDue_20
theorem hdv_X7_weather : yX7_weather.cls = RX7 ∧ yX7_weather.cls ≠ "java/lang/invoke/MethodHandle" ∧ yX7_weather.cls ≠ "java/lang/invoke/VarHandle" ∧ (parseMethodDescriptor yX7_weather.desc).map (fun d => d.parameters.length) = some 3 := by decide +kernel
def fP_X7_weather (P : Nat → Int32) (si : Nat) (tmp : Int32) (sn : Int32) : Nat → Int32 :=
  let x1 := (P (9 + 8 * si + 2)) + sn
  let P2 := upd P (9 + 8 * si + 2) x1
  if tmp ≤ 0 then
    if 0 ≤ tmp then
      P2
    else
      let x3 := fR_X7_lesser (P2 (9 + 8 * si + 3)) (((-tmp) / 10) + 1)
      let x4 := (P2 (9 + 8 * si + 3)) - x3
      let P5 := upd P2 (9 + 8 * si + 3) x4
      let x6 := fR_X7_lesser ((P5 (9 + 8 * si + 4)) + x3) 100
      let P7 := upd P5 (9 + 8 * si + 4) x6
      P7
  else
    let x8 := fR_X7_lesser (P2 (9 + 8 * si + 2)) (tmp / 5)
    let x9 := (P2 (9 + 8 * si + 2)) - x8
    let P10 := upd P2 (9 + 8 * si + 2) x9
    let x11 := fR_X7_lesser ((P10 (9 + 8 * si + 3)) + (2 * x8)) 100
    let P12 := upd P10 (9 + 8 * si + 3) x11
    let x13 := (P12 (9 + 8 * si + 4)) - (fR_X7_lesser (P12 (9 + 8 * si + 4)) (tmp / 5))
    let P14 := upd P12 (9 + 8 * si + 4) x13
    if 0 ≤ tmp then
      P14
    else
      let x15 := fR_X7_lesser (P14 (9 + 8 * si + 3)) (((-tmp) / 10) + 1)
      let x16 := (P14 (9 + 8 * si + 3)) - x15
      let P17 := upd P14 (9 + 8 * si + 3) x16
      let x18 := fR_X7_lesser ((P17 (9 + 8 * si + 4)) + x15) 100
      let P19 := upd P17 (9 + 8 * si + 4) x18
      P19
set_option maxHeartbeats 4000000 in
set_option maxRecDepth 100000 in
theorem c_X7_weather (l : Launch) (D : va_G) (o : Nat) (P S V T F : Nat → Int32) (h : Int64) (si : Nat) (tmp : Int32) (sn : Int32) (hs : si < 20) : Met l yX7_weather (wA yX7_weather cX7_weather 6 none) (rmL 1) (gPc D [.ref o, .int (nI si), .int tmp, .int sn] (fun H => Md D o P S V T F h H)) (gQv (inM o) (fun H => Md D o (fP_X7_weather P si tmp sn) S V T F h H)) 0 0 (inM o) := by
  refine Met.ofW (cc := cX7_weather) (maxL := 6) (ret := none) (by decide) rfl ?_
  intro p e s m args below meth c s₁ B hml hv
  obtain ⟨hav, hG, hK⟩ := hv
  have hx := B.exec
  have hb := B.bytes
  have hr := B.returns
  have hts0 := atoms_spec (ws := wA yX7_weather cX7_weather 6 none) B.pre
  have hts : ∀ w ∈ AW, w.before _ s = true := fun w h => hts0 w (List.mem_cons_of_mem _ h)
  have hown : s.vm.findClass RX7 = some m.cls := findClass_of_methodNamed B.named
  have hlocks := B.notSynchronized
  have hA : ∀ q, (inM o) q → (inM o) q := fun _ h => h
  have hS : va_S (inM o) s.heap s.heap [] := va_S.rf
  have hG : Md D o P S V T F h s.heap := hG
  have hl := lv_entry ([.ref o, .int (nI si), .int tmp, .int sn]) (n := 6) (Nat.le_of_ble_eq_true rfl)
  refine W.eq (g2 := entryFrame m ([.ref o, .int (nI si), .int tmp, .int sn] : List Value).toArray 6) (by rw [hav]) ?_
  rw [lg_entry_eq]
  generalize (lg_sl ([.ref o, .int (nI si), .int tmp, .int sn]) ++ List.replicate (6 - (lg_sl ([.ref o, .int (nI si), .int tmp, .int sn])).length) Slot.unset).toArray = ls at hl ⊢
  have hl : lv_has ls 6 [(0, .ref o), (1, .int (nI si)), (2, .int tmp), (3, .int sn)] := hl
  refine lv_bipush (v := 9) hx hb dX7_weather_0 (by decide) ?_
  refine lv_bipush (v := 8) hx hb dX7_weather_2 (by decide) ?_
  refine lv_iload_n hx hb dX7_weather_4 rfl (lv_at hl 1 rfl) ?_
  refine imulN (a := 8) (b := si) hx hb dX7_weather_5 ?_
  refine iaddN (a := 9) (b := 8 * si) hx hb dX7_weather_6 ?_
  refine lv_istore (lv' := [(4, .int (nI (9 + 8 * si))), (0, .ref o), (1, .int (nI si)), (2, .int tmp), (3, .int sn)]) hx hb dX7_weather_7 hl (by decide) rfl (fun ls hl => ?_)
  refine lv_aload_n hx hb dX7_weather_9 rfl (lv_at hl 1 rfl) ?_
  refine getMm hx hb hts hown hK hG qF_X7_7 dX7_weather_10 ?_
  refine lv_iload hx hb dX7_weather_13 (lv_at hl 0 rfl) ?_
  refine lv_iconst (v := 2) hx hb dX7_weather_15 (by decide) ?_
  refine iaddN (a := 9 + 8 * si) (b := 2) hx hb dX7_weather_16 ?_
  refine lv_dup2_11 hx hb dX7_weather_17 rfl rfl ?_
  refine aldMm (k := 9 + 8 * si + 2) hx hb hK hG (by omega) dX7_weather_18 ?_
  refine lv_iload_n hx hb dX7_weather_19 rfl (lv_at hl 4 rfl) ?_
  refine lv_iadd hx hb dX7_weather_20 ?_
  refine lv_topi (fun x1 ex1 => ?_)
  refine astMm (k := 9 + 8 * si + 2) hx hb hK hG hS hA (by omega) dX7_weather_21 (fun H locs hG hS => ?_)
  generalize eP2 : upd P (9 + 8 * si + 2) x1 = P2 at hG
  refine lv_iload_n hx hb dX7_weather_22 rfl (lv_at hl 3 rfl) ?_
  refine lv_if_le (tgt := 112) hx hb dX7_weather_23 (by decide) (fun c23 => ?_) (fun c23 => ?_)
  · refine lv_iload_n hx hb dX7_weather_112 rfl (lv_at hl 3 rfl) ?_
    refine lv_if_ge (tgt := 177) hx hb dX7_weather_113 (by decide) (fun c113 => ?_) (fun c113 => ?_)
    · subst eP2
      subst ex1
      have hG9 : Md D o (fP_X7_weather P si tmp sn) S V T F h H := by
        unfold fP_X7_weather; (try dsimp only); (try rw [if_pos c23, if_pos c113])
        exact hG
      exact W.vret hx hb hr (fun t ht hW => gQv_of hG9 hS ht) hS.2.2 dX7_weather_177
    · refine lv_aload_n hx hb dX7_weather_116 rfl (lv_at hl 1 rfl) ?_
      refine getMm hx hb hts hown hK hG qF_X7_7 dX7_weather_117 ?_
      refine lv_iload hx hb dX7_weather_120 (lv_at hl 0 rfl) ?_
      refine lv_iconst (v := 3) hx hb dX7_weather_122 (by decide) ?_
      refine iaddN (a := 9 + 8 * si) (b := 3) hx hb dX7_weather_123 ?_
      refine aldMm (k := 9 + 8 * si + 3) hx hb hK hG (by omega) dX7_weather_124 ?_
      refine lv_iload_n hx hb dX7_weather_125 rfl (lv_at hl 3 rfl) ?_
      refine lv_ineg hx hb dX7_weather_126 ?_
      refine lv_bipush (v := 10) hx hb dX7_weather_127 (by decide) ?_
      refine lv_idiv hx hb dX7_weather_129 (by decide) ?_
      refine lv_iconst (v := 1) hx hb dX7_weather_130 (by decide) ?_
      refine lv_iadd hx hb dX7_weather_131 ?_
      refine gcSi (As := [.int (P2 (9 + 8 * si + 3)), .int (((-tmp) / 10) + 1)]) (rest := []) hx hb hml hown hts hl.1 hK (c_X7_lesser l D (fun H => Md D o P2 S V T F h H) (P2 (9 + 8 * si + 3)) (((-tmp) / 10) + 1)) (gaS qM_X7_72 qT_X7_lesser qK_X7 qC_X7_lesser) hds_X7_lesser ⟨Nat.le_of_ble_eq_true rfl, Nat.le_of_ble_eq_true rfl⟩ hG rfl (Nat.le_of_ble_eq_true rfl) ⟨Nat.zero_le _, Nat.zero_le _⟩ dX7_weather_132 hS (fun _ (h : noA _) => False.elim h) (fun H locs hG _ _ hS => ?_)
      have hG : Md D o P2 S V T F h H := hG
      refine lv_topi (fun x3 ex3 => ?_)
      refine lv_istore (lv' := [(5, .int x3), (4, .int (nI (9 + 8 * si))), (0, .ref o), (1, .int (nI si)), (2, .int tmp), (3, .int sn)]) hx hb dX7_weather_135 hl (by decide) rfl (fun ls hl => ?_)
      refine lv_aload_n hx hb dX7_weather_137 rfl (lv_at hl 2 rfl) ?_
      refine getMm hx hb hts hown hK hG qF_X7_7 dX7_weather_138 ?_
      refine lv_iload hx hb dX7_weather_141 (lv_at hl 1 rfl) ?_
      refine lv_iconst (v := 3) hx hb dX7_weather_143 (by decide) ?_
      refine iaddN (a := 9 + 8 * si) (b := 3) hx hb dX7_weather_144 ?_
      refine lv_dup2_11 hx hb dX7_weather_145 rfl rfl ?_
      refine aldMm (k := 9 + 8 * si + 3) hx hb hK hG (by omega) dX7_weather_146 ?_
      refine lv_iload hx hb dX7_weather_147 (lv_at hl 0 rfl) ?_
      refine lv_isub hx hb dX7_weather_149 ?_
      refine lv_topi (fun x4 ex4 => ?_)
      refine astMm (k := 9 + 8 * si + 3) hx hb hK hG hS hA (by omega) dX7_weather_150 (fun H locs hG hS => ?_)
      generalize eP5 : upd P2 (9 + 8 * si + 3) x4 = P5 at hG
      refine lv_aload_n hx hb dX7_weather_151 rfl (lv_at hl 2 rfl) ?_
      refine getMm hx hb hts hown hK hG qF_X7_7 dX7_weather_152 ?_
      refine lv_iload hx hb dX7_weather_155 (lv_at hl 1 rfl) ?_
      refine lv_iconst (v := 4) hx hb dX7_weather_157 (by decide) ?_
      refine iaddN (a := 9 + 8 * si) (b := 4) hx hb dX7_weather_158 ?_
      refine lv_aload_n hx hb dX7_weather_159 rfl (lv_at hl 2 rfl) ?_
      refine getMm hx hb hts hown hK hG qF_X7_7 dX7_weather_160 ?_
      refine lv_iload hx hb dX7_weather_163 (lv_at hl 1 rfl) ?_
      refine lv_iconst (v := 4) hx hb dX7_weather_165 (by decide) ?_
      refine iaddN (a := 9 + 8 * si) (b := 4) hx hb dX7_weather_166 ?_
      refine aldMm (k := 9 + 8 * si + 4) hx hb hK hG (by omega) dX7_weather_167 ?_
      refine lv_iload hx hb dX7_weather_168 (lv_at hl 0 rfl) ?_
      refine lv_iadd hx hb dX7_weather_170 ?_
      refine lv_bipush (v := 100) hx hb dX7_weather_171 (by decide) ?_
      refine gcSi (As := [.int ((P5 (9 + 8 * si + 4)) + x3), .int 100]) (rest := [.int (nI (9 + 8 * si + 4)), .ref (o + 1)]) hx hb hml hown hts hl.1 hK (c_X7_lesser l D (fun H => Md D o P5 S V T F h H) ((P5 (9 + 8 * si + 4)) + x3) 100) (gaS qM_X7_72 qT_X7_lesser qK_X7 qC_X7_lesser) hds_X7_lesser ⟨Nat.le_of_ble_eq_true rfl, Nat.le_of_ble_eq_true rfl⟩ hG rfl (Nat.le_of_ble_eq_true rfl) ⟨Nat.zero_le _, Nat.zero_le _⟩ dX7_weather_173 hS (fun _ (h : noA _) => False.elim h) (fun H locs hG _ _ hS => ?_)
      have hG : Md D o P5 S V T F h H := hG
      refine lv_topi (fun x6 ex6 => ?_)
      refine astMm (k := 9 + 8 * si + 4) hx hb hK hG hS hA (by omega) dX7_weather_176 (fun H locs hG hS => ?_)
      generalize eP7 : upd P5 (9 + 8 * si + 4) x6 = P7 at hG
      subst eP7
      subst ex6
      subst eP5
      subst ex4
      subst ex3
      subst eP2
      subst ex1
      have hG9 : Md D o (fP_X7_weather P si tmp sn) S V T F h H := by
        unfold fP_X7_weather; (try dsimp only); (try rw [if_pos c23, if_neg c113])
        exact hG
      exact W.vret hx hb hr (fun t ht hW => gQv_of hG9 hS ht) hS.2.2 dX7_weather_177
  · refine lv_aload_n hx hb dX7_weather_26 rfl (lv_at hl 1 rfl) ?_
    refine getMm hx hb hts hown hK hG qF_X7_7 dX7_weather_27 ?_
    refine lv_iload hx hb dX7_weather_30 (lv_at hl 0 rfl) ?_
    refine lv_iconst (v := 2) hx hb dX7_weather_32 (by decide) ?_
    refine iaddN (a := 9 + 8 * si) (b := 2) hx hb dX7_weather_33 ?_
    refine aldMm (k := 9 + 8 * si + 2) hx hb hK hG (by omega) dX7_weather_34 ?_
    refine lv_iload_n hx hb dX7_weather_35 rfl (lv_at hl 3 rfl) ?_
    refine lv_iconst (v := 5) hx hb dX7_weather_36 (by decide) ?_
    refine lv_idiv hx hb dX7_weather_37 (by decide) ?_
    refine gcSi (As := [.int (P2 (9 + 8 * si + 2)), .int (tmp / 5)]) (rest := []) hx hb hml hown hts hl.1 hK (c_X7_lesser l D (fun H => Md D o P2 S V T F h H) (P2 (9 + 8 * si + 2)) (tmp / 5)) (gaS qM_X7_72 qT_X7_lesser qK_X7 qC_X7_lesser) hds_X7_lesser ⟨Nat.le_of_ble_eq_true rfl, Nat.le_of_ble_eq_true rfl⟩ hG rfl (Nat.le_of_ble_eq_true rfl) ⟨Nat.zero_le _, Nat.zero_le _⟩ dX7_weather_38 hS (fun _ (h : noA _) => False.elim h) (fun H locs hG _ _ hS => ?_)
    have hG : Md D o P2 S V T F h H := hG
    refine lv_topi (fun x8 ex8 => ?_)
    refine lv_istore (lv' := [(5, .int x8), (4, .int (nI (9 + 8 * si))), (0, .ref o), (1, .int (nI si)), (2, .int tmp), (3, .int sn)]) hx hb dX7_weather_41 hl (by decide) rfl (fun ls hl => ?_)
    refine lv_aload_n hx hb dX7_weather_43 rfl (lv_at hl 2 rfl) ?_
    refine getMm hx hb hts hown hK hG qF_X7_7 dX7_weather_44 ?_
    refine lv_iload hx hb dX7_weather_47 (lv_at hl 1 rfl) ?_
    refine lv_iconst (v := 2) hx hb dX7_weather_49 (by decide) ?_
    refine iaddN (a := 9 + 8 * si) (b := 2) hx hb dX7_weather_50 ?_
    refine lv_dup2_11 hx hb dX7_weather_51 rfl rfl ?_
    refine aldMm (k := 9 + 8 * si + 2) hx hb hK hG (by omega) dX7_weather_52 ?_
    refine lv_iload hx hb dX7_weather_53 (lv_at hl 0 rfl) ?_
    refine lv_isub hx hb dX7_weather_55 ?_
    refine lv_topi (fun x9 ex9 => ?_)
    refine astMm (k := 9 + 8 * si + 2) hx hb hK hG hS hA (by omega) dX7_weather_56 (fun H locs hG hS => ?_)
    generalize eP10 : upd P2 (9 + 8 * si + 2) x9 = P10 at hG
    refine lv_aload_n hx hb dX7_weather_57 rfl (lv_at hl 2 rfl) ?_
    refine getMm hx hb hts hown hK hG qF_X7_7 dX7_weather_58 ?_
    refine lv_iload hx hb dX7_weather_61 (lv_at hl 1 rfl) ?_
    refine lv_iconst (v := 3) hx hb dX7_weather_63 (by decide) ?_
    refine iaddN (a := 9 + 8 * si) (b := 3) hx hb dX7_weather_64 ?_
    refine lv_aload_n hx hb dX7_weather_65 rfl (lv_at hl 2 rfl) ?_
    refine getMm hx hb hts hown hK hG qF_X7_7 dX7_weather_66 ?_
    refine lv_iload hx hb dX7_weather_69 (lv_at hl 1 rfl) ?_
    refine lv_iconst (v := 3) hx hb dX7_weather_71 (by decide) ?_
    refine iaddN (a := 9 + 8 * si) (b := 3) hx hb dX7_weather_72 ?_
    refine aldMm (k := 9 + 8 * si + 3) hx hb hK hG (by omega) dX7_weather_73 ?_
    refine lv_iconst (v := 2) hx hb dX7_weather_74 (by decide) ?_
    refine lv_iload hx hb dX7_weather_75 (lv_at hl 0 rfl) ?_
    refine lv_imul hx hb dX7_weather_77 ?_
    refine lv_iadd hx hb dX7_weather_78 ?_
    refine lv_bipush (v := 100) hx hb dX7_weather_79 (by decide) ?_
    refine gcSi (As := [.int ((P10 (9 + 8 * si + 3)) + (2 * x8)), .int 100]) (rest := [.int (nI (9 + 8 * si + 3)), .ref (o + 1)]) hx hb hml hown hts hl.1 hK (c_X7_lesser l D (fun H => Md D o P10 S V T F h H) ((P10 (9 + 8 * si + 3)) + (2 * x8)) 100) (gaS qM_X7_72 qT_X7_lesser qK_X7 qC_X7_lesser) hds_X7_lesser ⟨Nat.le_of_ble_eq_true rfl, Nat.le_of_ble_eq_true rfl⟩ hG rfl (Nat.le_of_ble_eq_true rfl) ⟨Nat.zero_le _, Nat.zero_le _⟩ dX7_weather_81 hS (fun _ (h : noA _) => False.elim h) (fun H locs hG _ _ hS => ?_)
    have hG : Md D o P10 S V T F h H := hG
    refine lv_topi (fun x11 ex11 => ?_)
    refine astMm (k := 9 + 8 * si + 3) hx hb hK hG hS hA (by omega) dX7_weather_84 (fun H locs hG hS => ?_)
    generalize eP12 : upd P10 (9 + 8 * si + 3) x11 = P12 at hG
    refine lv_aload_n hx hb dX7_weather_85 rfl (lv_at hl 2 rfl) ?_
    refine getMm hx hb hts hown hK hG qF_X7_7 dX7_weather_86 ?_
    refine lv_iload hx hb dX7_weather_89 (lv_at hl 1 rfl) ?_
    refine lv_iconst (v := 4) hx hb dX7_weather_91 (by decide) ?_
    refine iaddN (a := 9 + 8 * si) (b := 4) hx hb dX7_weather_92 ?_
    refine lv_dup2_11 hx hb dX7_weather_93 rfl rfl ?_
    refine aldMm (k := 9 + 8 * si + 4) hx hb hK hG (by omega) dX7_weather_94 ?_
    refine lv_aload_n hx hb dX7_weather_95 rfl (lv_at hl 2 rfl) ?_
    refine getMm hx hb hts hown hK hG qF_X7_7 dX7_weather_96 ?_
    refine lv_iload hx hb dX7_weather_99 (lv_at hl 1 rfl) ?_
    refine lv_iconst (v := 4) hx hb dX7_weather_101 (by decide) ?_
    refine iaddN (a := 9 + 8 * si) (b := 4) hx hb dX7_weather_102 ?_
    refine aldMm (k := 9 + 8 * si + 4) hx hb hK hG (by omega) dX7_weather_103 ?_
    refine lv_iload_n hx hb dX7_weather_104 rfl (lv_at hl 4 rfl) ?_
    refine lv_iconst (v := 5) hx hb dX7_weather_105 (by decide) ?_
    refine lv_idiv hx hb dX7_weather_106 (by decide) ?_
    refine gcSi (As := [.int (P12 (9 + 8 * si + 4)), .int (tmp / 5)]) (rest := [.int (P12 (9 + 8 * si + 4)), .int (nI (9 + 8 * si + 4)), .ref (o + 1)]) hx hb hml hown hts hl.1 hK (c_X7_lesser l D (fun H => Md D o P12 S V T F h H) (P12 (9 + 8 * si + 4)) (tmp / 5)) (gaS qM_X7_72 qT_X7_lesser qK_X7 qC_X7_lesser) hds_X7_lesser ⟨Nat.le_of_ble_eq_true rfl, Nat.le_of_ble_eq_true rfl⟩ hG rfl (Nat.le_of_ble_eq_true rfl) ⟨Nat.zero_le _, Nat.zero_le _⟩ dX7_weather_107 hS (fun _ (h : noA _) => False.elim h) (fun H locs hG _ _ hS => ?_)
    have hG : Md D o P12 S V T F h H := hG
    refine lv_isub hx hb dX7_weather_110 ?_
    refine lv_topi (fun x13 ex13 => ?_)
    refine astMm (k := 9 + 8 * si + 4) hx hb hK hG hS hA (by omega) dX7_weather_111 (fun H locs hG hS => ?_)
    generalize eP14 : upd P12 (9 + 8 * si + 4) x13 = P14 at hG
    refine lv_iload_n hx hb dX7_weather_112 rfl (lv_at hl 4 rfl) ?_
    refine lv_if_ge (tgt := 177) hx hb dX7_weather_113 (by decide) (fun c113 => ?_) (fun c113 => ?_)
    · subst eP14
      subst ex13
      subst eP12
      subst ex11
      subst eP10
      subst ex9
      subst ex8
      subst eP2
      subst ex1
      have hG9 : Md D o (fP_X7_weather P si tmp sn) S V T F h H := by
        unfold fP_X7_weather; (try dsimp only); (try rw [if_neg c23, if_pos c113])
        exact hG
      exact W.vret hx hb hr (fun t ht hW => gQv_of hG9 hS ht) hS.2.2 dX7_weather_177
    · refine lv_aload_n hx hb dX7_weather_116 rfl (lv_at hl 2 rfl) ?_
      refine getMm hx hb hts hown hK hG qF_X7_7 dX7_weather_117 ?_
      refine lv_iload hx hb dX7_weather_120 (lv_at hl 1 rfl) ?_
      refine lv_iconst (v := 3) hx hb dX7_weather_122 (by decide) ?_
      refine iaddN (a := 9 + 8 * si) (b := 3) hx hb dX7_weather_123 ?_
      refine aldMm (k := 9 + 8 * si + 3) hx hb hK hG (by omega) dX7_weather_124 ?_
      refine lv_iload_n hx hb dX7_weather_125 rfl (lv_at hl 4 rfl) ?_
      refine lv_ineg hx hb dX7_weather_126 ?_
      refine lv_bipush (v := 10) hx hb dX7_weather_127 (by decide) ?_
      refine lv_idiv hx hb dX7_weather_129 (by decide) ?_
      refine lv_iconst (v := 1) hx hb dX7_weather_130 (by decide) ?_
      refine lv_iadd hx hb dX7_weather_131 ?_
      refine gcSi (As := [.int (P14 (9 + 8 * si + 3)), .int (((-tmp) / 10) + 1)]) (rest := []) hx hb hml hown hts hl.1 hK (c_X7_lesser l D (fun H => Md D o P14 S V T F h H) (P14 (9 + 8 * si + 3)) (((-tmp) / 10) + 1)) (gaS qM_X7_72 qT_X7_lesser qK_X7 qC_X7_lesser) hds_X7_lesser ⟨Nat.le_of_ble_eq_true rfl, Nat.le_of_ble_eq_true rfl⟩ hG rfl (Nat.le_of_ble_eq_true rfl) ⟨Nat.zero_le _, Nat.zero_le _⟩ dX7_weather_132 hS (fun _ (h : noA _) => False.elim h) (fun H locs hG _ _ hS => ?_)
      have hG : Md D o P14 S V T F h H := hG
      refine lv_topi (fun x15 ex15 => ?_)
      refine lv_istore (lv' := [(5, .int x15), (4, .int (nI (9 + 8 * si))), (0, .ref o), (1, .int (nI si)), (2, .int tmp), (3, .int sn)]) hx hb dX7_weather_135 hl (by decide) rfl (fun ls hl => ?_)
      refine lv_aload_n hx hb dX7_weather_137 rfl (lv_at hl 2 rfl) ?_
      refine getMm hx hb hts hown hK hG qF_X7_7 dX7_weather_138 ?_
      refine lv_iload hx hb dX7_weather_141 (lv_at hl 1 rfl) ?_
      refine lv_iconst (v := 3) hx hb dX7_weather_143 (by decide) ?_
      refine iaddN (a := 9 + 8 * si) (b := 3) hx hb dX7_weather_144 ?_
      refine lv_dup2_11 hx hb dX7_weather_145 rfl rfl ?_
      refine aldMm (k := 9 + 8 * si + 3) hx hb hK hG (by omega) dX7_weather_146 ?_
      refine lv_iload hx hb dX7_weather_147 (lv_at hl 0 rfl) ?_
      refine lv_isub hx hb dX7_weather_149 ?_
      refine lv_topi (fun x16 ex16 => ?_)
      refine astMm (k := 9 + 8 * si + 3) hx hb hK hG hS hA (by omega) dX7_weather_150 (fun H locs hG hS => ?_)
      generalize eP17 : upd P14 (9 + 8 * si + 3) x16 = P17 at hG
      refine lv_aload_n hx hb dX7_weather_151 rfl (lv_at hl 2 rfl) ?_
      refine getMm hx hb hts hown hK hG qF_X7_7 dX7_weather_152 ?_
      refine lv_iload hx hb dX7_weather_155 (lv_at hl 1 rfl) ?_
      refine lv_iconst (v := 4) hx hb dX7_weather_157 (by decide) ?_
      refine iaddN (a := 9 + 8 * si) (b := 4) hx hb dX7_weather_158 ?_
      refine lv_aload_n hx hb dX7_weather_159 rfl (lv_at hl 2 rfl) ?_
      refine getMm hx hb hts hown hK hG qF_X7_7 dX7_weather_160 ?_
      refine lv_iload hx hb dX7_weather_163 (lv_at hl 1 rfl) ?_
      refine lv_iconst (v := 4) hx hb dX7_weather_165 (by decide) ?_
      refine iaddN (a := 9 + 8 * si) (b := 4) hx hb dX7_weather_166 ?_
      refine aldMm (k := 9 + 8 * si + 4) hx hb hK hG (by omega) dX7_weather_167 ?_
      refine lv_iload hx hb dX7_weather_168 (lv_at hl 0 rfl) ?_
      refine lv_iadd hx hb dX7_weather_170 ?_
      refine lv_bipush (v := 100) hx hb dX7_weather_171 (by decide) ?_
      refine gcSi (As := [.int ((P17 (9 + 8 * si + 4)) + x15), .int 100]) (rest := [.int (nI (9 + 8 * si + 4)), .ref (o + 1)]) hx hb hml hown hts hl.1 hK (c_X7_lesser l D (fun H => Md D o P17 S V T F h H) ((P17 (9 + 8 * si + 4)) + x15) 100) (gaS qM_X7_72 qT_X7_lesser qK_X7 qC_X7_lesser) hds_X7_lesser ⟨Nat.le_of_ble_eq_true rfl, Nat.le_of_ble_eq_true rfl⟩ hG rfl (Nat.le_of_ble_eq_true rfl) ⟨Nat.zero_le _, Nat.zero_le _⟩ dX7_weather_173 hS (fun _ (h : noA _) => False.elim h) (fun H locs hG _ _ hS => ?_)
      have hG : Md D o P17 S V T F h H := hG
      refine lv_topi (fun x18 ex18 => ?_)
      refine astMm (k := 9 + 8 * si + 4) hx hb hK hG hS hA (by omega) dX7_weather_176 (fun H locs hG hS => ?_)
      generalize eP19 : upd P17 (9 + 8 * si + 4) x18 = P19 at hG
      subst eP19
      subst ex18
      subst eP17
      subst ex16
      subst ex15
      subst eP14
      subst ex13
      subst eP12
      subst ex11
      subst eP10
      subst ex9
      subst ex8
      subst eP2
      subst ex1
      have hG9 : Md D o (fP_X7_weather P si tmp sn) S V T F h H := by
        unfold fP_X7_weather; (try dsimp only); (try rw [if_neg c23, if_neg c113])
        exact hG
      exact W.vret hx hb hr (fun t ht hW => gQv_of hG9 hS ht) hS.2.2 dX7_weather_177
theorem hdv_X7_clears : yX7_clears.cls = RX7 ∧ yX7_clears.cls ≠ "java/lang/invoke/MethodHandle" ∧ yX7_clears.cls ≠ "java/lang/invoke/VarHandle" ∧ (parseMethodDescriptor yX7_clears.desc).map (fun d => d.parameters.length) = some 2 := by decide +kernel
def fP_X7_clears (P : Nat → Int32) (q : Nat) (si : Nat) : Nat → Int32 :=
  let x1 := (((P (9 + 8 * si + 0)) * (P 4)) + 999) / 1000
  let x2 := fR_X7_lesser x1 (fR_X7_ofPlow P q 2)
  let P3 := upd P (9 + 8 * si + 2) 0
  if x1 ≤ 0 then
    let x4 := (P3 (9 + 8 * si + 4)) - 0
    let P5 := upd P3 (9 + 8 * si + 4) x4
    let x6 := (P5 (9 + 8 * si + 6)) + 1
    let P7 := upd P5 (9 + 8 * si + 6) x6
    let x8 := P7 0
    let P9 := upd P7 (9 + 8 * si + 7) x8
    let x10 := (P9 (169 + 20 * q + 2)) - x2
    let P11 := upd P9 (169 + 20 * q + 2) x10
    let x12 := (P11 8) + x2
    let P13 := upd P11 8 x12
    P13
  else
    let x14 := (P3 (9 + 8 * si + 4)) - (((P3 (9 + 8 * si + 4)) * x2) / x1)
    let P15 := upd P3 (9 + 8 * si + 4) x14
    let x16 := (P15 (9 + 8 * si + 6)) + 1
    let P17 := upd P15 (9 + 8 * si + 6) x16
    let x18 := P17 0
    let P19 := upd P17 (9 + 8 * si + 7) x18
    let x20 := (P19 (169 + 20 * q + 2)) - x2
    let P21 := upd P19 (169 + 20 * q + 2) x20
    let x22 := (P21 8) + x2
    let P23 := upd P21 8 x22
    P23
set_option maxHeartbeats 4000000 in
set_option maxRecDepth 100000 in
theorem c_X7_clears (l : Launch) (D : va_G) (o : Nat) (P S V T F : Nat → Int32) (h : Int64) (q : Nat) (si : Nat) (hq : q < 3) (hs : si < 20) : Met l yX7_clears (wA yX7_clears cX7_clears 6 none) (rmL 1) (gPc D [.ref o, .int (nI q), .int (nI si)] (fun H => Md D o P S V T F h H)) (gQv (inM o) (fun H => Md D o (fP_X7_clears P q si) S V T F h H)) 0 0 (inM o) := by
  refine Met.ofW (cc := cX7_clears) (maxL := 6) (ret := none) (by decide) rfl ?_
  intro p e s m args below meth c s₁ B hml hv
  obtain ⟨hav, hG, hK⟩ := hv
  have hx := B.exec
  have hb := B.bytes
  have hr := B.returns
  have hts0 := atoms_spec (ws := wA yX7_clears cX7_clears 6 none) B.pre
  have hts : ∀ w ∈ AW, w.before _ s = true := fun w h => hts0 w (List.mem_cons_of_mem _ h)
  have hown : s.vm.findClass RX7 = some m.cls := findClass_of_methodNamed B.named
  have hlocks := B.notSynchronized
  have hA : ∀ q, (inM o) q → (inM o) q := fun _ h => h
  have hS : va_S (inM o) s.heap s.heap [] := va_S.rf
  have hG : Md D o P S V T F h s.heap := hG
  have hl := lv_entry ([.ref o, .int (nI q), .int (nI si)]) (n := 6) (Nat.le_of_ble_eq_true rfl)
  refine W.eq (g2 := entryFrame m ([.ref o, .int (nI q), .int (nI si)] : List Value).toArray 6) (by rw [hav]) ?_
  rw [lg_entry_eq]
  generalize (lg_sl ([.ref o, .int (nI q), .int (nI si)]) ++ List.replicate (6 - (lg_sl ([.ref o, .int (nI q), .int (nI si)])).length) Slot.unset).toArray = ls at hl ⊢
  have hl : lv_has ls 6 [(0, .ref o), (1, .int (nI q)), (2, .int (nI si))] := hl
  refine lv_bipush (v := 9) hx hb dX7_clears_0 (by decide) ?_
  refine lv_bipush (v := 8) hx hb dX7_clears_2 (by decide) ?_
  refine lv_iload_n hx hb dX7_clears_4 rfl (lv_at hl 2 rfl) ?_
  refine imulN (a := 8) (b := si) hx hb dX7_clears_5 ?_
  refine iaddN (a := 9) (b := 8 * si) hx hb dX7_clears_6 ?_
  refine lv_istore_n (lv' := [(3, .int (nI (9 + 8 * si))), (0, .ref o), (1, .int (nI q)), (2, .int (nI si))]) hx hb dX7_clears_7 rfl hl (by decide) rfl (fun ls hl => ?_)
  refine lv_aload_n hx hb dX7_clears_8 rfl (lv_at hl 1 rfl) ?_
  refine getMm hx hb hts hown hK hG qF_X7_7 dX7_clears_9 ?_
  refine lv_iload_n hx hb dX7_clears_12 rfl (lv_at hl 0 rfl) ?_
  refine lv_iconst (v := 0) hx hb dX7_clears_13 (by decide) ?_
  refine iaddN (a := 9 + 8 * si) (b := 0) hx hb dX7_clears_14 ?_
  refine aldMm (k := 9 + 8 * si + 0) hx hb hK hG (by omega) dX7_clears_15 ?_
  refine lv_aload_n hx hb dX7_clears_16 rfl (lv_at hl 1 rfl) ?_
  refine getMm hx hb hts hown hK hG qF_X7_7 dX7_clears_17 ?_
  refine lv_iconst (v := 4) hx hb dX7_clears_20 (by decide) ?_
  refine aldMm (k := 4) hx hb hK hG (by omega) dX7_clears_21 ?_
  refine lv_imul hx hb dX7_clears_22 ?_
  refine lv_sipush (v := 999) hx hb dX7_clears_23 (by decide) ?_
  refine lv_iadd hx hb dX7_clears_26 ?_
  refine lv_sipush (v := 1000) hx hb dX7_clears_27 (by decide) ?_
  refine lv_idiv hx hb dX7_clears_30 (by decide) ?_
  refine lv_topi (fun x1 ex1 => ?_)
  refine lv_istore (lv' := [(4, .int x1), (3, .int (nI (9 + 8 * si))), (0, .ref o), (1, .int (nI q)), (2, .int (nI si))]) hx hb dX7_clears_31 hl (by decide) rfl (fun ls hl => ?_)
  refine lv_iload hx hb dX7_clears_33 (lv_at hl 0 rfl) ?_
  refine lv_aload_n hx hb dX7_clears_35 rfl (lv_at hl 2 rfl) ?_
  refine lv_iload_n hx hb dX7_clears_36 rfl (lv_at hl 3 rfl) ?_
  refine lv_iconst (v := 2) hx hb dX7_clears_37 (by decide) ?_
  refine gcVi (As := [.int (nI q), .int 2]) (rest := [.int x1]) hx hb hml hown hts hl.1 hK (c_X7_ofPlow l D o P S V T F h q 2 (by first | assumption | omega) (by first | assumption | omega)) (gaV qM_X7_58 qI_X7_ofPlow qS_X7_ofPlow qK_X7 qC_X7_ofPlow) hdv_X7_ofPlow ⟨Nat.le_of_ble_eq_true rfl, Nat.le_of_ble_eq_true rfl⟩ hG (hG.recv hK) rfl (Nat.le_of_ble_eq_true rfl) ⟨Nat.zero_le _, Nat.zero_le _⟩ dX7_clears_38 hS hA (fun H locs hG _ _ hS => ?_)
  have hG : Md D o P S V T F h H := hG
  refine gcSi (As := [.int x1, .int (fR_X7_ofPlow P q 2)]) (rest := []) hx hb hml hown hts hl.1 hK (c_X7_lesser l D (fun H => Md D o P S V T F h H) x1 (fR_X7_ofPlow P q 2)) (gaS qM_X7_72 qT_X7_lesser qK_X7 qC_X7_lesser) hds_X7_lesser ⟨Nat.le_of_ble_eq_true rfl, Nat.le_of_ble_eq_true rfl⟩ hG rfl (Nat.le_of_ble_eq_true rfl) ⟨Nat.zero_le _, Nat.zero_le _⟩ dX7_clears_41 hS (fun _ (h : noA _) => False.elim h) (fun H locs hG _ _ hS => ?_)
  have hG : Md D o P S V T F h H := hG
  refine lv_topi (fun x2 ex2 => ?_)
  refine lv_istore (lv' := [(5, .int x2), (4, .int x1), (3, .int (nI (9 + 8 * si))), (0, .ref o), (1, .int (nI q)), (2, .int (nI si))]) hx hb dX7_clears_44 hl (by decide) rfl (fun ls hl => ?_)
  refine lv_aload_n hx hb dX7_clears_46 rfl (lv_at hl 3 rfl) ?_
  refine getMm hx hb hts hown hK hG qF_X7_7 dX7_clears_47 ?_
  refine lv_iload_n hx hb dX7_clears_50 rfl (lv_at hl 2 rfl) ?_
  refine lv_iconst (v := 2) hx hb dX7_clears_51 (by decide) ?_
  refine iaddN (a := 9 + 8 * si) (b := 2) hx hb dX7_clears_52 ?_
  refine lv_iconst (v := 0) hx hb dX7_clears_53 (by decide) ?_
  refine astMm (k := 9 + 8 * si + 2) hx hb hK hG hS hA (by omega) dX7_clears_54 (fun H locs hG hS => ?_)
  generalize eP3 : upd P (9 + 8 * si + 2) 0 = P3 at hG
  refine lv_aload_n hx hb dX7_clears_55 rfl (lv_at hl 3 rfl) ?_
  refine getMm hx hb hts hown hK hG qF_X7_7 dX7_clears_56 ?_
  refine lv_iload_n hx hb dX7_clears_59 rfl (lv_at hl 2 rfl) ?_
  refine lv_iconst (v := 4) hx hb dX7_clears_60 (by decide) ?_
  refine iaddN (a := 9 + 8 * si) (b := 4) hx hb dX7_clears_61 ?_
  refine lv_dup2_11 hx hb dX7_clears_62 rfl rfl ?_
  refine aldMm (k := 9 + 8 * si + 4) hx hb hK hG (by omega) dX7_clears_63 ?_
  refine lv_iload hx hb dX7_clears_64 (lv_at hl 1 rfl) ?_
  refine lv_if_le (tgt := 86) hx hb dX7_clears_66 (by decide) (fun c66 => ?_) (fun c66 => ?_)
  · refine lv_iconst (v := 0) hx hb dX7_clears_86 (by decide) ?_
    refine lv_isub hx hb dX7_clears_87 ?_
    refine lv_topi (fun x4 ex4 => ?_)
    refine astMm (k := 9 + 8 * si + 4) hx hb hK hG hS hA (by omega) dX7_clears_88 (fun H locs hG hS => ?_)
    generalize eP5 : upd P3 (9 + 8 * si + 4) x4 = P5 at hG
    refine lv_aload_n hx hb dX7_clears_89 rfl (lv_at hl 3 rfl) ?_
    refine getMm hx hb hts hown hK hG qF_X7_7 dX7_clears_90 ?_
    refine lv_iload_n hx hb dX7_clears_93 rfl (lv_at hl 2 rfl) ?_
    refine lv_bipush (v := 6) hx hb dX7_clears_94 (by decide) ?_
    refine iaddN (a := 9 + 8 * si) (b := 6) hx hb dX7_clears_96 ?_
    refine lv_dup2_11 hx hb dX7_clears_97 rfl rfl ?_
    refine aldMm (k := 9 + 8 * si + 6) hx hb hK hG (by omega) dX7_clears_98 ?_
    refine lv_iconst (v := 1) hx hb dX7_clears_99 (by decide) ?_
    refine lv_iadd hx hb dX7_clears_100 ?_
    refine lv_topi (fun x6 ex6 => ?_)
    refine astMm (k := 9 + 8 * si + 6) hx hb hK hG hS hA (by omega) dX7_clears_101 (fun H locs hG hS => ?_)
    generalize eP7 : upd P5 (9 + 8 * si + 6) x6 = P7 at hG
    refine lv_aload_n hx hb dX7_clears_102 rfl (lv_at hl 3 rfl) ?_
    refine getMm hx hb hts hown hK hG qF_X7_7 dX7_clears_103 ?_
    refine lv_iload_n hx hb dX7_clears_106 rfl (lv_at hl 2 rfl) ?_
    refine lv_bipush (v := 7) hx hb dX7_clears_107 (by decide) ?_
    refine iaddN (a := 9 + 8 * si) (b := 7) hx hb dX7_clears_109 ?_
    refine lv_aload_n hx hb dX7_clears_110 rfl (lv_at hl 3 rfl) ?_
    refine getMm hx hb hts hown hK hG qF_X7_7 dX7_clears_111 ?_
    refine lv_iconst (v := 0) hx hb dX7_clears_114 (by decide) ?_
    refine aldMm (k := 0) hx hb hK hG (by omega) dX7_clears_115 ?_
    refine lv_topi (fun x8 ex8 => ?_)
    refine astMm (k := 9 + 8 * si + 7) hx hb hK hG hS hA (by omega) dX7_clears_116 (fun H locs hG hS => ?_)
    generalize eP9 : upd P7 (9 + 8 * si + 7) x8 = P9 at hG
    refine lv_aload_n hx hb dX7_clears_117 rfl (lv_at hl 3 rfl) ?_
    refine getMm hx hb hts hown hK hG qF_X7_7 dX7_clears_118 ?_
    refine lv_sipush (v := 169) hx hb dX7_clears_121 (by decide) ?_
    refine lv_bipush (v := 20) hx hb dX7_clears_124 (by decide) ?_
    refine lv_iload_n hx hb dX7_clears_126 rfl (lv_at hl 4 rfl) ?_
    refine imulN (a := 20) (b := q) hx hb dX7_clears_127 ?_
    refine iaddN (a := 169) (b := 20 * q) hx hb dX7_clears_128 ?_
    refine lv_iconst (v := 2) hx hb dX7_clears_129 (by decide) ?_
    refine iaddN (a := 169 + 20 * q) (b := 2) hx hb dX7_clears_130 ?_
    refine lv_dup2_11 hx hb dX7_clears_131 rfl rfl ?_
    refine aldMm (k := 169 + 20 * q + 2) hx hb hK hG (by omega) dX7_clears_132 ?_
    refine lv_iload hx hb dX7_clears_133 (lv_at hl 0 rfl) ?_
    refine lv_isub hx hb dX7_clears_135 ?_
    refine lv_topi (fun x10 ex10 => ?_)
    refine astMm (k := 169 + 20 * q + 2) hx hb hK hG hS hA (by omega) dX7_clears_136 (fun H locs hG hS => ?_)
    generalize eP11 : upd P9 (169 + 20 * q + 2) x10 = P11 at hG
    refine lv_aload_n hx hb dX7_clears_137 rfl (lv_at hl 3 rfl) ?_
    refine getMm hx hb hts hown hK hG qF_X7_7 dX7_clears_138 ?_
    refine lv_bipush (v := 8) hx hb dX7_clears_141 (by decide) ?_
    refine lv_dup2_11 hx hb dX7_clears_143 rfl rfl ?_
    refine aldMm (k := 8) hx hb hK hG (by omega) dX7_clears_144 ?_
    refine lv_iload hx hb dX7_clears_145 (lv_at hl 0 rfl) ?_
    refine lv_iadd hx hb dX7_clears_147 ?_
    refine lv_topi (fun x12 ex12 => ?_)
    refine astMm (k := 8) hx hb hK hG hS hA (by omega) dX7_clears_148 (fun H locs hG hS => ?_)
    generalize eP13 : upd P11 8 x12 = P13 at hG
    subst eP13
    subst ex12
    subst eP11
    subst ex10
    subst eP9
    subst ex8
    subst eP7
    subst ex6
    subst eP5
    subst ex4
    subst eP3
    subst ex2
    subst ex1
    have hG9 : Md D o (fP_X7_clears P q si) S V T F h H := by
      unfold fP_X7_clears; (try dsimp only); (try rw [if_pos c66])
      exact hG
    exact W.vret hx hb hr (fun t ht hW => gQv_of hG9 hS ht) hS.2.2 dX7_clears_149
  · refine lv_aload_n hx hb dX7_clears_69 rfl (lv_at hl 3 rfl) ?_
    refine getMm hx hb hts hown hK hG qF_X7_7 dX7_clears_70 ?_
    refine lv_iload_n hx hb dX7_clears_73 rfl (lv_at hl 2 rfl) ?_
    refine lv_iconst (v := 4) hx hb dX7_clears_74 (by decide) ?_
    refine iaddN (a := 9 + 8 * si) (b := 4) hx hb dX7_clears_75 ?_
    refine aldMm (k := 9 + 8 * si + 4) hx hb hK hG (by omega) dX7_clears_76 ?_
    refine lv_iload hx hb dX7_clears_77 (lv_at hl 0 rfl) ?_
    refine lv_imul hx hb dX7_clears_79 ?_
    refine lv_iload hx hb dX7_clears_80 (lv_at hl 1 rfl) ?_
    refine lv_idiv hx hb dX7_clears_82 (fun h => c66 (by rw [h]; decide)) ?_
    refine lv_goto (tgt := 87) hx hb dX7_clears_83 (by decide) ?_
    refine lv_isub hx hb dX7_clears_87 ?_
    refine lv_topi (fun x14 ex14 => ?_)
    refine astMm (k := 9 + 8 * si + 4) hx hb hK hG hS hA (by omega) dX7_clears_88 (fun H locs hG hS => ?_)
    generalize eP15 : upd P3 (9 + 8 * si + 4) x14 = P15 at hG
    refine lv_aload_n hx hb dX7_clears_89 rfl (lv_at hl 3 rfl) ?_
    refine getMm hx hb hts hown hK hG qF_X7_7 dX7_clears_90 ?_
    refine lv_iload_n hx hb dX7_clears_93 rfl (lv_at hl 2 rfl) ?_
    refine lv_bipush (v := 6) hx hb dX7_clears_94 (by decide) ?_
    refine iaddN (a := 9 + 8 * si) (b := 6) hx hb dX7_clears_96 ?_
    refine lv_dup2_11 hx hb dX7_clears_97 rfl rfl ?_
    refine aldMm (k := 9 + 8 * si + 6) hx hb hK hG (by omega) dX7_clears_98 ?_
    refine lv_iconst (v := 1) hx hb dX7_clears_99 (by decide) ?_
    refine lv_iadd hx hb dX7_clears_100 ?_
    refine lv_topi (fun x16 ex16 => ?_)
    refine astMm (k := 9 + 8 * si + 6) hx hb hK hG hS hA (by omega) dX7_clears_101 (fun H locs hG hS => ?_)
    generalize eP17 : upd P15 (9 + 8 * si + 6) x16 = P17 at hG
    refine lv_aload_n hx hb dX7_clears_102 rfl (lv_at hl 3 rfl) ?_
    refine getMm hx hb hts hown hK hG qF_X7_7 dX7_clears_103 ?_
    refine lv_iload_n hx hb dX7_clears_106 rfl (lv_at hl 2 rfl) ?_
    refine lv_bipush (v := 7) hx hb dX7_clears_107 (by decide) ?_
    refine iaddN (a := 9 + 8 * si) (b := 7) hx hb dX7_clears_109 ?_
    refine lv_aload_n hx hb dX7_clears_110 rfl (lv_at hl 3 rfl) ?_
    refine getMm hx hb hts hown hK hG qF_X7_7 dX7_clears_111 ?_
    refine lv_iconst (v := 0) hx hb dX7_clears_114 (by decide) ?_
    refine aldMm (k := 0) hx hb hK hG (by omega) dX7_clears_115 ?_
    refine lv_topi (fun x18 ex18 => ?_)
    refine astMm (k := 9 + 8 * si + 7) hx hb hK hG hS hA (by omega) dX7_clears_116 (fun H locs hG hS => ?_)
    generalize eP19 : upd P17 (9 + 8 * si + 7) x18 = P19 at hG
    refine lv_aload_n hx hb dX7_clears_117 rfl (lv_at hl 3 rfl) ?_
    refine getMm hx hb hts hown hK hG qF_X7_7 dX7_clears_118 ?_
    refine lv_sipush (v := 169) hx hb dX7_clears_121 (by decide) ?_
    refine lv_bipush (v := 20) hx hb dX7_clears_124 (by decide) ?_
    refine lv_iload_n hx hb dX7_clears_126 rfl (lv_at hl 4 rfl) ?_
    refine imulN (a := 20) (b := q) hx hb dX7_clears_127 ?_
    refine iaddN (a := 169) (b := 20 * q) hx hb dX7_clears_128 ?_
    refine lv_iconst (v := 2) hx hb dX7_clears_129 (by decide) ?_
    refine iaddN (a := 169 + 20 * q) (b := 2) hx hb dX7_clears_130 ?_
    refine lv_dup2_11 hx hb dX7_clears_131 rfl rfl ?_
    refine aldMm (k := 169 + 20 * q + 2) hx hb hK hG (by omega) dX7_clears_132 ?_
    refine lv_iload hx hb dX7_clears_133 (lv_at hl 0 rfl) ?_
    refine lv_isub hx hb dX7_clears_135 ?_
    refine lv_topi (fun x20 ex20 => ?_)
    refine astMm (k := 169 + 20 * q + 2) hx hb hK hG hS hA (by omega) dX7_clears_136 (fun H locs hG hS => ?_)
    generalize eP21 : upd P19 (169 + 20 * q + 2) x20 = P21 at hG
    refine lv_aload_n hx hb dX7_clears_137 rfl (lv_at hl 3 rfl) ?_
    refine getMm hx hb hts hown hK hG qF_X7_7 dX7_clears_138 ?_
    refine lv_bipush (v := 8) hx hb dX7_clears_141 (by decide) ?_
    refine lv_dup2_11 hx hb dX7_clears_143 rfl rfl ?_
    refine aldMm (k := 8) hx hb hK hG (by omega) dX7_clears_144 ?_
    refine lv_iload hx hb dX7_clears_145 (lv_at hl 0 rfl) ?_
    refine lv_iadd hx hb dX7_clears_147 ?_
    refine lv_topi (fun x22 ex22 => ?_)
    refine astMm (k := 8) hx hb hK hG hS hA (by omega) dX7_clears_148 (fun H locs hG hS => ?_)
    generalize eP23 : upd P21 8 x22 = P23 at hG
    subst eP23
    subst ex22
    subst eP21
    subst ex20
    subst eP19
    subst ex18
    subst eP17
    subst ex16
    subst eP15
    subst ex14
    subst eP3
    subst ex2
    subst ex1
    have hG9 : Md D o (fP_X7_clears P q si) S V T F h H := by
      unfold fP_X7_clears; (try dsimp only); (try rw [if_neg c66])
      exact hG
    exact W.vret hx hb hr (fun t ht hW => gQv_of hG9 hS ht) hS.2.2 dX7_clears_149
theorem hdv_X7_goesOn : yX7_goesOn.cls = RX7 ∧ yX7_goesOn.cls ≠ "java/lang/invoke/MethodHandle" ∧ yX7_goesOn.cls ≠ "java/lang/invoke/VarHandle" ∧ (parseMethodDescriptor yX7_goesOn.desc).map (fun d => d.parameters.length) = some 1 := by decide +kernel
def fP_X7_goesOn (P : Nat → Int32) (q : Nat) : Nat → Int32 :=
  let P1 := upd P (169 + 20 * q + 5) 0
  let x2 := (P1 (169 + 20 * q + 4)) + 1
  let P3 := upd P1 (169 + 20 * q + 4) x2
  if P3 (169 + 20 * q + 3) ≤ P3 (169 + 20 * q + 4) then
    let P4 := upd P3 (169 + 20 * q + 4) 0
    let x5 := (P4 (169 + 20 * q + 6)) + 1
    let P6 := upd P4 (169 + 20 * q + 6) x5
    P6
  else
    let x7 := P3 (169 + 20 * q + 4)
    let P8 := upd P3 (169 + 20 * q + 4) x7
    let x9 := (P8 (169 + 20 * q + 6)) + 0
    let P10 := upd P8 (169 + 20 * q + 6) x9
    P10
def fR_X7_goesOn (P : Nat → Int32) (q : Nat) : Int32 :=
  let P1 := upd P (169 + 20 * q + 5) 0
  let x2 := (P1 (169 + 20 * q + 4)) + 1
  let P3 := upd P1 (169 + 20 * q + 4) x2
  if P3 (169 + 20 * q + 3) ≤ P3 (169 + 20 * q + 4) then
    0
  else
    1
set_option maxHeartbeats 4000000 in
set_option maxRecDepth 100000 in
theorem c_X7_goesOn (l : Launch) (D : va_G) (o : Nat) (P S V T F : Nat → Int32) (h : Int64) (q : Nat) (hq : q < 3) : Met l yX7_goesOn (wA yX7_goesOn cX7_goesOn 4 (some .boolean)) (rmL 0) (gPc D [.ref o, .int (nI q)] (fun H => Md D o P S V T F h H)) (gQi (inM o) (fR_X7_goesOn P q) (fun H => Md D o (fP_X7_goesOn P q) S V T F h H)) 0 0 (inM o) := by
  refine Met.ofW (cc := cX7_goesOn) (maxL := 4) (ret := (some .boolean)) (by decide) rfl ?_
  intro p e s m args below meth c s₁ B hml hv
  obtain ⟨hav, hG, hK⟩ := hv
  have hx := B.exec
  have hb := B.bytes
  have hr := B.returns
  have hts0 := atoms_spec (ws := wA yX7_goesOn cX7_goesOn 4 (some .boolean)) B.pre
  have hts : ∀ w ∈ AW, w.before _ s = true := fun w h => hts0 w (List.mem_cons_of_mem _ h)
  have hown : s.vm.findClass RX7 = some m.cls := findClass_of_methodNamed B.named
  have hlocks := B.notSynchronized
  have hA : ∀ q, (inM o) q → (inM o) q := fun _ h => h
  have hS : va_S (inM o) s.heap s.heap [] := va_S.rf
  have hG : Md D o P S V T F h s.heap := hG
  have hl := lv_entry ([.ref o, .int (nI q)]) (n := 4) (Nat.le_of_ble_eq_true rfl)
  refine W.eq (g2 := entryFrame m ([.ref o, .int (nI q)] : List Value).toArray 4) (by rw [hav]) ?_
  rw [lg_entry_eq]
  generalize (lg_sl ([.ref o, .int (nI q)]) ++ List.replicate (4 - (lg_sl ([.ref o, .int (nI q)])).length) Slot.unset).toArray = ls at hl ⊢
  have hl : lv_has ls 4 [(0, .ref o), (1, .int (nI q))] := hl
  refine lv_sipush (v := 169) hx hb dX7_goesOn_0 (by decide) ?_
  refine lv_bipush (v := 20) hx hb dX7_goesOn_3 (by decide) ?_
  refine lv_iload_n hx hb dX7_goesOn_5 rfl (lv_at hl 1 rfl) ?_
  refine imulN (a := 20) (b := q) hx hb dX7_goesOn_6 ?_
  refine iaddN (a := 169) (b := 20 * q) hx hb dX7_goesOn_7 ?_
  refine lv_istore_n (lv' := [(2, .int (nI (169 + 20 * q))), (0, .ref o), (1, .int (nI q))]) hx hb dX7_goesOn_8 rfl hl (by decide) rfl (fun ls hl => ?_)
  refine lv_aload_n hx hb dX7_goesOn_9 rfl (lv_at hl 1 rfl) ?_
  refine getMm hx hb hts hown hK hG qF_X7_7 dX7_goesOn_10 ?_
  refine lv_iload_n hx hb dX7_goesOn_13 rfl (lv_at hl 0 rfl) ?_
  refine lv_iconst (v := 5) hx hb dX7_goesOn_14 (by decide) ?_
  refine iaddN (a := 169 + 20 * q) (b := 5) hx hb dX7_goesOn_15 ?_
  refine lv_iconst (v := 0) hx hb dX7_goesOn_16 (by decide) ?_
  refine astMm (k := 169 + 20 * q + 5) hx hb hK hG hS hA (by omega) dX7_goesOn_17 (fun H locs hG hS => ?_)
  generalize eP1 : upd P (169 + 20 * q + 5) 0 = P1 at hG
  refine lv_aload_n hx hb dX7_goesOn_18 rfl (lv_at hl 1 rfl) ?_
  refine getMm hx hb hts hown hK hG qF_X7_7 dX7_goesOn_19 ?_
  refine lv_iload_n hx hb dX7_goesOn_22 rfl (lv_at hl 0 rfl) ?_
  refine lv_iconst (v := 4) hx hb dX7_goesOn_23 (by decide) ?_
  refine iaddN (a := 169 + 20 * q) (b := 4) hx hb dX7_goesOn_24 ?_
  refine lv_dup2_11 hx hb dX7_goesOn_25 rfl rfl ?_
  refine aldMm (k := 169 + 20 * q + 4) hx hb hK hG (by omega) dX7_goesOn_26 ?_
  refine lv_iconst (v := 1) hx hb dX7_goesOn_27 (by decide) ?_
  refine lv_iadd hx hb dX7_goesOn_28 ?_
  refine lv_topi (fun x2 ex2 => ?_)
  refine astMm (k := 169 + 20 * q + 4) hx hb hK hG hS hA (by omega) dX7_goesOn_29 (fun H locs hG hS => ?_)
  generalize eP3 : upd P1 (169 + 20 * q + 4) x2 = P3 at hG
  refine lv_aload_n hx hb dX7_goesOn_30 rfl (lv_at hl 1 rfl) ?_
  refine getMm hx hb hts hown hK hG qF_X7_7 dX7_goesOn_31 ?_
  refine lv_iload_n hx hb dX7_goesOn_34 rfl (lv_at hl 0 rfl) ?_
  refine lv_iconst (v := 4) hx hb dX7_goesOn_35 (by decide) ?_
  refine iaddN (a := 169 + 20 * q) (b := 4) hx hb dX7_goesOn_36 ?_
  refine aldMm (k := 169 + 20 * q + 4) hx hb hK hG (by omega) dX7_goesOn_37 ?_
  refine lv_aload_n hx hb dX7_goesOn_38 rfl (lv_at hl 1 rfl) ?_
  refine getMm hx hb hts hown hK hG qF_X7_7 dX7_goesOn_39 ?_
  refine lv_iload_n hx hb dX7_goesOn_42 rfl (lv_at hl 0 rfl) ?_
  refine lv_iconst (v := 3) hx hb dX7_goesOn_43 (by decide) ?_
  refine iaddN (a := 169 + 20 * q) (b := 3) hx hb dX7_goesOn_44 ?_
  refine aldMm (k := 169 + 20 * q + 3) hx hb hK hG (by omega) dX7_goesOn_45 ?_
  refine lv_icmp_ge (tgt := 53) hx hb dX7_goesOn_46 (by decide) (fun c46 => ?_) (fun c46 => ?_)
  · refine lv_iconst (v := 0) hx hb dX7_goesOn_53 (by decide) ?_
    refine lv_istore_n (lv' := [(3, .int 0), (2, .int (nI (169 + 20 * q))), (0, .ref o), (1, .int (nI q))]) hx hb dX7_goesOn_54 rfl hl (by decide) rfl (fun ls hl => ?_)
    refine lv_aload_n hx hb dX7_goesOn_55 rfl (lv_at hl 2 rfl) ?_
    refine getMm hx hb hts hown hK hG qF_X7_7 dX7_goesOn_56 ?_
    refine lv_iload_n hx hb dX7_goesOn_59 rfl (lv_at hl 1 rfl) ?_
    refine lv_iconst (v := 4) hx hb dX7_goesOn_60 (by decide) ?_
    refine iaddN (a := 169 + 20 * q) (b := 4) hx hb dX7_goesOn_61 ?_
    refine lv_iload_n hx hb dX7_goesOn_62 rfl (lv_at hl 0 rfl) ?_
    refine lv_if_eq (tgt := 77) hx hb dX7_goesOn_63 (by decide) (fun c63 => ?_) (fun c63 => ?_)
    · refine lv_iconst (v := 0) hx hb dX7_goesOn_77 (by decide) ?_
      refine astMm (k := 169 + 20 * q + 4) hx hb hK hG hS hA (by omega) dX7_goesOn_78 (fun H locs hG hS => ?_)
      generalize eP4 : upd P3 (169 + 20 * q + 4) 0 = P4 at hG
      refine lv_aload_n hx hb dX7_goesOn_79 rfl (lv_at hl 2 rfl) ?_
      refine getMm hx hb hts hown hK hG qF_X7_7 dX7_goesOn_80 ?_
      refine lv_iload_n hx hb dX7_goesOn_83 rfl (lv_at hl 1 rfl) ?_
      refine lv_bipush (v := 6) hx hb dX7_goesOn_84 (by decide) ?_
      refine iaddN (a := 169 + 20 * q) (b := 6) hx hb dX7_goesOn_86 ?_
      refine lv_dup2_11 hx hb dX7_goesOn_87 rfl rfl ?_
      refine aldMm (k := 169 + 20 * q + 6) hx hb hK hG (by omega) dX7_goesOn_88 ?_
      refine lv_iload_n hx hb dX7_goesOn_89 rfl (lv_at hl 0 rfl) ?_
      refine lv_if_eq (tgt := 97) hx hb dX7_goesOn_90 (by decide) (fun c90 => ?_) (fun c90 => ?_)
      · refine lv_iconst (v := 1) hx hb dX7_goesOn_97 (by decide) ?_
        refine lv_iadd hx hb dX7_goesOn_98 ?_
        refine lv_topi (fun x5 ex5 => ?_)
        refine astMm (k := 169 + 20 * q + 6) hx hb hK hG hS hA (by omega) dX7_goesOn_99 (fun H locs hG hS => ?_)
        generalize eP6 : upd P4 (169 + 20 * q + 6) x5 = P6 at hG
        refine lv_iload_n hx hb dX7_goesOn_100 rfl (lv_at hl 0 rfl) ?_
        subst eP6
        subst ex5
        subst eP4
        subst eP3
        subst ex2
        subst eP1
        have hG9 : Md D o (fP_X7_goesOn P q) S V T F h H := by
          unfold fP_X7_goesOn; (try dsimp only); (try rw [if_pos c46])
          exact hG
        exact W.zret hx hb hr (by rfl) (fun t ht hW => gQi_of (by unfold fR_X7_goesOn; (try dsimp only); (try rw [if_pos c46]); (try rfl)) hG9 hS ht) hS.2.2 dX7_goesOn_101
      · exact absurd c90 (by decide)
    · exact absurd c63 (by decide)
  · refine lv_iconst (v := 1) hx hb dX7_goesOn_49 (by decide) ?_
    refine lv_goto (tgt := 54) hx hb dX7_goesOn_50 (by decide) ?_
    refine lv_istore_n (lv' := [(3, .int 1), (2, .int (nI (169 + 20 * q))), (0, .ref o), (1, .int (nI q))]) hx hb dX7_goesOn_54 rfl hl (by decide) rfl (fun ls hl => ?_)
    refine lv_aload_n hx hb dX7_goesOn_55 rfl (lv_at hl 2 rfl) ?_
    refine getMm hx hb hts hown hK hG qF_X7_7 dX7_goesOn_56 ?_
    refine lv_iload_n hx hb dX7_goesOn_59 rfl (lv_at hl 1 rfl) ?_
    refine lv_iconst (v := 4) hx hb dX7_goesOn_60 (by decide) ?_
    refine iaddN (a := 169 + 20 * q) (b := 4) hx hb dX7_goesOn_61 ?_
    refine lv_iload_n hx hb dX7_goesOn_62 rfl (lv_at hl 0 rfl) ?_
    refine lv_if_eq (tgt := 77) hx hb dX7_goesOn_63 (by decide) (fun c63 => ?_) (fun c63 => ?_)
    · exact absurd c63 (by decide)
    · refine lv_aload_n hx hb dX7_goesOn_66 rfl (lv_at hl 2 rfl) ?_
      refine getMm hx hb hts hown hK hG qF_X7_7 dX7_goesOn_67 ?_
      refine lv_iload_n hx hb dX7_goesOn_70 rfl (lv_at hl 1 rfl) ?_
      refine lv_iconst (v := 4) hx hb dX7_goesOn_71 (by decide) ?_
      refine iaddN (a := 169 + 20 * q) (b := 4) hx hb dX7_goesOn_72 ?_
      refine aldMm (k := 169 + 20 * q + 4) hx hb hK hG (by omega) dX7_goesOn_73 ?_
      refine lv_goto (tgt := 78) hx hb dX7_goesOn_74 (by decide) ?_
      refine lv_topi (fun x7 ex7 => ?_)
      refine astMm (k := 169 + 20 * q + 4) hx hb hK hG hS hA (by omega) dX7_goesOn_78 (fun H locs hG hS => ?_)
      generalize eP8 : upd P3 (169 + 20 * q + 4) x7 = P8 at hG
      refine lv_aload_n hx hb dX7_goesOn_79 rfl (lv_at hl 2 rfl) ?_
      refine getMm hx hb hts hown hK hG qF_X7_7 dX7_goesOn_80 ?_
      refine lv_iload_n hx hb dX7_goesOn_83 rfl (lv_at hl 1 rfl) ?_
      refine lv_bipush (v := 6) hx hb dX7_goesOn_84 (by decide) ?_
      refine iaddN (a := 169 + 20 * q) (b := 6) hx hb dX7_goesOn_86 ?_
      refine lv_dup2_11 hx hb dX7_goesOn_87 rfl rfl ?_
      refine aldMm (k := 169 + 20 * q + 6) hx hb hK hG (by omega) dX7_goesOn_88 ?_
      refine lv_iload_n hx hb dX7_goesOn_89 rfl (lv_at hl 0 rfl) ?_
      refine lv_if_eq (tgt := 97) hx hb dX7_goesOn_90 (by decide) (fun c90 => ?_) (fun c90 => ?_)
      · exact absurd c90 (by decide)
      · refine lv_iconst (v := 0) hx hb dX7_goesOn_93 (by decide) ?_
        refine lv_goto (tgt := 98) hx hb dX7_goesOn_94 (by decide) ?_
        refine lv_iadd hx hb dX7_goesOn_98 ?_
        refine lv_topi (fun x9 ex9 => ?_)
        refine astMm (k := 169 + 20 * q + 6) hx hb hK hG hS hA (by omega) dX7_goesOn_99 (fun H locs hG hS => ?_)
        generalize eP10 : upd P8 (169 + 20 * q + 6) x9 = P10 at hG
        refine lv_iload_n hx hb dX7_goesOn_100 rfl (lv_at hl 0 rfl) ?_
        subst eP10
        subst ex9
        subst eP8
        subst ex7
        subst eP3
        subst ex2
        subst eP1
        have hG9 : Md D o (fP_X7_goesOn P q) S V T F h H := by
          unfold fP_X7_goesOn; (try dsimp only); (try rw [if_neg c46])
          exact hG
        exact W.zret hx hb hr (by rfl) (fun t ht hW => gQi_of (by unfold fR_X7_goesOn; (try dsimp only); (try rw [if_neg c46]); (try rfl)) hG9 hS ht) hS.2.2 dX7_goesOn_101
theorem hdv_X7_waits : yX7_waits.cls = RX7 ∧ yX7_waits.cls ≠ "java/lang/invoke/MethodHandle" ∧ yX7_waits.cls ≠ "java/lang/invoke/VarHandle" ∧ (parseMethodDescriptor yX7_waits.desc).map (fun d => d.parameters.length) = some 1 := by decide +kernel
def fP_X7_waits (P : Nat → Int32) (si : Nat) : Nat → Int32 :=
  if fR_X7_isDue P si = 0 then
    let P1 := upd P (9 + 8 * si + 5) 0
    if fR_X7_term P1 si 1 < P1 (9 + 8 * si + 5) then
      let x2 := (P1 5) + 1
      let P3 := upd P1 5 x2
      let x4 := (P3 (229 + (4 * (pr P si)) + 3)) + 1
      let P5 := upd P3 (229 + (4 * (pr P si)) + 3) x4
      P5
    else
      P1
  else
    let x6 := (P (9 + 8 * si + 5)) + 1
    let P7 := upd P (9 + 8 * si + 5) x6
    if fR_X7_term P7 si 1 < P7 (9 + 8 * si + 5) then
      let x8 := (P7 5) + 1
      let P9 := upd P7 5 x8
      let x10 := (P9 (229 + (4 * (pr P si)) + 3)) + 1
      let P11 := upd P9 (229 + (4 * (pr P si)) + 3) x10
      P11
    else
      P7
def fR_X7_waits (P : Nat → Int32) (si : Nat) : Int32 :=
  if fR_X7_isDue P si = 0 then
    let P1 := upd P (9 + 8 * si + 5) 0
    if fR_X7_term P1 si 1 < P1 (9 + 8 * si + 5) then
      let x2 := (P1 5) + 1
      let P3 := upd P1 5 x2
      let x4 := (P3 (229 + (4 * (pr P si)) + 3)) + 1
      let P5 := upd P3 (229 + (4 * (pr P si)) + 3) x4
      fR_X7_term P5 si 2
    else
      0
  else
    let x6 := (P (9 + 8 * si + 5)) + 1
    let P7 := upd P (9 + 8 * si + 5) x6
    if fR_X7_term P7 si 1 < P7 (9 + 8 * si + 5) then
      let x8 := (P7 5) + 1
      let P9 := upd P7 5 x8
      let x10 := (P9 (229 + (4 * (pr P si)) + 3)) + 1
      let P11 := upd P9 (229 + (4 * (pr P si)) + 3) x10
      fR_X7_term P11 si 2
    else
      0
set_option maxHeartbeats 4000000 in
set_option maxRecDepth 100000 in
theorem c_X7_waits (l : Launch) (D : va_G) (o : Nat) (P S V T F : Nat → Int32) (h : Int64) (si : Nat) (hs : si < 20) (hp : okR P si) : Met l yX7_waits (wA yX7_waits cX7_waits 3 (some .int)) (rmL 3) (gPc D [.ref o, .int (nI si)] (fun H => Md D o P S V T F h H)) (gQi (inM o) (fR_X7_waits P si) (fun H => Md D o (fP_X7_waits P si) S V T F h H)) 0 0 (inM o) := by
  refine Met.ofW (cc := cX7_waits) (maxL := 3) (ret := (some .int)) (by decide) rfl ?_
  intro p e s m args below meth c s₁ B hml hv
  obtain ⟨hav, hG, hK⟩ := hv
  have hx := B.exec
  have hb := B.bytes
  have hr := B.returns
  have hts0 := atoms_spec (ws := wA yX7_waits cX7_waits 3 (some .int)) B.pre
  have hts : ∀ w ∈ AW, w.before _ s = true := fun w h => hts0 w (List.mem_cons_of_mem _ h)
  have hown : s.vm.findClass RX7 = some m.cls := findClass_of_methodNamed B.named
  have hlocks := B.notSynchronized
  have hA : ∀ q, (inM o) q → (inM o) q := fun _ h => h
  have hS : va_S (inM o) s.heap s.heap [] := va_S.rf
  have hG : Md D o P S V T F h s.heap := hG
  have hl := lv_entry ([.ref o, .int (nI si)]) (n := 3) (Nat.le_of_ble_eq_true rfl)
  refine W.eq (g2 := entryFrame m ([.ref o, .int (nI si)] : List Value).toArray 3) (by rw [hav]) ?_
  rw [lg_entry_eq]
  generalize (lg_sl ([.ref o, .int (nI si)]) ++ List.replicate (3 - (lg_sl ([.ref o, .int (nI si)])).length) Slot.unset).toArray = ls at hl ⊢
  have hl : lv_has ls 3 [(0, .ref o), (1, .int (nI si))] := hl
  refine lv_bipush (v := 9) hx hb dX7_waits_0 (by decide) ?_
  refine lv_bipush (v := 8) hx hb dX7_waits_2 (by decide) ?_
  refine lv_iload_n hx hb dX7_waits_4 rfl (lv_at hl 1 rfl) ?_
  refine imulN (a := 8) (b := si) hx hb dX7_waits_5 ?_
  refine iaddN (a := 9) (b := 8 * si) hx hb dX7_waits_6 ?_
  refine lv_istore_n (lv' := [(2, .int (nI (9 + 8 * si))), (0, .ref o), (1, .int (nI si))]) hx hb dX7_waits_7 rfl hl (by decide) rfl (fun ls hl => ?_)
  refine lv_aload_n hx hb dX7_waits_8 rfl (lv_at hl 1 rfl) ?_
  refine getMm hx hb hts hown hK hG qF_X7_7 dX7_waits_9 ?_
  refine lv_iload_n hx hb dX7_waits_12 rfl (lv_at hl 0 rfl) ?_
  refine lv_iconst (v := 5) hx hb dX7_waits_13 (by decide) ?_
  refine iaddN (a := 9 + 8 * si) (b := 5) hx hb dX7_waits_14 ?_
  refine lv_aload_n hx hb dX7_waits_15 rfl (lv_at hl 1 rfl) ?_
  refine lv_iload_n hx hb dX7_waits_16 rfl (lv_at hl 2 rfl) ?_
  refine gcVi (As := [.int (nI si)]) (rest := [.int (nI (9 + 8 * si + 5)), .ref (o + 1)]) hx hb hml hown hts hl.1 hK (c_X7_isDue l D o P S V T F h si (by first | assumption | omega) (by first | assumption | omega)) (gaV qM_X7_75 qI_X7_isDue qS_X7_isDue qK_X7 qC_X7_isDue) hdv_X7_isDue ⟨Nat.le_of_ble_eq_true rfl, Nat.le_of_ble_eq_true rfl⟩ hG (hG.recv hK) rfl (Nat.le_of_ble_eq_true rfl) ⟨Nat.zero_le _, Nat.zero_le _⟩ dX7_waits_17 hS hA (fun H locs hG _ _ hS => ?_)
  have hG : Md D o P S V T F h H := hG
  refine lv_if_eq (tgt := 36) hx hb dX7_waits_20 (by decide) (fun c20 => ?_) (fun c20 => ?_)
  · refine lv_iconst (v := 0) hx hb dX7_waits_36 (by decide) ?_
    refine astMm (k := 9 + 8 * si + 5) hx hb hK hG hS hA (by omega) dX7_waits_37 (fun H locs hG hS => ?_)
    generalize eP1 : upd P (9 + 8 * si + 5) 0 = P1 at hG
    refine lv_aload_n hx hb dX7_waits_38 rfl (lv_at hl 1 rfl) ?_
    refine getMm hx hb hts hown hK hG qF_X7_7 dX7_waits_39 ?_
    refine lv_iload_n hx hb dX7_waits_42 rfl (lv_at hl 0 rfl) ?_
    refine lv_iconst (v := 5) hx hb dX7_waits_43 (by decide) ?_
    refine iaddN (a := 9 + 8 * si) (b := 5) hx hb dX7_waits_44 ?_
    refine aldMm (k := 9 + 8 * si + 5) hx hb hK hG (by omega) dX7_waits_45 ?_
    refine lv_aload_n hx hb dX7_waits_46 rfl (lv_at hl 1 rfl) ?_
    refine lv_iload_n hx hb dX7_waits_47 rfl (lv_at hl 2 rfl) ?_
    refine lv_iconst (v := 1) hx hb dX7_waits_48 (by decide) ?_
    refine gcVi (As := [.int (nI si), .int 1]) (rest := [.int (P1 (9 + 8 * si + 5))]) hx hb hml hown hts hl.1 hK (c_X7_term l D o P1 S V T F h si 1 (by first | assumption | omega) (okR_c (by subst_vars; simp only [upd]; (repeat rw [if_neg (by omega)])) hp) (by first | assumption | omega)) (gaV qM_X7_45 qI_X7_term qS_X7_term qK_X7 qC_X7_term) hdv_X7_term ⟨Nat.le_of_ble_eq_true rfl, Nat.le_of_ble_eq_true rfl⟩ hG (hG.recv hK) rfl (Nat.le_of_ble_eq_true rfl) ⟨Nat.zero_le _, Nat.zero_le _⟩ dX7_waits_49 hS hA (fun H locs hG _ _ hS => ?_)
    have hG : Md D o P1 S V T F h H := hG
    refine lv_icmp_gt (tgt := 57) hx hb dX7_waits_52 (by decide) (fun c52 => ?_) (fun c52 => ?_)
    · refine lv_aload_n hx hb dX7_waits_57 rfl (lv_at hl 1 rfl) ?_
      refine getMm hx hb hts hown hK hG qF_X7_7 dX7_waits_58 ?_
      refine lv_iconst (v := 5) hx hb dX7_waits_61 (by decide) ?_
      refine lv_dup2_11 hx hb dX7_waits_62 rfl rfl ?_
      refine aldMm (k := 5) hx hb hK hG (by omega) dX7_waits_63 ?_
      refine lv_iconst (v := 1) hx hb dX7_waits_64 (by decide) ?_
      refine lv_iadd hx hb dX7_waits_65 ?_
      refine lv_topi (fun x2 ex2 => ?_)
      refine astMm (k := 5) hx hb hK hG hS hA (by omega) dX7_waits_66 (fun H locs hG hS => ?_)
      generalize eP3 : upd P1 5 x2 = P3 at hG
      refine lv_aload_n hx hb dX7_waits_67 rfl (lv_at hl 1 rfl) ?_
      refine getMm hx hb hts hown hK hG qF_X7_7 dX7_waits_68 ?_
      refine lv_sipush (v := 229) hx hb dX7_waits_71 (by decide) ?_
      refine lv_iconst (v := 4) hx hb dX7_waits_74 (by decide) ?_
      refine lv_aload_n hx hb dX7_waits_75 rfl (lv_at hl 1 rfl) ?_
      refine getMm hx hb hts hown hK hG qF_X7_7 dX7_waits_76 ?_
      refine lv_iload_n hx hb dX7_waits_79 rfl (lv_at hl 0 rfl) ?_
      refine lv_iconst (v := 1) hx hb dX7_waits_80 (by decide) ?_
      refine iaddN (a := 9 + 8 * si) (b := 1) hx hb dX7_waits_81 ?_
      refine aldMm (k := 9 + 8 * si + 1) hx hb hK hG (by omega) dX7_waits_82 ?_
      refine topN (n := (pr P si)) (by subst_vars; simp only [upd]; (repeat rw [if_neg (by omega)]); exact hp.1) ?_
      refine imulN (a := 4) (b := (pr P si)) hx hb dX7_waits_83 ?_
      refine iaddN (a := 229) (b := 4 * (pr P si)) hx hb dX7_waits_84 ?_
      refine lv_iconst (v := 3) hx hb dX7_waits_85 (by decide) ?_
      refine iaddN (a := 229 + (4 * (pr P si))) (b := 3) hx hb dX7_waits_86 ?_
      refine lv_dup2_11 hx hb dX7_waits_87 rfl rfl ?_
      refine aldMm (k := 229 + (4 * (pr P si)) + 3) hx hb hK hG (by have := hp.2; omega) dX7_waits_88 ?_
      refine lv_iconst (v := 1) hx hb dX7_waits_89 (by decide) ?_
      refine lv_iadd hx hb dX7_waits_90 ?_
      refine lv_topi (fun x4 ex4 => ?_)
      refine astMm (k := 229 + (4 * (pr P si)) + 3) hx hb hK hG hS hA (by have := hp.2; omega) dX7_waits_91 (fun H locs hG hS => ?_)
      generalize eP5 : upd P3 (229 + (4 * (pr P si)) + 3) x4 = P5 at hG
      refine lv_aload_n hx hb dX7_waits_92 rfl (lv_at hl 1 rfl) ?_
      refine lv_iload_n hx hb dX7_waits_93 rfl (lv_at hl 2 rfl) ?_
      refine lv_iconst (v := 2) hx hb dX7_waits_94 (by decide) ?_
      refine gcVi (As := [.int (nI si), .int 2]) (rest := []) hx hb hml hown hts hl.1 hK (c_X7_term l D o P5 S V T F h si 2 (by first | assumption | omega) (okR_c (by subst_vars; simp only [upd]; (repeat rw [if_neg (by omega)])) hp) (by first | assumption | omega)) (gaV qM_X7_45 qI_X7_term qS_X7_term qK_X7 qC_X7_term) hdv_X7_term ⟨Nat.le_of_ble_eq_true rfl, Nat.le_of_ble_eq_true rfl⟩ hG (hG.recv hK) rfl (Nat.le_of_ble_eq_true rfl) ⟨Nat.zero_le _, Nat.zero_le _⟩ dX7_waits_95 hS hA (fun H locs hG _ _ hS => ?_)
      have hG : Md D o P5 S V T F h H := hG
      subst eP5
      subst ex4
      subst eP3
      subst ex2
      subst eP1
      have hG9 : Md D o (fP_X7_waits P si) S V T F h H := by
        unfold fP_X7_waits; (try dsimp only); (try rw [if_pos c20, if_pos c52])
        exact hG
      exact W.iret hx hb hr (fun t ht hW => gQi_of (by unfold fR_X7_waits; (try dsimp only); (try rw [if_pos c20, if_pos c52]); (try rfl)) hG9 hS ht) hS.2.2 dX7_waits_98
    · refine lv_iconst (v := 0) hx hb dX7_waits_55 (by decide) ?_
      subst eP1
      have hG9 : Md D o (fP_X7_waits P si) S V T F h H := by
        unfold fP_X7_waits; (try dsimp only); (try rw [if_pos c20, if_neg c52])
        exact hG
      exact W.iret hx hb hr (fun t ht hW => gQi_of (by unfold fR_X7_waits; (try dsimp only); (try rw [if_pos c20, if_neg c52]); (try rfl)) hG9 hS ht) hS.2.2 dX7_waits_56
  · refine lv_aload_n hx hb dX7_waits_23 rfl (lv_at hl 1 rfl) ?_
    refine getMm hx hb hts hown hK hG qF_X7_7 dX7_waits_24 ?_
    refine lv_iload_n hx hb dX7_waits_27 rfl (lv_at hl 0 rfl) ?_
    refine lv_iconst (v := 5) hx hb dX7_waits_28 (by decide) ?_
    refine iaddN (a := 9 + 8 * si) (b := 5) hx hb dX7_waits_29 ?_
    refine aldMm (k := 9 + 8 * si + 5) hx hb hK hG (by omega) dX7_waits_30 ?_
    refine lv_iconst (v := 1) hx hb dX7_waits_31 (by decide) ?_
    refine lv_iadd hx hb dX7_waits_32 ?_
    refine lv_goto (tgt := 37) hx hb dX7_waits_33 (by decide) ?_
    refine lv_topi (fun x6 ex6 => ?_)
    refine astMm (k := 9 + 8 * si + 5) hx hb hK hG hS hA (by omega) dX7_waits_37 (fun H locs hG hS => ?_)
    generalize eP7 : upd P (9 + 8 * si + 5) x6 = P7 at hG
    refine lv_aload_n hx hb dX7_waits_38 rfl (lv_at hl 1 rfl) ?_
    refine getMm hx hb hts hown hK hG qF_X7_7 dX7_waits_39 ?_
    refine lv_iload_n hx hb dX7_waits_42 rfl (lv_at hl 0 rfl) ?_
    refine lv_iconst (v := 5) hx hb dX7_waits_43 (by decide) ?_
    refine iaddN (a := 9 + 8 * si) (b := 5) hx hb dX7_waits_44 ?_
    refine aldMm (k := 9 + 8 * si + 5) hx hb hK hG (by omega) dX7_waits_45 ?_
    refine lv_aload_n hx hb dX7_waits_46 rfl (lv_at hl 1 rfl) ?_
    refine lv_iload_n hx hb dX7_waits_47 rfl (lv_at hl 2 rfl) ?_
    refine lv_iconst (v := 1) hx hb dX7_waits_48 (by decide) ?_
    refine gcVi (As := [.int (nI si), .int 1]) (rest := [.int (P7 (9 + 8 * si + 5))]) hx hb hml hown hts hl.1 hK (c_X7_term l D o P7 S V T F h si 1 (by first | assumption | omega) (okR_c (by subst_vars; simp only [upd]; (repeat rw [if_neg (by omega)])) hp) (by first | assumption | omega)) (gaV qM_X7_45 qI_X7_term qS_X7_term qK_X7 qC_X7_term) hdv_X7_term ⟨Nat.le_of_ble_eq_true rfl, Nat.le_of_ble_eq_true rfl⟩ hG (hG.recv hK) rfl (Nat.le_of_ble_eq_true rfl) ⟨Nat.zero_le _, Nat.zero_le _⟩ dX7_waits_49 hS hA (fun H locs hG _ _ hS => ?_)
    have hG : Md D o P7 S V T F h H := hG
    refine lv_icmp_gt (tgt := 57) hx hb dX7_waits_52 (by decide) (fun c52 => ?_) (fun c52 => ?_)
    · refine lv_aload_n hx hb dX7_waits_57 rfl (lv_at hl 1 rfl) ?_
      refine getMm hx hb hts hown hK hG qF_X7_7 dX7_waits_58 ?_
      refine lv_iconst (v := 5) hx hb dX7_waits_61 (by decide) ?_
      refine lv_dup2_11 hx hb dX7_waits_62 rfl rfl ?_
      refine aldMm (k := 5) hx hb hK hG (by omega) dX7_waits_63 ?_
      refine lv_iconst (v := 1) hx hb dX7_waits_64 (by decide) ?_
      refine lv_iadd hx hb dX7_waits_65 ?_
      refine lv_topi (fun x8 ex8 => ?_)
      refine astMm (k := 5) hx hb hK hG hS hA (by omega) dX7_waits_66 (fun H locs hG hS => ?_)
      generalize eP9 : upd P7 5 x8 = P9 at hG
      refine lv_aload_n hx hb dX7_waits_67 rfl (lv_at hl 1 rfl) ?_
      refine getMm hx hb hts hown hK hG qF_X7_7 dX7_waits_68 ?_
      refine lv_sipush (v := 229) hx hb dX7_waits_71 (by decide) ?_
      refine lv_iconst (v := 4) hx hb dX7_waits_74 (by decide) ?_
      refine lv_aload_n hx hb dX7_waits_75 rfl (lv_at hl 1 rfl) ?_
      refine getMm hx hb hts hown hK hG qF_X7_7 dX7_waits_76 ?_
      refine lv_iload_n hx hb dX7_waits_79 rfl (lv_at hl 0 rfl) ?_
      refine lv_iconst (v := 1) hx hb dX7_waits_80 (by decide) ?_
      refine iaddN (a := 9 + 8 * si) (b := 1) hx hb dX7_waits_81 ?_
      refine aldMm (k := 9 + 8 * si + 1) hx hb hK hG (by omega) dX7_waits_82 ?_
      refine topN (n := (pr P si)) (by subst_vars; simp only [upd]; (repeat rw [if_neg (by omega)]); exact hp.1) ?_
      refine imulN (a := 4) (b := (pr P si)) hx hb dX7_waits_83 ?_
      refine iaddN (a := 229) (b := 4 * (pr P si)) hx hb dX7_waits_84 ?_
      refine lv_iconst (v := 3) hx hb dX7_waits_85 (by decide) ?_
      refine iaddN (a := 229 + (4 * (pr P si))) (b := 3) hx hb dX7_waits_86 ?_
      refine lv_dup2_11 hx hb dX7_waits_87 rfl rfl ?_
      refine aldMm (k := 229 + (4 * (pr P si)) + 3) hx hb hK hG (by have := hp.2; omega) dX7_waits_88 ?_
      refine lv_iconst (v := 1) hx hb dX7_waits_89 (by decide) ?_
      refine lv_iadd hx hb dX7_waits_90 ?_
      refine lv_topi (fun x10 ex10 => ?_)
      refine astMm (k := 229 + (4 * (pr P si)) + 3) hx hb hK hG hS hA (by have := hp.2; omega) dX7_waits_91 (fun H locs hG hS => ?_)
      generalize eP11 : upd P9 (229 + (4 * (pr P si)) + 3) x10 = P11 at hG
      refine lv_aload_n hx hb dX7_waits_92 rfl (lv_at hl 1 rfl) ?_
      refine lv_iload_n hx hb dX7_waits_93 rfl (lv_at hl 2 rfl) ?_
      refine lv_iconst (v := 2) hx hb dX7_waits_94 (by decide) ?_
      refine gcVi (As := [.int (nI si), .int 2]) (rest := []) hx hb hml hown hts hl.1 hK (c_X7_term l D o P11 S V T F h si 2 (by first | assumption | omega) (okR_c (by subst_vars; simp only [upd]; (repeat rw [if_neg (by omega)])) hp) (by first | assumption | omega)) (gaV qM_X7_45 qI_X7_term qS_X7_term qK_X7 qC_X7_term) hdv_X7_term ⟨Nat.le_of_ble_eq_true rfl, Nat.le_of_ble_eq_true rfl⟩ hG (hG.recv hK) rfl (Nat.le_of_ble_eq_true rfl) ⟨Nat.zero_le _, Nat.zero_le _⟩ dX7_waits_95 hS hA (fun H locs hG _ _ hS => ?_)
      have hG : Md D o P11 S V T F h H := hG
      subst eP11
      subst ex10
      subst eP9
      subst ex8
      subst eP7
      subst ex6
      have hG9 : Md D o (fP_X7_waits P si) S V T F h H := by
        unfold fP_X7_waits; (try dsimp only); (try rw [if_neg c20, if_pos c52])
        exact hG
      exact W.iret hx hb hr (fun t ht hW => gQi_of (by unfold fR_X7_waits; (try dsimp only); (try rw [if_neg c20, if_pos c52]); (try rfl)) hG9 hS ht) hS.2.2 dX7_waits_98
    · refine lv_iconst (v := 0) hx hb dX7_waits_55 (by decide) ?_
      subst eP7
      subst ex6
      have hG9 : Md D o (fP_X7_waits P si) S V T F h H := by
        unfold fP_X7_waits; (try dsimp only); (try rw [if_neg c20, if_neg c52])
        exact hG
      exact W.iret hx hb hr (fun t ht hW => gQi_of (by unfold fR_X7_waits; (try dsimp only); (try rw [if_neg c20, if_neg c52]); (try rfl)) hG9 hS ht) hS.2.2 dX7_waits_56
