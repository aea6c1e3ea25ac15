theorem hdv_X7_append : yX7_append.cls = RX7 ∧ yX7_append.cls ≠ "java/lang/invoke/MethodHandle" ∧ yX7_append.cls ≠ "java/lang/invoke/VarHandle" ∧ (parseMethodDescriptor yX7_append.desc).map (fun d => d.parameters.length) = some 1 := by decide +kernel
def fT_X7_append (T : Nat → Int32) (F : Nat → Int32) (x : Int32) : Nat → Int32 :=
  if fR_X7_in x 0 127 = 0 then
    T
  else
    if (tl F) = 150 then
      T
    else
      let T2 := upd T (tl F) x
      T2
def fF_X7_append (T : Nat → Int32) (F : Nat → Int32) (x : Int32) : Nat → Int32 :=
  if fR_X7_in x 0 127 = 0 then
    let F5 := upd F 6 1
    F5
  else
    if (tl F) = 150 then
      let F4 := upd F 6 2
      F4
    else
      let F1 := upd F 6 0
      let F3 := upd F1 5 (nI ((tl F) + 1))
      F3
def fR_X7_append (T : Nat → Int32) (F : Nat → Int32) (x : Int32) : Int32 :=
  if fR_X7_in x 0 127 = 0 then
    0
  else
    if (tl F) = 150 then
      0
    else
      nI ((tl F) + 1)
set_option maxHeartbeats 4000000 in
set_option maxRecDepth 100000 in
theorem c_X7_append (l : Launch) (D : va_G) (o : Nat) (P S V T F : Nat → Int32) (h : Int64) (x : Int32) (hT : okT F) : Met l yX7_append (wA yX7_append cX7_append 2 (some .int)) (rmL 1) (gPc D [.ref o, .int x] (fun H => Md D o P S V T F h H)) (gQi (inM o) (fR_X7_append T F x) (fun H => Md D o P S V (fT_X7_append T F x) (fF_X7_append T F x) h H)) 0 0 (inM o) := by
  refine Met.ofW (cc := cX7_append) (maxL := 2) (ret := (some .int)) (by decide) rfl ?_
  intro p e s m args below meth c s₁ B hml hv
  obtain ⟨hav, hG, hK⟩ := hv
  have hx := B.exec
  have hb := B.bytes
  have hr := B.returns
  have hts0 := atoms_spec (ws := wA yX7_append cX7_append 2 (some .int)) B.pre
  have hts : ∀ w ∈ AW, w.before _ s = true := fun w h => hts0 w (List.mem_cons_of_mem _ h)
  have hown : s.vm.findClass RX7 = some m.cls := findClass_of_methodNamed B.named
  have hlocks := B.notSynchronized
  have hA : ∀ q, (inM o) q → (inM o) q := fun _ h => h
  have hS : va_S (inM o) s.heap s.heap [] := va_S.rf
  have hG : Md D o P S V T F h s.heap := hG
  have hl := lv_entry ([.ref o, .int x]) (n := 2) (Nat.le_of_ble_eq_true rfl)
  refine W.eq (g2 := entryFrame m ([.ref o, .int x] : List Value).toArray 2) (by rw [hav]) ?_
  rw [lg_entry_eq]
  generalize (lg_sl ([.ref o, .int x]) ++ List.replicate (2 - (lg_sl ([.ref o, .int x])).length) Slot.unset).toArray = ls at hl ⊢
  have hl : lv_has ls 2 [(0, .ref o), (1, .int x)] := hl
  have hT2 := hT.2
  refine lv_aload_n hx hb dX7_append_0 rfl (lv_at hl 0 rfl) ?_
  refine lv_iload_n hx hb dX7_append_1 rfl (lv_at hl 1 rfl) ?_
  refine lv_iconst (v := 0) hx hb dX7_append_2 (by decide) ?_
  refine lv_bipush (v := 127) hx hb dX7_append_3 (by decide) ?_
  refine gcSi (As := [.int x, .int 0, .int 127]) (rest := [.ref o]) hx hb hml hown hts hl.1 hK (c_X7_in l D (fun H => Md D o P S V T F h H) x 0 127) (gaS qM_X7_37 qT_X7_in qK_X7 qC_X7_in) hds_X7_in ⟨Nat.le_of_ble_eq_true rfl, Nat.le_of_ble_eq_true rfl⟩ hG rfl (Nat.le_of_ble_eq_true rfl) ⟨Nat.zero_le _, Nat.zero_le _⟩ dX7_append_5 hS (fun _ (h : noA _) => False.elim h) (fun H locs hG _ _ hS => ?_)
  have hG : Md D o P S V T F h H := hG
  refine lv_if_ne (tgt := 15) hx hb dX7_append_8 (by decide) (fun c8 => ?_) (fun c8 => ?_)
  · refine lv_aload_n hx hb dX7_append_15 rfl (lv_at hl 0 rfl) ?_
    refine getM 5 hx hb hts hown hK hG (by decide) qF_X7_124 rfl dX7_append_16 ?_
    refine topN (n := (tl F)) hT.1 ?_
    refine lv_sipush (v := 150) hx hb dX7_append_19 (by decide) ?_
    refine lv_icmp_ne (tgt := 29) hx hb dX7_append_22 (by decide) (fun c22 => ?_) (fun c22 => ?_)
    · have c22 : ¬ (tl F) = 150 := fun h => c22 ((nI_eq (a := (tl F)) (b := 150) (by omega) (by omega)).mpr h)
      refine lv_iconst (v := 0) hx hb dX7_append_29 (by decide) ?_
      refine putM 6 hx hb hts hown hK hG hS hA (by decide) qF_X7_26 rfl dX7_append_30 (fun H locs hG hS => ?_)
      generalize eF1 : upd F 6 0 = F1 at hG
      refine lv_aload_n hx hb dX7_append_33 rfl (lv_at hl 0 rfl) ?_
      refine getM 6 hx hb hts hown hK hG (by decide) qF_X7_26 rfl dX7_append_34 ?_
      refine topE (y := 0) (by rw [← eF1, upd_s]) ?_
      refine lv_if_eq (tgt := 42) hx hb dX7_append_37 (by decide) (fun c37 => ?_) (fun c37 => ?_)
      · refine lv_aload_n hx hb dX7_append_42 rfl (lv_at hl 0 rfl) ?_
        refine getMt hx hb hts hown hK hG qF_X7_19 dX7_append_43 ?_
        refine lv_aload_n hx hb dX7_append_46 rfl (lv_at hl 0 rfl) ?_
        refine getM 5 hx hb hts hown hK hG (by decide) qF_X7_124 rfl dX7_append_47 ?_
        refine topN (n := (tl F)) (by subst_vars; rw [upd_n (by decide)]; exact hT.1) ?_
        refine lv_iload_n hx hb dX7_append_50 rfl (lv_at hl 1 rfl) ?_
        refine astMt (k := (tl F)) hx hb hK hG hS hA (by omega) dX7_append_51 (fun H locs hG hS => ?_)
        generalize eT2 : upd T (tl F) x = T2 at hG
        refine lv_aload_n hx hb dX7_append_52 rfl (lv_at hl 0 rfl) ?_
        refine lv_dup hx hb dX7_append_53 rfl ?_
        refine getM 5 hx hb hts hown hK hG (by decide) qF_X7_124 rfl dX7_append_54 ?_
        refine topN (n := (tl F)) (by subst_vars; rw [upd_n (by decide)]; exact hT.1) ?_
        refine lv_iconst (v := 1) hx hb dX7_append_57 (by decide) ?_
        refine iaddN (a := (tl F)) (b := 1) hx hb dX7_append_58 ?_
        refine putM 5 hx hb hts hown hK hG hS hA (by decide) qF_X7_124 rfl dX7_append_59 (fun H locs hG hS => ?_)
        generalize eF3 : upd F1 5 (nI ((tl F) + 1)) = F3 at hG
        refine lv_aload_n hx hb dX7_append_62 rfl (lv_at hl 0 rfl) ?_
        refine getM 5 hx hb hts hown hK hG (by decide) qF_X7_124 rfl dX7_append_63 ?_
        refine topE (y := nI ((tl F) + 1)) (by rw [← eF3, upd_s]) ?_
        subst eF3
        subst eT2
        subst eF1
        have hG9 : Md D o P S V (fT_X7_append T F x) (fF_X7_append T F x) h H := by
          unfold fT_X7_append; (try dsimp only); (try rw [if_neg c8, if_neg c22])
          unfold fF_X7_append; (try dsimp only); (try rw [if_neg c8, if_neg c22])
          exact hG
        exact W.iret hx hb hr (fun t ht hW => gQi_of (by unfold fR_X7_append; (try dsimp only); (try rw [if_neg c8, if_neg c22]); (try rfl)) hG9 hS ht) hS.2.2 dX7_append_66
      · exact absurd c37 (by decide)
    · have c22 : (tl F) = 150 := (nI_eq (a := (tl F)) (b := 150) (by omega) (by omega)).mp c22
      refine lv_iconst (v := 2) hx hb dX7_append_25 (by decide) ?_
      refine lv_goto (tgt := 30) hx hb dX7_append_26 (by decide) ?_
      refine putM 6 hx hb hts hown hK hG hS hA (by decide) qF_X7_26 rfl dX7_append_30 (fun H locs hG hS => ?_)
      generalize eF4 : upd F 6 2 = F4 at hG
      refine lv_aload_n hx hb dX7_append_33 rfl (lv_at hl 0 rfl) ?_
      refine getM 6 hx hb hts hown hK hG (by decide) qF_X7_26 rfl dX7_append_34 ?_
      refine topE (y := 2) (by rw [← eF4, upd_s]) ?_
      refine lv_if_eq (tgt := 42) hx hb dX7_append_37 (by decide) (fun c37 => ?_) (fun c37 => ?_)
      · exact absurd c37 (by decide)
      · refine lv_iconst (v := 0) hx hb dX7_append_40 (by decide) ?_
        subst eF4
        have hG9 : Md D o P S V (fT_X7_append T F x) (fF_X7_append T F x) h H := by
          unfold fT_X7_append; (try dsimp only); (try rw [if_neg c8, if_pos c22])
          unfold fF_X7_append; (try dsimp only); (try rw [if_neg c8, if_pos c22])
          exact hG
        exact W.iret hx hb hr (fun t ht hW => gQi_of (by unfold fR_X7_append; (try dsimp only); (try rw [if_neg c8, if_pos c22]); (try rfl)) hG9 hS ht) hS.2.2 dX7_append_41
  · refine lv_iconst (v := 1) hx hb dX7_append_11 (by decide) ?_
    refine lv_goto (tgt := 30) hx hb dX7_append_12 (by decide) ?_
    refine putM 6 hx hb hts hown hK hG hS hA (by decide) qF_X7_26 rfl dX7_append_30 (fun H locs hG hS => ?_)
    generalize eF5 : upd F 6 1 = F5 at hG
    refine lv_aload_n hx hb dX7_append_33 rfl (lv_at hl 0 rfl) ?_
    refine getM 6 hx hb hts hown hK hG (by decide) qF_X7_26 rfl dX7_append_34 ?_
    refine topE (y := 1) (by rw [← eF5, upd_s]) ?_
    refine lv_if_eq (tgt := 42) hx hb dX7_append_37 (by decide) (fun c37 => ?_) (fun c37 => ?_)
    · exact absurd c37 (by decide)
    · refine lv_iconst (v := 0) hx hb dX7_append_40 (by decide) ?_
      subst eF5
      have hG9 : Md D o P S V (fT_X7_append T F x) (fF_X7_append T F x) h H := by
        unfold fT_X7_append; (try dsimp only); (try rw [if_pos c8])
        unfold fF_X7_append; (try dsimp only); (try rw [if_pos c8])
        exact hG
      exact W.iret hx hb hr (fun t ht hW => gQi_of (by unfold fR_X7_append; (try dsimp only); (try rw [if_pos c8]); (try rfl)) hG9 hS ht) hS.2.2 dX7_append_41
theorem hdv_X7_clearText : yX7_clearText.cls = RX7 ∧ yX7_clearText.cls ≠ "java/lang/invoke/MethodHandle" ∧ yX7_clearText.cls ≠ "java/lang/invoke/VarHandle" ∧ (parseMethodDescriptor yX7_clearText.desc).map (fun d => d.parameters.length) = some 0 := by decide +kernel
def fF_X7_clearText (F : Nat → Int32) : Nat → Int32 :=
  let F1 := upd F 6 0
  let F3 := upd F1 5 0
  F3
def fR_X7_clearText (F : Nat → Int32) : Int32 :=
  let F1 := upd F 6 0
  let x2 := F1 5
  x2
set_option maxHeartbeats 4000000 in
set_option maxRecDepth 100000 in
theorem c_X7_clearText (l : Launch) (D : va_G) (o : Nat) (P S V T F : Nat → Int32) (h : Int64) : Met l yX7_clearText (wA yX7_clearText cX7_clearText 2 (some .int)) (rmL 0) (gPc D [.ref o] (fun H => Md D o P S V T F h H)) (gQi (inM o) (fR_X7_clearText F) (fun H => Md D o P S V T (fF_X7_clearText F) h H)) 0 0 (inM o) := by
  refine Met.ofW (cc := cX7_clearText) (maxL := 2) (ret := (some .int)) (by decide) rfl ?_
  intro p e s m args below meth c s₁ B hml hv
  obtain ⟨hav, hG, hK⟩ := hv
  have hx := B.exec
  have hb := B.bytes
  have hr := B.returns
  have hts0 := atoms_spec (ws := wA yX7_clearText cX7_clearText 2 (some .int)) B.pre
  have hts : ∀ w ∈ AW, w.before _ s = true := fun w h => hts0 w (List.mem_cons_of_mem _ h)
  have hown : s.vm.findClass RX7 = some m.cls := findClass_of_methodNamed B.named
  have hlocks := B.notSynchronized
  have hA : ∀ q, (inM o) q → (inM o) q := fun _ h => h
  have hS : va_S (inM o) s.heap s.heap [] := va_S.rf
  have hG : Md D o P S V T F h s.heap := hG
  have hl := lv_entry ([.ref o]) (n := 2) (Nat.le_of_ble_eq_true rfl)
  refine W.eq (g2 := entryFrame m ([.ref o] : List Value).toArray 2) (by rw [hav]) ?_
  rw [lg_entry_eq]
  generalize (lg_sl ([.ref o]) ++ List.replicate (2 - (lg_sl ([.ref o])).length) Slot.unset).toArray = ls at hl ⊢
  have hl : lv_has ls 2 [(0, .ref o)] := hl
  refine lv_aload_n hx hb dX7_clearText_0 rfl (lv_at hl 0 rfl) ?_
  refine lv_iconst (v := 0) hx hb dX7_clearText_1 (by decide) ?_
  refine putM 6 hx hb hts hown hK hG hS hA (by decide) qF_X7_26 rfl dX7_clearText_2 (fun H locs hG hS => ?_)
  generalize eF1 : upd F 6 0 = F1 at hG
  refine lv_aload_n hx hb dX7_clearText_5 rfl (lv_at hl 0 rfl) ?_
  refine getM 5 hx hb hts hown hK hG (by decide) qF_X7_124 rfl dX7_clearText_6 ?_
  refine lv_topi (fun x2 ex2 => ?_)
  refine lv_istore_n (lv' := [(1, .int x2), (0, .ref o)]) hx hb dX7_clearText_9 rfl hl (by decide) rfl (fun ls hl => ?_)
  refine lv_aload_n hx hb dX7_clearText_10 rfl (lv_at hl 1 rfl) ?_
  refine lv_iconst (v := 0) hx hb dX7_clearText_11 (by decide) ?_
  refine putM 5 hx hb hts hown hK hG hS hA (by decide) qF_X7_124 rfl dX7_clearText_12 (fun H locs hG hS => ?_)
  generalize eF3 : upd F1 5 0 = F3 at hG
  refine lv_iload_n hx hb dX7_clearText_15 rfl (lv_at hl 0 rfl) ?_
  subst eF3
  subst ex2
  subst eF1
  have hG9 : Md D o P S V T (fF_X7_clearText F) h H := by
    unfold fF_X7_clearText; (try dsimp only)
    exact hG
  exact W.iret hx hb hr (fun t ht hW => gQi_of (by unfold fR_X7_clearText; (try dsimp only); (try rfl)) hG9 hS ht) hS.2.2 dX7_clearText_16
theorem hdv_X7_here : yX7_here.cls = RX7 ∧ yX7_here.cls ≠ "java/lang/invoke/MethodHandle" ∧ yX7_here.cls ≠ "java/lang/invoke/VarHandle" ∧ (parseMethodDescriptor yX7_here.desc).map (fun d => d.parameters.length) = some 0 := by decide +kernel
def fR_X7_here (T : Nat → Int32) (F : Nat → Int32) : Int32 :=
  if (tl F) ≤ (ta F) then
    (-1)
  else
    T (ta F)
set_option maxHeartbeats 4000000 in
set_option maxRecDepth 100000 in
theorem c_X7_here (l : Launch) (D : va_G) (o : Nat) (P S V T F : Nat → Int32) (h : Int64) (hX : okX F) : Met l yX7_here (wA yX7_here cX7_here 1 (some .int)) (rmL 0) (gPc D [.ref o] (fun H => Md D o P S V T F h H)) (gQi (inM o) (fR_X7_here T F) (fun H => Md D o P S V T F h H)) 0 0 (inM o) := by
  refine Met.ofW (cc := cX7_here) (maxL := 1) (ret := (some .int)) (by decide) rfl ?_
  intro p e s m args below meth c s₁ B hml hv
  obtain ⟨hav, hG, hK⟩ := hv
  have hx := B.exec
  have hb := B.bytes
  have hr := B.returns
  have hts0 := atoms_spec (ws := wA yX7_here cX7_here 1 (some .int)) B.pre
  have hts : ∀ w ∈ AW, w.before _ s = true := fun w h => hts0 w (List.mem_cons_of_mem _ h)
  have hown : s.vm.findClass RX7 = some m.cls := findClass_of_methodNamed B.named
  have hlocks := B.notSynchronized
  have hA : ∀ q, (inM o) q → (inM o) q := fun _ h => h
  have hS : va_S (inM o) s.heap s.heap [] := va_S.rf
  have hG : Md D o P S V T F h s.heap := hG
  have hl := lv_entry ([.ref o]) (n := 1) (Nat.le_of_ble_eq_true rfl)
  refine W.eq (g2 := entryFrame m ([.ref o] : List Value).toArray 1) (by rw [hav]) ?_
  rw [lg_entry_eq]
  generalize (lg_sl ([.ref o]) ++ List.replicate (1 - (lg_sl ([.ref o])).length) Slot.unset).toArray = ls at hl ⊢
  have hl : lv_has ls 1 [(0, .ref o)] := hl
  have hX2 := hX.1.2
  have hX3 := hX.2.2
  refine lv_aload_n hx hb dX7_here_0 rfl (lv_at hl 0 rfl) ?_
  refine getM 7 hx hb hts hown hK hG (by decide) qF_X7_127 rfl dX7_here_1 ?_
  refine topN (n := (ta F)) hX.2.1 ?_
  refine lv_aload_n hx hb dX7_here_4 rfl (lv_at hl 0 rfl) ?_
  refine getM 5 hx hb hts hown hK hG (by decide) qF_X7_124 rfl dX7_here_5 ?_
  refine topN (n := (tl F)) hX.1.1 ?_
  refine lv_icmp_ge (tgt := 23) hx hb dX7_here_8 (by decide) (fun c8 => ?_) (fun c8 => ?_)
  · have c8 : (tl F) ≤ (ta F) := (nI_leI (a := (tl F)) (b := (ta F)) (by omega) (by omega)).mp c8
    refine lv_iconst (v := (-1)) hx hb dX7_here_23 (by decide) ?_
    have hG9 := hG
    exact W.iret hx hb hr (fun t ht hW => gQi_of (by unfold fR_X7_here; (try dsimp only); (try rw [if_pos c8]); (try rfl)) hG9 hS ht) hS.2.2 dX7_here_24
  · have c8 : ¬ (tl F) ≤ (ta F) := fun h => c8 ((nI_leI (a := (tl F)) (b := (ta F)) (by omega) (by omega)).mpr h)
    refine lv_aload_n hx hb dX7_here_11 rfl (lv_at hl 0 rfl) ?_
    refine getMt hx hb hts hown hK hG qF_X7_19 dX7_here_12 ?_
    refine lv_aload_n hx hb dX7_here_15 rfl (lv_at hl 0 rfl) ?_
    refine getM 7 hx hb hts hown hK hG (by decide) qF_X7_127 rfl dX7_here_16 ?_
    refine topN (n := (ta F)) hX.2.1 ?_
    refine aldMt (k := (ta F)) hx hb hK hG (by omega) dX7_here_19 ?_
    refine lv_goto (tgt := 24) hx hb dX7_here_20 (by decide) ?_
    have hG9 := hG
    exact W.iret hx hb hr (fun t ht hW => gQi_of (by unfold fR_X7_here; (try dsimp only); (try rw [if_neg c8]); (try rfl)) hG9 hS ht) hS.2.2 dX7_here_24
theorem hdv_X7_isDigit : yX7_isDigit.cls = RX7 ∧ yX7_isDigit.cls ≠ "java/lang/invoke/MethodHandle" ∧ yX7_isDigit.cls ≠ "java/lang/invoke/VarHandle" ∧ (parseMethodDescriptor yX7_isDigit.desc).map (fun d => d.parameters.length) = some 0 := by decide +kernel
def fR_X7_isDigit (T : Nat → Int32) (F : Nat → Int32) : Int32 :=
  fR_X7_in (fR_X7_here T F) 48 57
set_option maxHeartbeats 4000000 in
set_option maxRecDepth 100000 in
theorem c_X7_isDigit (l : Launch) (D : va_G) (o : Nat) (P S V T F : Nat → Int32) (h : Int64) (hX : okX F) : Met l yX7_isDigit (wA yX7_isDigit cX7_isDigit 1 (some .boolean)) (rmL 1) (gPc D [.ref o] (fun H => Md D o P S V T F h H)) (gQi (inM o) (fR_X7_isDigit T F) (fun H => Md D o P S V T F h H)) 0 0 (inM o) := by
  refine Met.ofW (cc := cX7_isDigit) (maxL := 1) (ret := (some .boolean)) (by decide) rfl ?_
  intro p e s m args below meth c s₁ B hml hv
  obtain ⟨hav, hG, hK⟩ := hv
  have hx := B.exec
  have hb := B.bytes
  have hr := B.returns
  have hts0 := atoms_spec (ws := wA yX7_isDigit cX7_isDigit 1 (some .boolean)) B.pre
  have hts : ∀ w ∈ AW, w.before _ s = true := fun w h => hts0 w (List.mem_cons_of_mem _ h)
  have hown : s.vm.findClass RX7 = some m.cls := findClass_of_methodNamed B.named
  have hlocks := B.notSynchronized
  have hA : ∀ q, (inM o) q → (inM o) q := fun _ h => h
  have hS : va_S (inM o) s.heap s.heap [] := va_S.rf
  have hG : Md D o P S V T F h s.heap := hG
  have hl := lv_entry ([.ref o]) (n := 1) (Nat.le_of_ble_eq_true rfl)
  refine W.eq (g2 := entryFrame m ([.ref o] : List Value).toArray 1) (by rw [hav]) ?_
  rw [lg_entry_eq]
  generalize (lg_sl ([.ref o]) ++ List.replicate (1 - (lg_sl ([.ref o])).length) Slot.unset).toArray = ls at hl ⊢
  have hl : lv_has ls 1 [(0, .ref o)] := hl
  refine lv_aload_n hx hb dX7_isDigit_0 rfl (lv_at hl 0 rfl) ?_
  refine gcVi (As := []) (rest := []) hx hb hml hown hts hl.1 hK (c_X7_here l D o P S V T F h (by first | assumption | omega)) (gaV qM_X7_130 qI_X7_here qS_X7_here qK_X7 qC_X7_here) hdv_X7_here ⟨Nat.le_of_ble_eq_true rfl, Nat.le_of_ble_eq_true rfl⟩ hG (hG.recv hK) rfl (Nat.le_of_ble_eq_true rfl) ⟨Nat.zero_le _, Nat.zero_le _⟩ dX7_isDigit_1 hS hA (fun H locs hG _ _ hS => ?_)
  have hG : Md D o P S V T F h H := hG
  refine lv_bipush (v := 48) hx hb dX7_isDigit_4 (by decide) ?_
  refine lv_bipush (v := 57) hx hb dX7_isDigit_6 (by decide) ?_
  refine gcSi (As := [.int (fR_X7_here T F), .int 48, .int 57]) (rest := []) hx hb hml hown hts hl.1 hK (c_X7_in l D (fun H => Md D o P S V T F h H) (fR_X7_here T F) 48 57) (gaS qM_X7_37 qT_X7_in qK_X7 qC_X7_in) hds_X7_in ⟨Nat.le_of_ble_eq_true rfl, Nat.le_of_ble_eq_true rfl⟩ hG rfl (Nat.le_of_ble_eq_true rfl) ⟨Nat.zero_le _, Nat.zero_le _⟩ dX7_isDigit_8 hS (fun _ (h : noA _) => False.elim h) (fun H locs hG _ _ hS => ?_)
  have hG : Md D o P S V T F h H := hG
  have hG9 := hG
  exact W.zret hx hb hr (by first | rfl | exact nb_of in_b) (fun t ht hW => gQi_of (by unfold fR_X7_isDigit; (try dsimp only); (try rfl)) hG9 hS ht) hS.2.2 dX7_isDigit_11
theorem hdv_X7_takes : yX7_takes.cls = RX7 ∧ yX7_takes.cls ≠ "java/lang/invoke/MethodHandle" ∧ yX7_takes.cls ≠ "java/lang/invoke/VarHandle" ∧ (parseMethodDescriptor yX7_takes.desc).map (fun d => d.parameters.length) = some 1 := by decide +kernel
def fF_X7_takes (T : Nat → Int32) (F : Nat → Int32) (cc0 : Int32) : Nat → Int32 :=
  if fR_X7_here T F = cc0 then
    let F2 := upd F 7 (nI ((ta F) + 1))
    F2
  else
    let F1 := upd F 7 (nI ((ta F) + 0))
    F1
def fR_X7_takes (T : Nat → Int32) (F : Nat → Int32) (cc0 : Int32) : Int32 :=
  if fR_X7_here T F = cc0 then
    1
  else
    0
set_option maxHeartbeats 4000000 in
set_option maxRecDepth 100000 in
theorem c_X7_takes (l : Launch) (D : va_G) (o : Nat) (P S V T F : Nat → Int32) (h : Int64) (cc0 : Int32) (hX : okX F) : Met l yX7_takes (wA yX7_takes cX7_takes 3 (some .boolean)) (rmL 1) (gPc D [.ref o, .int cc0] (fun H => Md D o P S V T F h H)) (gQi (inM o) (fR_X7_takes T F cc0) (fun H => Md D o P S V T (fF_X7_takes T F cc0) h H)) 0 0 (inM o) := by
  refine Met.ofW (cc := cX7_takes) (maxL := 3) (ret := (some .boolean)) (by decide) rfl ?_
  intro p e s m args below meth c s₁ B hml hv
  obtain ⟨hav, hG, hK⟩ := hv
  have hx := B.exec
  have hb := B.bytes
  have hr := B.returns
  have hts0 := atoms_spec (ws := wA yX7_takes cX7_takes 3 (some .boolean)) B.pre
  have hts : ∀ w ∈ AW, w.before _ s = true := fun w h => hts0 w (List.mem_cons_of_mem _ h)
  have hown : s.vm.findClass RX7 = some m.cls := findClass_of_methodNamed B.named
  have hlocks := B.notSynchronized
  have hA : ∀ q, (inM o) q → (inM o) q := fun _ h => h
  have hS : va_S (inM o) s.heap s.heap [] := va_S.rf
  have hG : Md D o P S V T F h s.heap := hG
  have hl := lv_entry ([.ref o, .int cc0]) (n := 3) (Nat.le_of_ble_eq_true rfl)
  refine W.eq (g2 := entryFrame m ([.ref o, .int cc0] : List Value).toArray 3) (by rw [hav]) ?_
  rw [lg_entry_eq]
  generalize (lg_sl ([.ref o, .int cc0]) ++ List.replicate (3 - (lg_sl ([.ref o, .int cc0])).length) Slot.unset).toArray = ls at hl ⊢
  have hl : lv_has ls 3 [(0, .ref o), (1, .int cc0)] := hl
  have hX2 := hX.1.2
  have hX3 := hX.2.2
  refine lv_aload_n hx hb dX7_takes_0 rfl (lv_at hl 0 rfl) ?_
  refine gcVi (As := []) (rest := []) hx hb hml hown hts hl.1 hK (c_X7_here l D o P S V T F h (by first | assumption | omega)) (gaV qM_X7_130 qI_X7_here qS_X7_here qK_X7 qC_X7_here) hdv_X7_here ⟨Nat.le_of_ble_eq_true rfl, Nat.le_of_ble_eq_true rfl⟩ hG (hG.recv hK) rfl (Nat.le_of_ble_eq_true rfl) ⟨Nat.zero_le _, Nat.zero_le _⟩ dX7_takes_1 hS hA (fun H locs hG _ _ hS => ?_)
  have hG : Md D o P S V T F h H := hG
  refine lv_iload_n hx hb dX7_takes_4 rfl (lv_at hl 1 rfl) ?_
  refine lv_icmp_ne (tgt := 12) hx hb dX7_takes_5 (by decide) (fun c5 => ?_) (fun c5 => ?_)
  · refine lv_iconst (v := 0) hx hb dX7_takes_12 (by decide) ?_
    refine lv_istore_n (lv' := [(2, .int 0), (0, .ref o), (1, .int cc0)]) hx hb dX7_takes_13 rfl hl (by decide) rfl (fun ls hl => ?_)
    refine lv_aload_n hx hb dX7_takes_14 rfl (lv_at hl 1 rfl) ?_
    refine lv_dup hx hb dX7_takes_15 rfl ?_
    refine getM 7 hx hb hts hown hK hG (by decide) qF_X7_127 rfl dX7_takes_16 ?_
    refine topN (n := (ta F)) hX.2.1 ?_
    refine lv_iload_n hx hb dX7_takes_19 rfl (lv_at hl 0 rfl) ?_
    refine lv_if_eq (tgt := 27) hx hb dX7_takes_20 (by decide) (fun c20 => ?_) (fun c20 => ?_)
    · refine lv_iconst (v := 0) hx hb dX7_takes_27 (by decide) ?_
      refine iaddN (a := (ta F)) (b := 0) hx hb dX7_takes_28 ?_
      refine putM 7 hx hb hts hown hK hG hS hA (by decide) qF_X7_127 rfl dX7_takes_29 (fun H locs hG hS => ?_)
      generalize eF1 : upd F 7 (nI ((ta F) + 0)) = F1 at hG
      refine lv_iload_n hx hb dX7_takes_32 rfl (lv_at hl 0 rfl) ?_
      subst eF1
      have hG9 : Md D o P S V T (fF_X7_takes T F cc0) h H := by
        unfold fF_X7_takes; (try dsimp only); (try rw [if_neg c5])
        exact hG
      exact W.zret hx hb hr (by first | rfl | exact nb_of in_b) (fun t ht hW => gQi_of (by unfold fR_X7_takes; (try dsimp only); (try rw [if_neg c5]); (try rfl)) hG9 hS ht) hS.2.2 dX7_takes_33
    · exact absurd c20 (by decide)
  · refine lv_iconst (v := 1) hx hb dX7_takes_8 (by decide) ?_
    refine lv_goto (tgt := 13) hx hb dX7_takes_9 (by decide) ?_
    refine lv_istore_n (lv' := [(2, .int 1), (0, .ref o), (1, .int cc0)]) hx hb dX7_takes_13 rfl hl (by decide) rfl (fun ls hl => ?_)
    refine lv_aload_n hx hb dX7_takes_14 rfl (lv_at hl 1 rfl) ?_
    refine lv_dup hx hb dX7_takes_15 rfl ?_
    refine getM 7 hx hb hts hown hK hG (by decide) qF_X7_127 rfl dX7_takes_16 ?_
    refine topN (n := (ta F)) hX.2.1 ?_
    refine lv_iload_n hx hb dX7_takes_19 rfl (lv_at hl 0 rfl) ?_
    refine lv_if_eq (tgt := 27) hx hb dX7_takes_20 (by decide) (fun c20 => ?_) (fun c20 => ?_)
    · exact absurd c20 (by decide)
    · refine lv_iconst (v := 1) hx hb dX7_takes_23 (by decide) ?_
      refine lv_goto (tgt := 28) hx hb dX7_takes_24 (by decide) ?_
      refine iaddN (a := (ta F)) (b := 1) hx hb dX7_takes_28 ?_
      refine putM 7 hx hb hts hown hK hG hS hA (by decide) qF_X7_127 rfl dX7_takes_29 (fun H locs hG hS => ?_)
      generalize eF2 : upd F 7 (nI ((ta F) + 1)) = F2 at hG
      refine lv_iload_n hx hb dX7_takes_32 rfl (lv_at hl 0 rfl) ?_
      subst eF2
      have hG9 : Md D o P S V T (fF_X7_takes T F cc0) h H := by
        unfold fF_X7_takes; (try dsimp only); (try rw [if_pos c5])
        exact hG
      exact W.zret hx hb hr (by first | rfl | exact nb_of in_b) (fun t ht hW => gQi_of (by unfold fR_X7_takes; (try dsimp only); (try rw [if_pos c5]); (try rfl)) hG9 hS ht) hS.2.2 dX7_takes_33
theorem hdv_X7_undo : yX7_undo.cls = RX7 ∧ yX7_undo.cls ≠ "java/lang/invoke/MethodHandle" ∧ yX7_undo.cls ≠ "java/lang/invoke/VarHandle" ∧ (parseMethodDescriptor yX7_undo.desc).map (fun d => d.parameters.length) = some 0 := by decide +kernel
def fP_X7_undo (P : Nat → Int32) (V : Nat → Int32) (F : Nat → Int32) : Nat → Int32 :=
  if (sc F) = 0 then
    P
  else
    let P3 := fP_X7_bring_vm P V (241 * ((sc F) - 1)) 0
    P3
def fF_X7_undo (P : Nat → Int32) (V : Nat → Int32) (F : Nat → Int32) : Nat → Int32 :=
  if (sc F) = 0 then
    let F4 := upd F 6 1
    F4
  else
    let F1 := upd F 6 0
    let F2 := upd F1 3 (nI ((sc F) - 1))
    F2
def fR_X7_undo (P : Nat → Int32) (V : Nat → Int32) (F : Nat → Int32) : Int32 :=
  if (sc F) = 0 then
    0
  else
    nI ((sc F) - 1)
set_option maxHeartbeats 4000000 in
set_option maxRecDepth 100000 in
theorem c_X7_undo (l : Launch) (D : va_G) (o : Nat) (P S V T F : Nat → Int32) (h : Int64) (hc : okC F) : Met l yX7_undo (wA yX7_undo cX7_undo 1 (some .int)) (rmL 1) (gPc D [.ref o] (fun H => Md D o P S V T F h H)) (gQi (inM o) (fR_X7_undo P V F) (fun H => Md D o (fP_X7_undo P V F) S V T (fF_X7_undo P V F) h H)) 0 0 (inM o) := by
  refine Met.ofW (cc := cX7_undo) (maxL := 1) (ret := (some .int)) (by decide) rfl ?_
  intro p e s m args below meth c s₁ B hml hv
  obtain ⟨hav, hG, hK⟩ := hv
  have hx := B.exec
  have hb := B.bytes
  have hr := B.returns
  have hts0 := atoms_spec (ws := wA yX7_undo cX7_undo 1 (some .int)) B.pre
  have hts : ∀ w ∈ AW, w.before _ s = true := fun w h => hts0 w (List.mem_cons_of_mem _ h)
  have hown : s.vm.findClass RX7 = some m.cls := findClass_of_methodNamed B.named
  have hlocks := B.notSynchronized
  have hA : ∀ q, (inM o) q → (inM o) q := fun _ h => h
  have hS : va_S (inM o) s.heap s.heap [] := va_S.rf
  have hG : Md D o P S V T F h s.heap := hG
  have hl := lv_entry ([.ref o]) (n := 1) (Nat.le_of_ble_eq_true rfl)
  refine W.eq (g2 := entryFrame m ([.ref o] : List Value).toArray 1) (by rw [hav]) ?_
  rw [lg_entry_eq]
  generalize (lg_sl ([.ref o]) ++ List.replicate (1 - (lg_sl ([.ref o])).length) Slot.unset).toArray = ls at hl ⊢
  have hl : lv_has ls 1 [(0, .ref o)] := hl
  have hc4 := hc.2
  refine lv_aload_n hx hb dX7_undo_0 rfl (lv_at hl 0 rfl) ?_
  refine lv_aload_n hx hb dX7_undo_1 rfl (lv_at hl 0 rfl) ?_
  refine getM 3 hx hb hts hown hK hG (by decide) qF_X7_30 rfl dX7_undo_2 ?_
  refine topN (n := (sc F)) hc.1 ?_
  refine lv_if_ne (tgt := 12) hx hb dX7_undo_5 (by decide) (fun c5 => ?_) (fun c5 => ?_)
  · have c5 : ¬ (sc F) = 0 := fun h => c5 ((nI_eq (a := (sc F)) (b := 0) (by omega) (by omega)).mpr h)
    refine lv_iconst (v := 0) hx hb dX7_undo_12 (by decide) ?_
    refine putM 6 hx hb hts hown hK hG hS hA (by decide) qF_X7_26 rfl dX7_undo_13 (fun H locs hG hS => ?_)
    generalize eF1 : upd F 6 0 = F1 at hG
    refine lv_aload_n hx hb dX7_undo_16 rfl (lv_at hl 0 rfl) ?_
    refine getM 6 hx hb hts hown hK hG (by decide) qF_X7_26 rfl dX7_undo_17 ?_
    refine topE (y := 0) (by rw [← eF1, upd_s]) ?_
    refine lv_if_eq (tgt := 25) hx hb dX7_undo_20 (by decide) (fun c20 => ?_) (fun c20 => ?_)
    · refine lv_aload_n hx hb dX7_undo_25 rfl (lv_at hl 0 rfl) ?_
      refine lv_dup hx hb dX7_undo_26 rfl ?_
      refine getM 3 hx hb hts hown hK hG (by decide) qF_X7_30 rfl dX7_undo_27 ?_
      refine topN (n := (sc F)) (by subst_vars; rw [upd_n (by decide)]; exact hc.1) ?_
      refine lv_iconst (v := 1) hx hb dX7_undo_30 (by decide) ?_
      refine isubN (a := (sc F)) (b := 1) (by omega) hx hb dX7_undo_31 ?_
      refine putM 3 hx hb hts hown hK hG hS hA (by decide) qF_X7_30 rfl dX7_undo_32 (fun H locs hG hS => ?_)
      generalize eF2 : upd F1 3 (nI ((sc F) - 1)) = F2 at hG
      refine lv_aload_n hx hb dX7_undo_35 rfl (lv_at hl 0 rfl) ?_
      refine getMv hx hb hts hown hK hG qF_X7_16 dX7_undo_36 ?_
      refine lv_sipush (v := 241) hx hb dX7_undo_39 (by decide) ?_
      refine lv_aload_n hx hb dX7_undo_42 rfl (lv_at hl 0 rfl) ?_
      refine getM 3 hx hb hts hown hK hG (by decide) qF_X7_30 rfl dX7_undo_43 ?_
      refine topE (y := nI ((sc F) - 1)) (by rw [← eF2, upd_s]) ?_
      refine imulN (a := 241) (b := (sc F) - 1) hx hb dX7_undo_46 ?_
      refine lv_aload_n hx hb dX7_undo_47 rfl (lv_at hl 0 rfl) ?_
      refine getMm hx hb hts hown hK hG qF_X7_7 dX7_undo_48 ?_
      refine lv_iconst (v := 0) hx hb dX7_undo_51 (by decide) ?_
      refine gcSv (As := [.ref (o + 3), .int (nI (241 * ((sc F) - 1))), .ref (o + 1), .int 0]) (rest := []) hx hb hml hown hts hl.1 hK (c_X7_bring_vm l D o P S V T F2 h (241 * ((sc F) - 1)) 0 (by first | assumption | omega) (by first | assumption | omega)) (gaS qM_X7_33 qT_X7_bring qK_X7 qC_X7_bring) hds_X7_bring_vm ⟨Nat.le_of_ble_eq_true rfl, Nat.le_of_ble_eq_true rfl⟩ hG rfl (Nat.le_of_ble_eq_true rfl) ⟨Nat.zero_le _, Nat.zero_le _⟩ dX7_undo_52 hS hA (fun H locs hG _ _ hS => ?_)
      have hG : Md D o (fP_X7_bring_vm P V (241 * ((sc F) - 1)) 0) S V T F2 h H := hG
      generalize eP3 : fP_X7_bring_vm P V (241 * ((sc F) - 1)) 0 = P3 at hG
      refine lv_aload_n hx hb dX7_undo_55 rfl (lv_at hl 0 rfl) ?_
      refine getM 3 hx hb hts hown hK hG (by decide) qF_X7_30 rfl dX7_undo_56 ?_
      refine topE (y := nI ((sc F) - 1)) (by rw [← eF2, upd_s]) ?_
      subst eP3
      subst eF2
      subst eF1
      have hG9 : Md D o (fP_X7_undo P V F) S V T (fF_X7_undo P V F) h H := by
        unfold fP_X7_undo; (try dsimp only); (try rw [if_neg c5])
        unfold fF_X7_undo; (try dsimp only); (try rw [if_neg c5])
        exact hG
      exact W.iret hx hb hr (fun t ht hW => gQi_of (by unfold fR_X7_undo; (try dsimp only); (try rw [if_neg c5]); (try rfl)) hG9 hS ht) hS.2.2 dX7_undo_59
    · exact absurd c20 (by decide)
  · have c5 : (sc F) = 0 := (nI_eq (a := (sc F)) (b := 0) (by omega) (by omega)).mp c5
    refine lv_iconst (v := 1) hx hb dX7_undo_8 (by decide) ?_
    refine lv_goto (tgt := 13) hx hb dX7_undo_9 (by decide) ?_
    refine putM 6 hx hb hts hown hK hG hS hA (by decide) qF_X7_26 rfl dX7_undo_13 (fun H locs hG hS => ?_)
    generalize eF4 : upd F 6 1 = F4 at hG
    refine lv_aload_n hx hb dX7_undo_16 rfl (lv_at hl 0 rfl) ?_
    refine getM 6 hx hb hts hown hK hG (by decide) qF_X7_26 rfl dX7_undo_17 ?_
    refine topE (y := 1) (by rw [← eF4, upd_s]) ?_
    refine lv_if_eq (tgt := 25) hx hb dX7_undo_20 (by decide) (fun c20 => ?_) (fun c20 => ?_)
    · exact absurd c20 (by decide)
    · refine lv_iconst (v := 0) hx hb dX7_undo_23 (by decide) ?_
      subst eF4
      have hG9 : Md D o (fP_X7_undo P V F) S V T (fF_X7_undo P V F) h H := by
        unfold fP_X7_undo; (try dsimp only); (try rw [if_pos c5])
        unfold fF_X7_undo; (try dsimp only); (try rw [if_pos c5])
        exact hG
      exact W.iret hx hb hr (fun t ht hW => gQi_of (by unfold fR_X7_undo; (try dsimp only); (try rw [if_pos c5]); (try rfl)) hG9 hS ht) hS.2.2 dX7_undo_24
theorem hdv_X7_mix : yX7_mix.cls = RX7 ∧ yX7_mix.cls ≠ "java/lang/invoke/MethodHandle" ∧ yX7_mix.cls ≠ "java/lang/invoke/VarHandle" ∧ (parseMethodDescriptor yX7_mix.desc).map (fun d => d.parameters.length) = some 1 := by decide +kernel
def fh_X7_mix (h : Int64) (v : Int64) : Int64 :=
  let y1 := (31 * h) + v
  let h2 := y1
  h2
set_option maxHeartbeats 4000000 in
set_option maxRecDepth 100000 in
theorem c_X7_mix (l : Launch) (D : va_G) (o : Nat) (P S V T F : Nat → Int32) (h : Int64) (v : Int64) : Met l yX7_mix (wA yX7_mix cX7_mix 3 none) (rmL 0) (gPc D [.ref o, .long v] (fun H => Md D o P S V T F h H)) (gQv (inM o) (fun H => Md D o P S V T F (fh_X7_mix h v) H)) 0 0 (inM o) := by
  refine Met.ofW (cc := cX7_mix) (maxL := 3) (ret := none) (by decide) rfl ?_
  intro p e s m args below meth c s₁ B hml hv
  obtain ⟨hav, hG, hK⟩ := hv
  have hx := B.exec
  have hb := B.bytes
  have hr := B.returns
  have hts0 := atoms_spec (ws := wA yX7_mix cX7_mix 3 none) B.pre
  have hts : ∀ w ∈ AW, w.before _ s = true := fun w h => hts0 w (List.mem_cons_of_mem _ h)
  have hown : s.vm.findClass RX7 = some m.cls := findClass_of_methodNamed B.named
  have hlocks := B.notSynchronized
  have hA : ∀ q, (inM o) q → (inM o) q := fun _ h => h
  have hS : va_S (inM o) s.heap s.heap [] := va_S.rf
  have hG : Md D o P S V T F h s.heap := hG
  have hl := lv_entry ([.ref o, .long v]) (n := 3) (Nat.le_of_ble_eq_true rfl)
  refine W.eq (g2 := entryFrame m ([.ref o, .long v] : List Value).toArray 3) (by rw [hav]) ?_
  rw [lg_entry_eq]
  generalize (lg_sl ([.ref o, .long v]) ++ List.replicate (3 - (lg_sl ([.ref o, .long v])).length) Slot.unset).toArray = ls at hl ⊢
  have hl : lv_has ls 3 [(0, .ref o), (1, .long v)] := hl
  refine lv_aload_n hx hb dX7_mix_0 rfl (lv_at hl 0 rfl) ?_
  refine lv_ldc2 hx hb hown (hts _ qV_X7_161) dX7_mix_1 ?_
  refine lv_aload_n hx hb dX7_mix_4 rfl (lv_at hl 0 rfl) ?_
  refine getMh hx hb hts hown hK hG qF_X7_163 dX7_mix_5 ?_
  refine lv_lmul hx hb dX7_mix_8 ?_
  refine lv_lload_n hx hb dX7_mix_9 rfl (lv_at hl 1 rfl) ?_
  refine lv_ladd hx hb dX7_mix_10 ?_
  refine lv_topl (fun y1 ey1 => ?_)
  refine putMh hx hb hts hown hK hG hS hA qF_X7_163 dX7_mix_11 (fun H locs hG hS => ?_)
  generalize eh2 : y1 = h2 at hG
  subst eh2
  subst ey1
  have hG9 : Md D o P S V T F (fh_X7_mix h v) H := by
    unfold fh_X7_mix; (try dsimp only)
    exact hG
  exact W.vret hx hb hr (fun t ht hW => gQv_of hG9 hS ht) hS.2.2 dX7_mix_14
