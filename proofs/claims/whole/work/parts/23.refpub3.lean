theorem hdv_X7_due : yX7_due.cls = RX7 ∧ yX7_due.cls ≠ "java/lang/invoke/MethodHandle" ∧ yX7_due.cls ≠ "java/lang/invoke/VarHandle" ∧ (parseMethodDescriptor yX7_due.desc).map (fun d => d.parameters.length) = some 0 := by decide +kernel
def fR_X7_due_L4 (P : Nat → Int32) : Nat → Int32 → Nat → Int32
  | 0, acc, j =>
    acc
  | k + 1, acc, j =>
    if fR_X7_isDue P j = 0 then
      let x1 := acc + 0
      fR_X7_due_L4 P k x1 (j + 1)
    else
      let x2 := acc + 1
      fR_X7_due_L4 P k x2 (j + 1)
def fR_X7_due (P : Nat → Int32) : Int32 :=
  fR_X7_due_L4 P (ns P) 0 0
set_option maxHeartbeats 4000000 in
set_option maxRecDepth 100000 in
theorem c_X7_due (l : Launch) (D : va_G) (o : Nat) (P S V T F : Nat → Int32) (h : Int64) (hw : WF P) : Met l yX7_due (wA yX7_due cX7_due 3 (some .int)) (rmL 3) (gPc D [.ref o] (fun H => Md D o P S V T F h H)) (gQi (inM o) (fR_X7_due P) (fun H => Md D o P S V T F h H)) 0 0 (inM o) := by
  refine Met.ofW (cc := cX7_due) (maxL := 3) (ret := (some .int)) (by decide) rfl ?_
  intro p e s m args below meth c s₁ B hml hv
  obtain ⟨hav, hG, hK⟩ := hv
  have hx := B.exec
  have hb := B.bytes
  have hr := B.returns
  have hts0 := atoms_spec (ws := wA yX7_due cX7_due 3 (some .int)) B.pre
  have hts : ∀ w ∈ AW, w.before _ s = true := fun w h => hts0 w (List.mem_cons_of_mem _ h)
  have hown : s.vm.findClass RX7 = some m.cls := findClass_of_methodNamed B.named
  have hlocks := B.notSynchronized
  have hA : ∀ q, (inM o) q → (inM o) q := fun _ h => h
  have hS : va_S (inM o) s.heap s.heap [] := va_S.rf
  have hG : Md D o P S V T F h s.heap := hG
  have hl := lv_entry ([.ref o]) (n := 3) (Nat.le_of_ble_eq_true rfl)
  refine W.eq (g2 := entryFrame m ([.ref o] : List Value).toArray 3) (by rw [hav]) ?_
  rw [lg_entry_eq]
  generalize (lg_sl ([.ref o]) ++ List.replicate (3 - (lg_sl ([.ref o])).length) Slot.unset).toArray = ls at hl ⊢
  have hl : lv_has ls 3 [(0, .ref o)] := hl
  have hn20 := hw.1.2.1
  have L4 : ∀ (k : Nat) (acc : Int32) (j : Nat) (H : Heap) (locs : List Loc) (ls : Array Slot) (hik : j + k = ns P) (hfR : fR_X7_due P = fR_X7_due_L4 P k acc j) (hG : Md D o P S V T F h H) (hS : va_S (inM o) s.heap H locs) (hl : lv_has ls 3 [(0, .ref o), (1, .int acc), (2, .int (nI j))]), W p l e (headSpec (wA yX7_due cX7_due 3 (some .int)) (rmL 3)).room s m args below meth c H locs 0 0 (MQ below (gQi (inM o) (fR_X7_due P) (fun H => Md D o P S V T F h H)) args s 0 0 (inM o)) (F0 m 4 ls []) := by
    intro k
    induction k with
    | zero =>
      intro acc j H locs ls hik hfR hG hS hl
      refine lv_iload_n hx hb dX7_due_4 rfl (lv_at hl 2 rfl) ?_
      refine lv_aload_n hx hb dX7_due_5 rfl (lv_at hl 0 rfl) ?_
      refine getMm hx hb hts hown hK hG qF_X7_7 dX7_due_6 ?_
      refine lv_iconst (v := 1) hx hb dX7_due_9 (by decide) ?_
      refine aldMm (k := 1) hx hb hK hG (by omega) dX7_due_10 ?_
      refine topN (n := (ns P)) hw.1.1 ?_
      refine lv_icmp_ge (tgt := 36) hx hb dX7_due_11 (by decide) (fun c11 => ?_) (fun c11 => ?_)
      · have c11 : (ns P) ≤ j := (nI_leI (a := (ns P)) (b := j) (by omega) (by omega)).mp c11
        refine lv_iload_n hx hb dX7_due_36 rfl (lv_at hl 1 rfl) ?_
        have hG9 := hG
        exact W.iret hx hb hr (fun t ht hW => gQi_of (by rw [hfR, fR_X7_due_L4]; (try dsimp only); (try rfl)) hG9 hS ht) hS.2.2 dX7_due_37
      · have c11 : ¬ (ns P) ≤ j := fun h => c11 ((nI_leI (a := (ns P)) (b := j) (by omega) (by omega)).mpr h)
        exfalso; omega
    | succ k ih =>
      intro acc j H locs ls hik hfR hG hS hl
      refine lv_iload_n hx hb dX7_due_4 rfl (lv_at hl 2 rfl) ?_
      refine lv_aload_n hx hb dX7_due_5 rfl (lv_at hl 0 rfl) ?_
      refine getMm hx hb hts hown hK hG qF_X7_7 dX7_due_6 ?_
      refine lv_iconst (v := 1) hx hb dX7_due_9 (by decide) ?_
      refine aldMm (k := 1) hx hb hK hG (by omega) dX7_due_10 ?_
      refine topN (n := (ns P)) hw.1.1 ?_
      refine lv_icmp_ge (tgt := 36) hx hb dX7_due_11 (by decide) (fun c11 => ?_) (fun c11 => ?_)
      · have c11 : (ns P) ≤ j := (nI_leI (a := (ns P)) (b := j) (by omega) (by omega)).mp c11
        exfalso; omega
      · have c11 : ¬ (ns P) ≤ j := fun h => c11 ((nI_leI (a := (ns P)) (b := j) (by omega) (by omega)).mpr h)
        refine lv_iload_n hx hb dX7_due_14 rfl (lv_at hl 1 rfl) ?_
        refine lv_aload_n hx hb dX7_due_15 rfl (lv_at hl 0 rfl) ?_
        refine lv_iload_n hx hb dX7_due_16 rfl (lv_at hl 2 rfl) ?_
        refine gcVi (As := [.int (nI j)]) (rest := [.int acc]) hx hb hml hown hts hl.1 hK (c_X7_isDue l D o P S V T F h j (by first | assumption | omega) (hw.2.1 _ (by omega))) (gaV qM_X7_75 qI_X7_isDue qS_X7_isDue qK_X7 qC_X7_isDue) hdv_X7_isDue ⟨Nat.le_of_ble_eq_true rfl, Nat.le_of_ble_eq_true rfl⟩ hG (hG.recv hK) rfl (Nat.le_of_ble_eq_true rfl) ⟨Nat.zero_le _, Nat.zero_le _⟩ dX7_due_17 hS hA (fun H locs hG _ _ hS => ?_)
        have hG : Md D o P S V T F h H := hG
        refine lv_if_eq (tgt := 27) hx hb dX7_due_20 (by decide) (fun c20 => ?_) (fun c20 => ?_)
        · refine lv_iconst (v := 0) hx hb dX7_due_27 (by decide) ?_
          refine lv_iadd hx hb dX7_due_28 ?_
          refine lv_topi (fun x1 ex1 => ?_)
          refine lv_istore_n (lv' := [(1, .int x1), (0, .ref o), (2, .int (nI j))]) hx hb dX7_due_29 rfl hl (by decide) rfl (fun ls hl => ?_)
          refine lv_iinc (v := nI (j + 1)) (lv' := [(2, .int (nI (j + 1))), (1, .int x1), (0, .ref o)]) hx hb dX7_due_30 hl (k := 2) rfl (nI_add j 1) (by decide) rfl (fun ls hl => ?_)
          refine lv_goto (tgt := 4) hx hb dX7_due_33 (by decide) ?_
          subst ex1
          exact ih _ (j + 1) _ _ _ (by first | assumption | omega) (by rw [hfR, fR_X7_due_L4]; (try dsimp only); (try rw [if_pos c20]); (try rfl)) hG hS (lv_sub hl [2, 1, 0] rfl)
        · refine lv_iconst (v := 1) hx hb dX7_due_23 (by decide) ?_
          refine lv_goto (tgt := 28) hx hb dX7_due_24 (by decide) ?_
          refine lv_iadd hx hb dX7_due_28 ?_
          refine lv_topi (fun x2 ex2 => ?_)
          refine lv_istore_n (lv' := [(1, .int x2), (0, .ref o), (2, .int (nI j))]) hx hb dX7_due_29 rfl hl (by decide) rfl (fun ls hl => ?_)
          refine lv_iinc (v := nI (j + 1)) (lv' := [(2, .int (nI (j + 1))), (1, .int x2), (0, .ref o)]) hx hb dX7_due_30 hl (k := 2) rfl (nI_add j 1) (by decide) rfl (fun ls hl => ?_)
          refine lv_goto (tgt := 4) hx hb dX7_due_33 (by decide) ?_
          subst ex2
          exact ih _ (j + 1) _ _ _ (by first | assumption | omega) (by rw [hfR, fR_X7_due_L4]; (try dsimp only); (try rw [if_neg c20]); (try rfl)) hG hS (lv_sub hl [2, 1, 0] rfl)
  refine lv_iconst (v := 0) hx hb dX7_due_0 (by decide) ?_
  refine lv_istore_n (lv' := [(1, .int 0), (0, .ref o)]) hx hb dX7_due_1 rfl hl (by decide) rfl (fun ls hl => ?_)
  refine lv_iconst (v := 0) hx hb dX7_due_2 (by decide) ?_
  refine lv_istore_n (lv' := [(2, .int 0), (1, .int 0), (0, .ref o)]) hx hb dX7_due_3 rfl hl (by decide) rfl (fun ls hl => ?_)
  exact L4 (ns P) _ 0 _ _ _ (by first | assumption | omega) (by unfold fR_X7_due; (try dsimp only); (try rfl)) hG hS (lv_sub hl [2, 1, 0] rfl)
theorem hdv_X7_valueOf : yX7_valueOf.cls = RX7 ∧ yX7_valueOf.cls ≠ "java/lang/invoke/MethodHandle" ∧ yX7_valueOf.cls ≠ "java/lang/invoke/VarHandle" ∧ (parseMethodDescriptor yX7_valueOf.desc).map (fun d => d.parameters.length) = some 1 := by decide +kernel
def fR_X7_valueOf (P : Nat → Int32) (w : Nat) : Int32 :=
  if 7 ≤ w then
    if w = 7 then
      fR_X7_due P
    else
      P (w - 1)
  else
    P w
set_option maxHeartbeats 4000000 in
set_option maxRecDepth 100000 in
theorem c_X7_valueOf (l : Launch) (D : va_G) (o : Nat) (P S V T F : Nat → Int32) (h : Int64) (w : Nat) (hw : WF P) (hw10 : w < 10) : Met l yX7_valueOf (wA yX7_valueOf cX7_valueOf 2 (some .int)) (rmL 4) (gPc D [.ref o, .int (nI w)] (fun H => Md D o P S V T F h H)) (gQi (inM o) (fR_X7_valueOf P w) (fun H => Md D o P S V T F h H)) 0 0 (inM o) := by
  refine Met.ofW (cc := cX7_valueOf) (maxL := 2) (ret := (some .int)) (by decide) rfl ?_
  intro p e s m args below meth c s₁ B hml hv
  obtain ⟨hav, hG, hK⟩ := hv
  have hx := B.exec
  have hb := B.bytes
  have hr := B.returns
  have hts0 := atoms_spec (ws := wA yX7_valueOf cX7_valueOf 2 (some .int)) B.pre
  have hts : ∀ w ∈ AW, w.before _ s = true := fun w h => hts0 w (List.mem_cons_of_mem _ h)
  have hown : s.vm.findClass RX7 = some m.cls := findClass_of_methodNamed B.named
  have hlocks := B.notSynchronized
  have hA : ∀ q, (inM o) q → (inM o) q := fun _ h => h
  have hS : va_S (inM o) s.heap s.heap [] := va_S.rf
  have hG : Md D o P S V T F h s.heap := hG
  have hl := lv_entry ([.ref o, .int (nI w)]) (n := 2) (Nat.le_of_ble_eq_true rfl)
  refine W.eq (g2 := entryFrame m ([.ref o, .int (nI w)] : List Value).toArray 2) (by rw [hav]) ?_
  rw [lg_entry_eq]
  generalize (lg_sl ([.ref o, .int (nI w)]) ++ List.replicate (2 - (lg_sl ([.ref o, .int (nI w)])).length) Slot.unset).toArray = ls at hl ⊢
  have hl : lv_has ls 2 [(0, .ref o), (1, .int (nI w))] := hl
  refine lv_iload_n hx hb dX7_valueOf_0 rfl (lv_at hl 1 rfl) ?_
  refine lv_bipush (v := 7) hx hb dX7_valueOf_1 (by decide) ?_
  refine lv_icmp_ge (tgt := 15) hx hb dX7_valueOf_3 (by decide) (fun c3 => ?_) (fun c3 => ?_)
  · have c3 : 7 ≤ w := (nI_leI (a := 7) (b := w) (by omega) (by omega)).mp c3
    refine lv_iload_n hx hb dX7_valueOf_15 rfl (lv_at hl 1 rfl) ?_
    refine lv_bipush (v := 7) hx hb dX7_valueOf_16 (by decide) ?_
    refine lv_icmp_ne (tgt := 28) hx hb dX7_valueOf_18 (by decide) (fun c18 => ?_) (fun c18 => ?_)
    · have c18 : ¬ w = 7 := fun h => c18 ((nI_eq (a := w) (b := 7) (by omega) (by omega)).mpr h)
      refine lv_aload_n hx hb dX7_valueOf_28 rfl (lv_at hl 0 rfl) ?_
      refine getMm hx hb hts hown hK hG qF_X7_7 dX7_valueOf_29 ?_
      refine lv_iload_n hx hb dX7_valueOf_32 rfl (lv_at hl 1 rfl) ?_
      refine lv_iconst (v := 1) hx hb dX7_valueOf_33 (by decide) ?_
      refine isubN (a := w) (b := 1) (by omega) hx hb dX7_valueOf_34 ?_
      refine aldMm (k := w - 1) hx hb hK hG (by omega) dX7_valueOf_35 ?_
      have hG9 := hG
      exact W.iret hx hb hr (fun t ht hW => gQi_of (by unfold fR_X7_valueOf; (try dsimp only); (try rw [if_pos c3, if_neg c18]); (try rfl)) hG9 hS ht) hS.2.2 dX7_valueOf_36
    · have c18 : w = 7 := (nI_eq (a := w) (b := 7) (by omega) (by omega)).mp c18
      refine lv_aload_n hx hb dX7_valueOf_21 rfl (lv_at hl 0 rfl) ?_
      refine gcVi (As := []) (rest := []) hx hb hml hown hts hl.1 hK (c_X7_due l D o P S V T F h hw) (gaV qM_X7_107 qI_X7_due qS_X7_due qK_X7 qC_X7_due) hdv_X7_due ⟨Nat.le_of_ble_eq_true rfl, Nat.le_of_ble_eq_true rfl⟩ hG (hG.recv hK) rfl (Nat.le_of_ble_eq_true rfl) ⟨Nat.zero_le _, Nat.zero_le _⟩ dX7_valueOf_22 hS hA (fun H locs hG _ _ hS => ?_)
      have hG : Md D o P S V T F h H := hG
      refine lv_goto (tgt := 36) hx hb dX7_valueOf_25 (by decide) ?_
      have hG9 := hG
      exact W.iret hx hb hr (fun t ht hW => gQi_of (by unfold fR_X7_valueOf; (try dsimp only); (try rw [if_pos c3, if_pos c18]); (try rfl)) hG9 hS ht) hS.2.2 dX7_valueOf_36
  · have c3 : ¬ 7 ≤ w := fun h => c3 ((nI_leI (a := 7) (b := w) (by omega) (by omega)).mpr h)
    refine lv_aload_n hx hb dX7_valueOf_6 rfl (lv_at hl 0 rfl) ?_
    refine getMm hx hb hts hown hK hG qF_X7_7 dX7_valueOf_7 ?_
    refine lv_iload_n hx hb dX7_valueOf_10 rfl (lv_at hl 1 rfl) ?_
    refine aldMm (k := w) hx hb hK hG (by omega) dX7_valueOf_11 ?_
    refine lv_goto (tgt := 36) hx hb dX7_valueOf_12 (by decide) ?_
    have hG9 := hG
    exact W.iret hx hb hr (fun t ht hW => gQi_of (by unfold fR_X7_valueOf; (try dsimp only); (try rw [if_neg c3]); (try rfl)) hG9 hS ht) hS.2.2 dX7_valueOf_36
theorem hdv_X7_value : yX7_value.cls = RX7 ∧ yX7_value.cls ≠ "java/lang/invoke/MethodHandle" ∧ yX7_value.cls ≠ "java/lang/invoke/VarHandle" ∧ (parseMethodDescriptor yX7_value.desc).map (fun d => d.parameters.length) = some 1 := by decide +kernel
def fF_X7_value (P : Nat → Int32) (F : Nat → Int32) (x : Int32) : Nat → Int32 :=
  if fR_X7_in x 0 9 = 0 then
    let F1 := upd F 6 1
    F1
  else
    let F2 := upd F 6 0
    F2
def fR_X7_value (P : Nat → Int32) (F : Nat → Int32) (x : Int32) : Int32 :=
  if fR_X7_in x 0 9 = 0 then
    0
  else
    fR_X7_valueOf P x.toNatClampNeg
set_option maxHeartbeats 4000000 in
set_option maxRecDepth 100000 in
theorem c_X7_value (l : Launch) (D : va_G) (o : Nat) (P S V T F : Nat → Int32) (h : Int64) (x : Int32) (hw : WF P) : Met l yX7_value (wA yX7_value cX7_value 2 (some .int)) (rmL 5) (gPc D [.ref o, .int x] (fun H => Md D o P S V T F h H)) (gQi (inM o) (fR_X7_value P F x) (fun H => Md D o P S V T (fF_X7_value P F x) h H)) 0 0 (inM o) := by
  refine Met.ofW (cc := cX7_value) (maxL := 2) (ret := (some .int)) (by decide) rfl ?_
  intro p e s m args below meth c s₁ B hml hv
  obtain ⟨hav, hG, hK⟩ := hv
  have hx := B.exec
  have hb := B.bytes
  have hr := B.returns
  have hts0 := atoms_spec (ws := wA yX7_value cX7_value 2 (some .int)) B.pre
  have hts : ∀ w ∈ AW, w.before _ s = true := fun w h => hts0 w (List.mem_cons_of_mem _ h)
  have hown : s.vm.findClass RX7 = some m.cls := findClass_of_methodNamed B.named
  have hlocks := B.notSynchronized
  have hA : ∀ q, (inM o) q → (inM o) q := fun _ h => h
  have hS : va_S (inM o) s.heap s.heap [] := va_S.rf
  have hG : Md D o P S V T F h s.heap := hG
  have hl := lv_entry ([.ref o, .int x]) (n := 2) (Nat.le_of_ble_eq_true rfl)
  refine W.eq (g2 := entryFrame m ([.ref o, .int x] : List Value).toArray 2) (by rw [hav]) ?_
  rw [lg_entry_eq]
  generalize (lg_sl ([.ref o, .int x]) ++ List.replicate (2 - (lg_sl ([.ref o, .int x])).length) Slot.unset).toArray = ls at hl ⊢
  have hl : lv_has ls 2 [(0, .ref o), (1, .int x)] := hl
  refine lv_aload_n hx hb dX7_value_0 rfl (lv_at hl 0 rfl) ?_
  refine lv_iload_n hx hb dX7_value_1 rfl (lv_at hl 1 rfl) ?_
  refine lv_iconst (v := 0) hx hb dX7_value_2 (by decide) ?_
  refine lv_bipush (v := 9) hx hb dX7_value_3 (by decide) ?_
  refine gcSi (As := [.int x, .int 0, .int 9]) (rest := [.ref o]) hx hb hml hown hts hl.1 hK (c_X7_in l D (fun H => Md D o P S V T F h H) x 0 9) (gaS qM_X7_37 qT_X7_in qK_X7 qC_X7_in) hds_X7_in ⟨Nat.le_of_ble_eq_true rfl, Nat.le_of_ble_eq_true rfl⟩ hG rfl (Nat.le_of_ble_eq_true rfl) ⟨Nat.zero_le _, Nat.zero_le _⟩ dX7_value_5 hS (fun _ (h : noA _) => False.elim h) (fun H locs hG _ _ hS => ?_)
  have hG : Md D o P S V T F h H := hG
  refine lv_if_eq (tgt := 15) hx hb dX7_value_8 (by decide) (fun c8 => ?_) (fun c8 => ?_)
  · refine lv_iconst (v := 1) hx hb dX7_value_15 (by decide) ?_
    refine putM 6 hx hb hts hown hK hG hS hA (by decide) qF_X7_26 rfl dX7_value_16 (fun H locs hG hS => ?_)
    generalize eF1 : upd F 6 1 = F1 at hG
    refine lv_aload_n hx hb dX7_value_19 rfl (lv_at hl 0 rfl) ?_
    refine getM 6 hx hb hts hown hK hG (by decide) qF_X7_26 rfl dX7_value_20 ?_
    refine topE (y := 1) (by rw [← eF1, upd_s]) ?_
    refine lv_if_eq (tgt := 30) hx hb dX7_value_23 (by decide) (fun c23 => ?_) (fun c23 => ?_)
    · exact absurd c23 (by decide)
    · refine lv_iconst (v := 0) hx hb dX7_value_26 (by decide) ?_
      refine lv_goto (tgt := 35) hx hb dX7_value_27 (by decide) ?_
      subst eF1
      have hG9 : Md D o P S V T (fF_X7_value P F x) h H := by
        unfold fF_X7_value; (try dsimp only); (try rw [if_pos c8])
        exact hG
      exact W.iret hx hb hr (fun t ht hW => gQi_of (by unfold fR_X7_value; (try dsimp only); (try rw [if_pos c8]); (try rfl)) hG9 hS ht) hS.2.2 dX7_value_35
  · refine lv_iconst (v := 0) hx hb dX7_value_11 (by decide) ?_
    refine lv_goto (tgt := 16) hx hb dX7_value_12 (by decide) ?_
    refine putM 6 hx hb hts hown hK hG hS hA (by decide) qF_X7_26 rfl dX7_value_16 (fun H locs hG hS => ?_)
    generalize eF2 : upd F 6 0 = F2 at hG
    refine lv_aload_n hx hb dX7_value_19 rfl (lv_at hl 0 rfl) ?_
    refine getM 6 hx hb hts hown hK hG (by decide) qF_X7_26 rfl dX7_value_20 ?_
    refine topE (y := 0) (by rw [← eF2, upd_s]) ?_
    refine lv_if_eq (tgt := 30) hx hb dX7_value_23 (by decide) (fun c23 => ?_) (fun c23 => ?_)
    · refine lv_aload_n hx hb dX7_value_30 rfl (lv_at hl 0 rfl) ?_
      refine lv_iload_n hx hb dX7_value_31 rfl (lv_at hl 1 rfl) ?_
      refine topN (n := x.toNatClampNeg) (in_n (n := 9) (by decide) c8).1 ?_
      refine gcVi (As := [.int (nI x.toNatClampNeg)]) (rest := []) hx hb hml hown hts hl.1 hK (c_X7_valueOf l D o P S V T F2 h x.toNatClampNeg hw (by have := (in_n (n := 9) (by decide) c8).2; omega)) (gaV qM_X7_111 qI_X7_valueOf qS_X7_valueOf qK_X7 qC_X7_valueOf) hdv_X7_valueOf ⟨Nat.le_of_ble_eq_true rfl, Nat.le_of_ble_eq_true rfl⟩ hG (hG.recv hK) rfl (Nat.le_of_ble_eq_true rfl) ⟨Nat.zero_le _, Nat.zero_le _⟩ dX7_value_32 hS hA (fun H locs hG _ _ hS => ?_)
      have hG : Md D o P S V T F2 h H := hG
      subst eF2
      have hG9 : Md D o P S V T (fF_X7_value P F x) h H := by
        unfold fF_X7_value; (try dsimp only); (try rw [if_neg c8])
        exact hG
      exact W.iret hx hb hr (fun t ht hW => gQi_of (by unfold fR_X7_value; (try dsimp only); (try rw [if_neg c8]); (try rfl)) hG9 hS ht) hS.2.2 dX7_value_35
    · exact absurd c23 (by decide)
theorem hdv_X7_ofStreet : yX7_ofStreet.cls = RX7 ∧ yX7_ofStreet.cls ≠ "java/lang/invoke/MethodHandle" ∧ yX7_ofStreet.cls ≠ "java/lang/invoke/VarHandle" ∧ (parseMethodDescriptor yX7_ofStreet.desc).map (fun d => d.parameters.length) = some 2 := by decide +kernel
def fR_X7_ofStreet (P : Nat → Int32) (si : Nat) (w : Nat) : Int32 :=
  if 6 ≤ w then
    if w = 6 then
      if fR_X7_isDue P si = 0 then
        0
      else
        1
    else
      fR_X7_of P si (w - 1)
  else
    fR_X7_of P si w
set_option maxHeartbeats 4000000 in
set_option maxRecDepth 100000 in
theorem c_X7_ofStreet (l : Launch) (D : va_G) (o : Nat) (P S V T F : Nat → Int32) (h : Int64) (si : Nat) (w : Nat) (hs : si < 20) (hp : okR P si) (hw9 : w < 9) : Met l yX7_ofStreet (wA yX7_ofStreet cX7_ofStreet 3 (some .int)) (rmL 3) (gPc D [.ref o, .int (nI si), .int (nI w)] (fun H => Md D o P S V T F h H)) (gQi (inM o) (fR_X7_ofStreet P si w) (fun H => Md D o P S V T F h H)) 0 0 (inM o) := by
  refine Met.ofW (cc := cX7_ofStreet) (maxL := 3) (ret := (some .int)) (by decide) rfl ?_
  intro p e s m args below meth c s₁ B hml hv
  obtain ⟨hav, hG, hK⟩ := hv
  have hx := B.exec
  have hb := B.bytes
  have hr := B.returns
  have hts0 := atoms_spec (ws := wA yX7_ofStreet cX7_ofStreet 3 (some .int)) B.pre
  have hts : ∀ w ∈ AW, w.before _ s = true := fun w h => hts0 w (List.mem_cons_of_mem _ h)
  have hown : s.vm.findClass RX7 = some m.cls := findClass_of_methodNamed B.named
  have hlocks := B.notSynchronized
  have hA : ∀ q, (inM o) q → (inM o) q := fun _ h => h
  have hS : va_S (inM o) s.heap s.heap [] := va_S.rf
  have hG : Md D o P S V T F h s.heap := hG
  have hl := lv_entry ([.ref o, .int (nI si), .int (nI w)]) (n := 3) (Nat.le_of_ble_eq_true rfl)
  refine W.eq (g2 := entryFrame m ([.ref o, .int (nI si), .int (nI w)] : List Value).toArray 3) (by rw [hav]) ?_
  rw [lg_entry_eq]
  generalize (lg_sl ([.ref o, .int (nI si), .int (nI w)]) ++ List.replicate (3 - (lg_sl ([.ref o, .int (nI si), .int (nI w)])).length) Slot.unset).toArray = ls at hl ⊢
  have hl : lv_has ls 3 [(0, .ref o), (1, .int (nI si)), (2, .int (nI w))] := hl
  refine lv_iload_n hx hb dX7_ofStreet_0 rfl (lv_at hl 2 rfl) ?_
  refine lv_bipush (v := 6) hx hb dX7_ofStreet_1 (by decide) ?_
  refine lv_icmp_ge (tgt := 15) hx hb dX7_ofStreet_3 (by decide) (fun c3 => ?_) (fun c3 => ?_)
  · have c3 : 6 ≤ w := (nI_leI (a := 6) (b := w) (by omega) (by omega)).mp c3
    refine lv_iload_n hx hb dX7_ofStreet_15 rfl (lv_at hl 2 rfl) ?_
    refine lv_bipush (v := 6) hx hb dX7_ofStreet_16 (by decide) ?_
    refine lv_icmp_ne (tgt := 37) hx hb dX7_ofStreet_18 (by decide) (fun c18 => ?_) (fun c18 => ?_)
    · have c18 : ¬ w = 6 := fun h => c18 ((nI_eq (a := w) (b := 6) (by omega) (by omega)).mpr h)
      refine lv_aload_n hx hb dX7_ofStreet_37 rfl (lv_at hl 0 rfl) ?_
      refine lv_iload_n hx hb dX7_ofStreet_38 rfl (lv_at hl 1 rfl) ?_
      refine lv_iload_n hx hb dX7_ofStreet_39 rfl (lv_at hl 2 rfl) ?_
      refine lv_iconst (v := 1) hx hb dX7_ofStreet_40 (by decide) ?_
      refine isubN (a := w) (b := 1) (by omega) hx hb dX7_ofStreet_41 ?_
      refine gcVi (As := [.int (nI si), .int (nI (w - 1))]) (rest := []) hx hb hml hown hts hl.1 hK (c_X7_of l D o P S V T F h si (w - 1) (by first | assumption | omega) (by first | assumption | omega)) (gaV qM_X7_41 qI_X7_of qS_X7_of qK_X7 qC_X7_of) hdv_X7_of ⟨Nat.le_of_ble_eq_true rfl, Nat.le_of_ble_eq_true rfl⟩ hG (hG.recv hK) rfl (Nat.le_of_ble_eq_true rfl) ⟨Nat.zero_le _, Nat.zero_le _⟩ dX7_ofStreet_42 hS hA (fun H locs hG _ _ hS => ?_)
      have hG : Md D o P S V T F h H := hG
      have hG9 := hG
      exact W.iret hx hb hr (fun t ht hW => gQi_of (by unfold fR_X7_ofStreet; (try dsimp only); (try rw [if_pos c3, if_neg c18]); (try rfl)) hG9 hS ht) hS.2.2 dX7_ofStreet_45
    · have c18 : w = 6 := (nI_eq (a := w) (b := 6) (by omega) (by omega)).mp c18
      refine lv_aload_n hx hb dX7_ofStreet_21 rfl (lv_at hl 0 rfl) ?_
      refine lv_iload_n hx hb dX7_ofStreet_22 rfl (lv_at hl 1 rfl) ?_
      refine gcVi (As := [.int (nI si)]) (rest := []) hx hb hml hown hts hl.1 hK (c_X7_isDue l D o P S V T F h si (by first | assumption | omega) (by first | assumption | omega)) (gaV qM_X7_75 qI_X7_isDue qS_X7_isDue qK_X7 qC_X7_isDue) hdv_X7_isDue ⟨Nat.le_of_ble_eq_true rfl, Nat.le_of_ble_eq_true rfl⟩ hG (hG.recv hK) rfl (Nat.le_of_ble_eq_true rfl) ⟨Nat.zero_le _, Nat.zero_le _⟩ dX7_ofStreet_23 hS hA (fun H locs hG _ _ hS => ?_)
      have hG : Md D o P S V T F h H := hG
      refine lv_if_eq (tgt := 33) hx hb dX7_ofStreet_26 (by decide) (fun c26 => ?_) (fun c26 => ?_)
      · refine lv_iconst (v := 0) hx hb dX7_ofStreet_33 (by decide) ?_
        refine lv_goto (tgt := 45) hx hb dX7_ofStreet_34 (by decide) ?_
        have hG9 := hG
        exact W.iret hx hb hr (fun t ht hW => gQi_of (by unfold fR_X7_ofStreet; (try dsimp only); (try rw [if_pos c3, if_pos c18, if_pos c26]); (try rfl)) hG9 hS ht) hS.2.2 dX7_ofStreet_45
      · refine lv_iconst (v := 1) hx hb dX7_ofStreet_29 (by decide) ?_
        refine lv_goto (tgt := 45) hx hb dX7_ofStreet_30 (by decide) ?_
        have hG9 := hG
        exact W.iret hx hb hr (fun t ht hW => gQi_of (by unfold fR_X7_ofStreet; (try dsimp only); (try rw [if_pos c3, if_pos c18, if_neg c26]); (try rfl)) hG9 hS ht) hS.2.2 dX7_ofStreet_45
  · have c3 : ¬ 6 ≤ w := fun h => c3 ((nI_leI (a := 6) (b := w) (by omega) (by omega)).mpr h)
    refine lv_aload_n hx hb dX7_ofStreet_6 rfl (lv_at hl 0 rfl) ?_
    refine lv_iload_n hx hb dX7_ofStreet_7 rfl (lv_at hl 1 rfl) ?_
    refine lv_iload_n hx hb dX7_ofStreet_8 rfl (lv_at hl 2 rfl) ?_
    refine gcVi (As := [.int (nI si), .int (nI w)]) (rest := []) hx hb hml hown hts hl.1 hK (c_X7_of l D o P S V T F h si w (by first | assumption | omega) (by first | assumption | omega)) (gaV qM_X7_41 qI_X7_of qS_X7_of qK_X7 qC_X7_of) hdv_X7_of ⟨Nat.le_of_ble_eq_true rfl, Nat.le_of_ble_eq_true rfl⟩ hG (hG.recv hK) rfl (Nat.le_of_ble_eq_true rfl) ⟨Nat.zero_le _, Nat.zero_le _⟩ dX7_ofStreet_9 hS hA (fun H locs hG _ _ hS => ?_)
    have hG : Md D o P S V T F h H := hG
    refine lv_goto (tgt := 45) hx hb dX7_ofStreet_12 (by decide) ?_
    have hG9 := hG
    exact W.iret hx hb hr (fun t ht hW => gQi_of (by unfold fR_X7_ofStreet; (try dsimp only); (try rw [if_neg c3]); (try rfl)) hG9 hS ht) hS.2.2 dX7_ofStreet_45
theorem hdv_X7_street : yX7_street.cls = RX7 ∧ yX7_street.cls ≠ "java/lang/invoke/MethodHandle" ∧ yX7_street.cls ≠ "java/lang/invoke/VarHandle" ∧ (parseMethodDescriptor yX7_street.desc).map (fun d => d.parameters.length) = some 2 := by decide +kernel
def fF_X7_street (P : Nat → Int32) (F : Nat → Int32) (x : Int32) (y : Int32) : Nat → Int32 :=
  if fR_X7_isStreet P x = 0 then
    let F3 := upd F 6 1
    F3
  else
    if fR_X7_in y 0 8 = 0 then
      let F1 := upd F 6 2
      F1
    else
      let F2 := upd F 6 0
      F2
def fR_X7_street (P : Nat → Int32) (F : Nat → Int32) (x : Int32) (y : Int32) : Int32 :=
  if fR_X7_isStreet P x = 0 then
    0
  else
    if fR_X7_in y 0 8 = 0 then
      0
    else
      fR_X7_ofStreet P x.toNatClampNeg y.toNatClampNeg
set_option maxHeartbeats 4000000 in
set_option maxRecDepth 100000 in
theorem c_X7_street (l : Launch) (D : va_G) (o : Nat) (P S V T F : Nat → Int32) (h : Int64) (x : Int32) (y : Int32) (hw : WF P) : Met l yX7_street (wA yX7_street cX7_street 3 (some .int)) (rmL 4) (gPc D [.ref o, .int x, .int y] (fun H => Md D o P S V T F h H)) (gQi (inM o) (fR_X7_street P F x y) (fun H => Md D o P S V T (fF_X7_street P F x y) h H)) 0 0 (inM o) := by
  refine Met.ofW (cc := cX7_street) (maxL := 3) (ret := (some .int)) (by decide) rfl ?_
  intro p e s m args below meth c s₁ B hml hv
  obtain ⟨hav, hG, hK⟩ := hv
  have hx := B.exec
  have hb := B.bytes
  have hr := B.returns
  have hts0 := atoms_spec (ws := wA yX7_street cX7_street 3 (some .int)) B.pre
  have hts : ∀ w ∈ AW, w.before _ s = true := fun w h => hts0 w (List.mem_cons_of_mem _ h)
  have hown : s.vm.findClass RX7 = some m.cls := findClass_of_methodNamed B.named
  have hlocks := B.notSynchronized
  have hA : ∀ q, (inM o) q → (inM o) q := fun _ h => h
  have hS : va_S (inM o) s.heap s.heap [] := va_S.rf
  have hG : Md D o P S V T F h s.heap := hG
  have hl := lv_entry ([.ref o, .int x, .int y]) (n := 3) (Nat.le_of_ble_eq_true rfl)
  refine W.eq (g2 := entryFrame m ([.ref o, .int x, .int y] : List Value).toArray 3) (by rw [hav]) ?_
  rw [lg_entry_eq]
  generalize (lg_sl ([.ref o, .int x, .int y]) ++ List.replicate (3 - (lg_sl ([.ref o, .int x, .int y])).length) Slot.unset).toArray = ls at hl ⊢
  have hl : lv_has ls 3 [(0, .ref o), (1, .int x), (2, .int y)] := hl
  refine lv_aload_n hx hb dX7_street_0 rfl (lv_at hl 0 rfl) ?_
  refine lv_aload_n hx hb dX7_street_1 rfl (lv_at hl 0 rfl) ?_
  refine lv_iload_n hx hb dX7_street_2 rfl (lv_at hl 1 rfl) ?_
  refine gcVi (As := [.int x]) (rest := [.ref o]) hx hb hml hown hts hl.1 hK (c_X7_isStreet l D o P S V T F h x) (gaV qM_X7_55 qI_X7_isStreet qS_X7_isStreet qK_X7 qC_X7_isStreet) hdv_X7_isStreet ⟨Nat.le_of_ble_eq_true rfl, Nat.le_of_ble_eq_true rfl⟩ hG (hG.recv hK) rfl (Nat.le_of_ble_eq_true rfl) ⟨Nat.zero_le _, Nat.zero_le _⟩ dX7_street_3 hS hA (fun H locs hG _ _ hS => ?_)
  have hG : Md D o P S V T F h H := hG
  refine lv_if_ne (tgt := 13) hx hb dX7_street_6 (by decide) (fun c6 => ?_) (fun c6 => ?_)
  · refine lv_iload_n hx hb dX7_street_13 rfl (lv_at hl 2 rfl) ?_
    refine lv_iconst (v := 0) hx hb dX7_street_14 (by decide) ?_
    refine lv_bipush (v := 8) hx hb dX7_street_15 (by decide) ?_
    refine gcSi (As := [.int y, .int 0, .int 8]) (rest := [.ref o]) hx hb hml hown hts hl.1 hK (c_X7_in l D (fun H => Md D o P S V T F h H) y 0 8) (gaS qM_X7_37 qT_X7_in qK_X7 qC_X7_in) hds_X7_in ⟨Nat.le_of_ble_eq_true rfl, Nat.le_of_ble_eq_true rfl⟩ hG rfl (Nat.le_of_ble_eq_true rfl) ⟨Nat.zero_le _, Nat.zero_le _⟩ dX7_street_17 hS (fun _ (h : noA _) => False.elim h) (fun H locs hG _ _ hS => ?_)
    have hG : Md D o P S V T F h H := hG
    refine lv_if_eq (tgt := 27) hx hb dX7_street_20 (by decide) (fun c20 => ?_) (fun c20 => ?_)
    · refine lv_iconst (v := 2) hx hb dX7_street_27 (by decide) ?_
      refine putM 6 hx hb hts hown hK hG hS hA (by decide) qF_X7_26 rfl dX7_street_28 (fun H locs hG hS => ?_)
      generalize eF1 : upd F 6 2 = F1 at hG
      refine lv_aload_n hx hb dX7_street_31 rfl (lv_at hl 0 rfl) ?_
      refine getM 6 hx hb hts hown hK hG (by decide) qF_X7_26 rfl dX7_street_32 ?_
      refine topE (y := 2) (by rw [← eF1, upd_s]) ?_
      refine lv_if_eq (tgt := 42) hx hb dX7_street_35 (by decide) (fun c35 => ?_) (fun c35 => ?_)
      · exact absurd c35 (by decide)
      · refine lv_iconst (v := 0) hx hb dX7_street_38 (by decide) ?_
        refine lv_goto (tgt := 48) hx hb dX7_street_39 (by decide) ?_
        subst eF1
        have hG9 : Md D o P S V T (fF_X7_street P F x y) h H := by
          unfold fF_X7_street; (try dsimp only); (try rw [if_neg c6, if_pos c20])
          exact hG
        exact W.iret hx hb hr (fun t ht hW => gQi_of (by unfold fR_X7_street; (try dsimp only); (try rw [if_neg c6, if_pos c20]); (try rfl)) hG9 hS ht) hS.2.2 dX7_street_48
    · refine lv_iconst (v := 0) hx hb dX7_street_23 (by decide) ?_
      refine lv_goto (tgt := 28) hx hb dX7_street_24 (by decide) ?_
      refine putM 6 hx hb hts hown hK hG hS hA (by decide) qF_X7_26 rfl dX7_street_28 (fun H locs hG hS => ?_)
      generalize eF2 : upd F 6 0 = F2 at hG
      refine lv_aload_n hx hb dX7_street_31 rfl (lv_at hl 0 rfl) ?_
      refine getM 6 hx hb hts hown hK hG (by decide) qF_X7_26 rfl dX7_street_32 ?_
      refine topE (y := 0) (by rw [← eF2, upd_s]) ?_
      refine lv_if_eq (tgt := 42) hx hb dX7_street_35 (by decide) (fun c35 => ?_) (fun c35 => ?_)
      · refine lv_aload_n hx hb dX7_street_42 rfl (lv_at hl 0 rfl) ?_
        refine lv_iload_n hx hb dX7_street_43 rfl (lv_at hl 1 rfl) ?_
        refine topN (n := x.toNatClampNeg) (isStreet_n hw.1 c6).1 ?_
        refine lv_iload_n hx hb dX7_street_44 rfl (lv_at hl 2 rfl) ?_
        refine topN (n := y.toNatClampNeg) (in_n (n := 8) (by decide) c20).1 ?_
        refine gcVi (As := [.int (nI x.toNatClampNeg), .int (nI y.toNatClampNeg)]) (rest := []) hx hb hml hown hts hl.1 hK (c_X7_ofStreet l D o P S V T F2 h x.toNatClampNeg y.toNatClampNeg (isStreet_20 hw.1 c6) (hw.2.1 _ (isStreet_n hw.1 c6).2) (by have := (in_n (n := 8) (by decide) c20).2; omega)) (gaV qM_X7_114 qI_X7_ofStreet qS_X7_ofStreet qK_X7 qC_X7_ofStreet) hdv_X7_ofStreet ⟨Nat.le_of_ble_eq_true rfl, Nat.le_of_ble_eq_true rfl⟩ hG (hG.recv hK) rfl (Nat.le_of_ble_eq_true rfl) ⟨Nat.zero_le _, Nat.zero_le _⟩ dX7_street_45 hS hA (fun H locs hG _ _ hS => ?_)
        have hG : Md D o P S V T F2 h H := hG
        subst eF2
        have hG9 : Md D o P S V T (fF_X7_street P F x y) h H := by
          unfold fF_X7_street; (try dsimp only); (try rw [if_neg c6, if_neg c20])
          exact hG
        exact W.iret hx hb hr (fun t ht hW => gQi_of (by unfold fR_X7_street; (try dsimp only); (try rw [if_neg c6, if_neg c20]); (try rfl)) hG9 hS ht) hS.2.2 dX7_street_48
      · exact absurd c35 (by decide)
  · refine lv_iconst (v := 1) hx hb dX7_street_9 (by decide) ?_
    refine lv_goto (tgt := 28) hx hb dX7_street_10 (by decide) ?_
    refine putM 6 hx hb hts hown hK hG hS hA (by decide) qF_X7_26 rfl dX7_street_28 (fun H locs hG hS => ?_)
    generalize eF3 : upd F 6 1 = F3 at hG
    refine lv_aload_n hx hb dX7_street_31 rfl (lv_at hl 0 rfl) ?_
    refine getM 6 hx hb hts hown hK hG (by decide) qF_X7_26 rfl dX7_street_32 ?_
    refine topE (y := 1) (by rw [← eF3, upd_s]) ?_
    refine lv_if_eq (tgt := 42) hx hb dX7_street_35 (by decide) (fun c35 => ?_) (fun c35 => ?_)
    · exact absurd c35 (by decide)
    · refine lv_iconst (v := 0) hx hb dX7_street_38 (by decide) ?_
      refine lv_goto (tgt := 48) hx hb dX7_street_39 (by decide) ?_
      subst eF3
      have hG9 : Md D o P S V T (fF_X7_street P F x y) h H := by
        unfold fF_X7_street; (try dsimp only); (try rw [if_pos c6])
        exact hG
      exact W.iret hx hb hr (fun t ht hW => gQi_of (by unfold fR_X7_street; (try dsimp only); (try rw [if_pos c6]); (try rfl)) hG9 hS ht) hS.2.2 dX7_street_48
theorem hdv_X7_plow : yX7_plow.cls = RX7 ∧ yX7_plow.cls ≠ "java/lang/invoke/MethodHandle" ∧ yX7_plow.cls ≠ "java/lang/invoke/VarHandle" ∧ (parseMethodDescriptor yX7_plow.desc).map (fun d => d.parameters.length) = some 2 := by decide +kernel
def fF_X7_plow (P : Nat → Int32) (F : Nat → Int32) (x : Int32) (y : Int32) : Nat → Int32 :=
  if fR_X7_isPlow P x = 0 then
    let F3 := upd F 6 1
    F3
  else
    if fR_X7_in y 0 7 = 0 then
      let F1 := upd F 6 2
      F1
    else
      let F2 := upd F 6 0
      F2
def fR_X7_plow (P : Nat → Int32) (F : Nat → Int32) (x : Int32) (y : Int32) : Int32 :=
  if fR_X7_isPlow P x = 0 then
    0
  else
    if fR_X7_in y 0 7 = 0 then
      0
    else
      fR_X7_ofPlow P x.toNatClampNeg y.toNatClampNeg
set_option maxHeartbeats 4000000 in
set_option maxRecDepth 100000 in
theorem c_X7_plow (l : Launch) (D : va_G) (o : Nat) (P S V T F : Nat → Int32) (h : Int64) (x : Int32) (y : Int32) (hN : okN P) : Met l yX7_plow (wA yX7_plow cX7_plow 3 (some .int)) (rmL 2) (gPc D [.ref o, .int x, .int y] (fun H => Md D o P S V T F h H)) (gQi (inM o) (fR_X7_plow P F x y) (fun H => Md D o P S V T (fF_X7_plow P F x y) h H)) 0 0 (inM o) := by
  refine Met.ofW (cc := cX7_plow) (maxL := 3) (ret := (some .int)) (by decide) rfl ?_
  intro p e s m args below meth c s₁ B hml hv
  obtain ⟨hav, hG, hK⟩ := hv
  have hx := B.exec
  have hb := B.bytes
  have hr := B.returns
  have hts0 := atoms_spec (ws := wA yX7_plow cX7_plow 3 (some .int)) B.pre
  have hts : ∀ w ∈ AW, w.before _ s = true := fun w h => hts0 w (List.mem_cons_of_mem _ h)
  have hown : s.vm.findClass RX7 = some m.cls := findClass_of_methodNamed B.named
  have hlocks := B.notSynchronized
  have hA : ∀ q, (inM o) q → (inM o) q := fun _ h => h
  have hS : va_S (inM o) s.heap s.heap [] := va_S.rf
  have hG : Md D o P S V T F h s.heap := hG
  have hl := lv_entry ([.ref o, .int x, .int y]) (n := 3) (Nat.le_of_ble_eq_true rfl)
  refine W.eq (g2 := entryFrame m ([.ref o, .int x, .int y] : List Value).toArray 3) (by rw [hav]) ?_
  rw [lg_entry_eq]
  generalize (lg_sl ([.ref o, .int x, .int y]) ++ List.replicate (3 - (lg_sl ([.ref o, .int x, .int y])).length) Slot.unset).toArray = ls at hl ⊢
  have hl : lv_has ls 3 [(0, .ref o), (1, .int x), (2, .int y)] := hl
  refine lv_aload_n hx hb dX7_plow_0 rfl (lv_at hl 0 rfl) ?_
  refine lv_aload_n hx hb dX7_plow_1 rfl (lv_at hl 0 rfl) ?_
  refine lv_iload_n hx hb dX7_plow_2 rfl (lv_at hl 1 rfl) ?_
  refine gcVi (As := [.int x]) (rest := [.ref o]) hx hb hml hown hts hl.1 hK (c_X7_isPlow l D o P S V T F h x) (gaV qM_X7_51 qI_X7_isPlow qS_X7_isPlow qK_X7 qC_X7_isPlow) hdv_X7_isPlow ⟨Nat.le_of_ble_eq_true rfl, Nat.le_of_ble_eq_true rfl⟩ hG (hG.recv hK) rfl (Nat.le_of_ble_eq_true rfl) ⟨Nat.zero_le _, Nat.zero_le _⟩ dX7_plow_3 hS hA (fun H locs hG _ _ hS => ?_)
  have hG : Md D o P S V T F h H := hG
  refine lv_if_ne (tgt := 13) hx hb dX7_plow_6 (by decide) (fun c6 => ?_) (fun c6 => ?_)
  · refine lv_iload_n hx hb dX7_plow_13 rfl (lv_at hl 2 rfl) ?_
    refine lv_iconst (v := 0) hx hb dX7_plow_14 (by decide) ?_
    refine lv_bipush (v := 7) hx hb dX7_plow_15 (by decide) ?_
    refine gcSi (As := [.int y, .int 0, .int 7]) (rest := [.ref o]) hx hb hml hown hts hl.1 hK (c_X7_in l D (fun H => Md D o P S V T F h H) y 0 7) (gaS qM_X7_37 qT_X7_in qK_X7 qC_X7_in) hds_X7_in ⟨Nat.le_of_ble_eq_true rfl, Nat.le_of_ble_eq_true rfl⟩ hG rfl (Nat.le_of_ble_eq_true rfl) ⟨Nat.zero_le _, Nat.zero_le _⟩ dX7_plow_17 hS (fun _ (h : noA _) => False.elim h) (fun H locs hG _ _ hS => ?_)
    have hG : Md D o P S V T F h H := hG
    refine lv_if_eq (tgt := 27) hx hb dX7_plow_20 (by decide) (fun c20 => ?_) (fun c20 => ?_)
    · refine lv_iconst (v := 2) hx hb dX7_plow_27 (by decide) ?_
      refine putM 6 hx hb hts hown hK hG hS hA (by decide) qF_X7_26 rfl dX7_plow_28 (fun H locs hG hS => ?_)
      generalize eF1 : upd F 6 2 = F1 at hG
      refine lv_aload_n hx hb dX7_plow_31 rfl (lv_at hl 0 rfl) ?_
      refine getM 6 hx hb hts hown hK hG (by decide) qF_X7_26 rfl dX7_plow_32 ?_
      refine topE (y := 2) (by rw [← eF1, upd_s]) ?_
      refine lv_if_eq (tgt := 42) hx hb dX7_plow_35 (by decide) (fun c35 => ?_) (fun c35 => ?_)
      · exact absurd c35 (by decide)
      · refine lv_iconst (v := 0) hx hb dX7_plow_38 (by decide) ?_
        refine lv_goto (tgt := 48) hx hb dX7_plow_39 (by decide) ?_
        subst eF1
        have hG9 : Md D o P S V T (fF_X7_plow P F x y) h H := by
          unfold fF_X7_plow; (try dsimp only); (try rw [if_neg c6, if_pos c20])
          exact hG
        exact W.iret hx hb hr (fun t ht hW => gQi_of (by unfold fR_X7_plow; (try dsimp only); (try rw [if_neg c6, if_pos c20]); (try rfl)) hG9 hS ht) hS.2.2 dX7_plow_48
    · refine lv_iconst (v := 0) hx hb dX7_plow_23 (by decide) ?_
      refine lv_goto (tgt := 28) hx hb dX7_plow_24 (by decide) ?_
      refine putM 6 hx hb hts hown hK hG hS hA (by decide) qF_X7_26 rfl dX7_plow_28 (fun H locs hG hS => ?_)
      generalize eF2 : upd F 6 0 = F2 at hG
      refine lv_aload_n hx hb dX7_plow_31 rfl (lv_at hl 0 rfl) ?_
      refine getM 6 hx hb hts hown hK hG (by decide) qF_X7_26 rfl dX7_plow_32 ?_
      refine topE (y := 0) (by rw [← eF2, upd_s]) ?_
      refine lv_if_eq (tgt := 42) hx hb dX7_plow_35 (by decide) (fun c35 => ?_) (fun c35 => ?_)
      · refine lv_aload_n hx hb dX7_plow_42 rfl (lv_at hl 0 rfl) ?_
        refine lv_iload_n hx hb dX7_plow_43 rfl (lv_at hl 1 rfl) ?_
        refine topN (n := x.toNatClampNeg) (isPlow_n hN c6).1 ?_
        refine lv_iload_n hx hb dX7_plow_44 rfl (lv_at hl 2 rfl) ?_
        refine topN (n := y.toNatClampNeg) (in_n (n := 7) (by decide) c20).1 ?_
        refine gcVi (As := [.int (nI x.toNatClampNeg), .int (nI y.toNatClampNeg)]) (rest := []) hx hb hml hown hts hl.1 hK (c_X7_ofPlow l D o P S V T F2 h x.toNatClampNeg y.toNatClampNeg (isPlow_3 hN c6) (by have := (in_n (n := 7) (by decide) c20).2; omega)) (gaV qM_X7_58 qI_X7_ofPlow qS_X7_ofPlow qK_X7 qC_X7_ofPlow) hdv_X7_ofPlow ⟨Nat.le_of_ble_eq_true rfl, Nat.le_of_ble_eq_true rfl⟩ hG (hG.recv hK) rfl (Nat.le_of_ble_eq_true rfl) ⟨Nat.zero_le _, Nat.zero_le _⟩ dX7_plow_45 hS hA (fun H locs hG _ _ hS => ?_)
        have hG : Md D o P S V T F2 h H := hG
        subst eF2
        have hG9 : Md D o P S V T (fF_X7_plow P F x y) h H := by
          unfold fF_X7_plow; (try dsimp only); (try rw [if_neg c6, if_neg c20])
          exact hG
        exact W.iret hx hb hr (fun t ht hW => gQi_of (by unfold fR_X7_plow; (try dsimp only); (try rw [if_neg c6, if_neg c20]); (try rfl)) hG9 hS ht) hS.2.2 dX7_plow_48
      · exact absurd c35 (by decide)
  · refine lv_iconst (v := 1) hx hb dX7_plow_9 (by decide) ?_
    refine lv_goto (tgt := 28) hx hb dX7_plow_10 (by decide) ?_
    refine putM 6 hx hb hts hown hK hG hS hA (by decide) qF_X7_26 rfl dX7_plow_28 (fun H locs hG hS => ?_)
    generalize eF3 : upd F 6 1 = F3 at hG
    refine lv_aload_n hx hb dX7_plow_31 rfl (lv_at hl 0 rfl) ?_
    refine getM 6 hx hb hts hown hK hG (by decide) qF_X7_26 rfl dX7_plow_32 ?_
    refine topE (y := 1) (by rw [← eF3, upd_s]) ?_
    refine lv_if_eq (tgt := 42) hx hb dX7_plow_35 (by decide) (fun c35 => ?_) (fun c35 => ?_)
    · exact absurd c35 (by decide)
    · refine lv_iconst (v := 0) hx hb dX7_plow_38 (by decide) ?_
      refine lv_goto (tgt := 48) hx hb dX7_plow_39 (by decide) ?_
      subst eF3
      have hG9 : Md D o P S V T (fF_X7_plow P F x y) h H := by
        unfold fF_X7_plow; (try dsimp only); (try rw [if_pos c6])
        exact hG
      exact W.iret hx hb hr (fun t ht hW => gQi_of (by unfold fR_X7_plow; (try dsimp only); (try rw [if_pos c6]); (try rfl)) hG9 hS ht) hS.2.2 dX7_plow_48
theorem hdv_X7_stop : yX7_stop.cls = RX7 ∧ yX7_stop.cls ≠ "java/lang/invoke/MethodHandle" ∧ yX7_stop.cls ≠ "java/lang/invoke/VarHandle" ∧ (parseMethodDescriptor yX7_stop.desc).map (fun d => d.parameters.length) = some 2 := by decide +kernel
def fF_X7_stop (P : Nat → Int32) (F : Nat → Int32) (x : Int32) (y : Int32) : Nat → Int32 :=
  if fR_X7_isPlow P x = 0 then
    let F1 := upd F 6 1
    F1
  else
    if fR_X7_in y 0 ((fR_X7_ofPlow P x.toNatClampNeg 3) - 1) = 0 then
      let F2 := upd F 6 1
      F2
    else
      let F3 := upd F 6 0
      F3
def fR_X7_stop (P : Nat → Int32) (F : Nat → Int32) (x : Int32) (y : Int32) : Int32 :=
  if fR_X7_isPlow P x = 0 then
    0
  else
    if fR_X7_in y 0 ((fR_X7_ofPlow P x.toNatClampNeg 3) - 1) = 0 then
      0
    else
      fR_X7_ofPlow P x.toNatClampNeg (8 + y.toNatClampNeg)
set_option maxHeartbeats 4000000 in
set_option maxRecDepth 100000 in
theorem c_X7_stop (l : Launch) (D : va_G) (o : Nat) (P S V T F : Nat → Int32) (h : Int64) (x : Int32) (y : Int32) (hN : okN P) (hQ : ∀ q, q < np P → okQ P q) : Met l yX7_stop (wA yX7_stop cX7_stop 3 (some .int)) (rmL 2) (gPc D [.ref o, .int x, .int y] (fun H => Md D o P S V T F h H)) (gQi (inM o) (fR_X7_stop P F x y) (fun H => Md D o P S V T (fF_X7_stop P F x y) h H)) 0 0 (inM o) := by
  refine Met.ofW (cc := cX7_stop) (maxL := 3) (ret := (some .int)) (by decide) rfl ?_
  intro p e s m args below meth c s₁ B hml hv
  obtain ⟨hav, hG, hK⟩ := hv
  have hx := B.exec
  have hb := B.bytes
  have hr := B.returns
  have hts0 := atoms_spec (ws := wA yX7_stop cX7_stop 3 (some .int)) B.pre
  have hts : ∀ w ∈ AW, w.before _ s = true := fun w h => hts0 w (List.mem_cons_of_mem _ h)
  have hown : s.vm.findClass RX7 = some m.cls := findClass_of_methodNamed B.named
  have hlocks := B.notSynchronized
  have hA : ∀ q, (inM o) q → (inM o) q := fun _ h => h
  have hS : va_S (inM o) s.heap s.heap [] := va_S.rf
  have hG : Md D o P S V T F h s.heap := hG
  have hl := lv_entry ([.ref o, .int x, .int y]) (n := 3) (Nat.le_of_ble_eq_true rfl)
  refine W.eq (g2 := entryFrame m ([.ref o, .int x, .int y] : List Value).toArray 3) (by rw [hav]) ?_
  rw [lg_entry_eq]
  generalize (lg_sl ([.ref o, .int x, .int y]) ++ List.replicate (3 - (lg_sl ([.ref o, .int x, .int y])).length) Slot.unset).toArray = ls at hl ⊢
  have hl : lv_has ls 3 [(0, .ref o), (1, .int x), (2, .int y)] := hl
  refine lv_aload_n hx hb dX7_stop_0 rfl (lv_at hl 0 rfl) ?_
  refine lv_aload_n hx hb dX7_stop_1 rfl (lv_at hl 0 rfl) ?_
  refine lv_iload_n hx hb dX7_stop_2 rfl (lv_at hl 1 rfl) ?_
  refine gcVi (As := [.int x]) (rest := [.ref o]) hx hb hml hown hts hl.1 hK (c_X7_isPlow l D o P S V T F h x) (gaV qM_X7_51 qI_X7_isPlow qS_X7_isPlow qK_X7 qC_X7_isPlow) hdv_X7_isPlow ⟨Nat.le_of_ble_eq_true rfl, Nat.le_of_ble_eq_true rfl⟩ hG (hG.recv hK) rfl (Nat.le_of_ble_eq_true rfl) ⟨Nat.zero_le _, Nat.zero_le _⟩ dX7_stop_3 hS hA (fun H locs hG _ _ hS => ?_)
  have hG : Md D o P S V T F h H := hG
  refine lv_if_eq (tgt := 29) hx hb dX7_stop_6 (by decide) (fun c6 => ?_) (fun c6 => ?_)
  · refine lv_iconst (v := 1) hx hb dX7_stop_29 (by decide) ?_
    refine putM 6 hx hb hts hown hK hG hS hA (by decide) qF_X7_26 rfl dX7_stop_30 (fun H locs hG hS => ?_)
    generalize eF1 : upd F 6 1 = F1 at hG
    refine lv_aload_n hx hb dX7_stop_33 rfl (lv_at hl 0 rfl) ?_
    refine getM 6 hx hb hts hown hK hG (by decide) qF_X7_26 rfl dX7_stop_34 ?_
    refine topE (y := 1) (by rw [← eF1, upd_s]) ?_
    refine lv_if_eq (tgt := 44) hx hb dX7_stop_37 (by decide) (fun c37 => ?_) (fun c37 => ?_)
    · exact absurd c37 (by decide)
    · refine lv_iconst (v := 0) hx hb dX7_stop_40 (by decide) ?_
      refine lv_goto (tgt := 53) hx hb dX7_stop_41 (by decide) ?_
      subst eF1
      have hG9 : Md D o P S V T (fF_X7_stop P F x y) h H := by
        unfold fF_X7_stop; (try dsimp only); (try rw [if_pos c6])
        exact hG
      exact W.iret hx hb hr (fun t ht hW => gQi_of (by unfold fR_X7_stop; (try dsimp only); (try rw [if_pos c6]); (try rfl)) hG9 hS ht) hS.2.2 dX7_stop_53
  · refine lv_iload_n hx hb dX7_stop_9 rfl (lv_at hl 2 rfl) ?_
    refine lv_iconst (v := 0) hx hb dX7_stop_10 (by decide) ?_
    refine lv_aload_n hx hb dX7_stop_11 rfl (lv_at hl 0 rfl) ?_
    refine lv_iload_n hx hb dX7_stop_12 rfl (lv_at hl 1 rfl) ?_
    refine topN (n := x.toNatClampNeg) (isPlow_n hN c6).1 ?_
    refine lv_iconst (v := 3) hx hb dX7_stop_13 (by decide) ?_
    refine gcVi (As := [.int (nI x.toNatClampNeg), .int 3]) (rest := [.int 0, .int y, .ref o]) hx hb hml hown hts hl.1 hK (c_X7_ofPlow l D o P S V T F h x.toNatClampNeg 3 (isPlow_3 hN c6) (by first | assumption | omega)) (gaV qM_X7_58 qI_X7_ofPlow qS_X7_ofPlow qK_X7 qC_X7_ofPlow) hdv_X7_ofPlow ⟨Nat.le_of_ble_eq_true rfl, Nat.le_of_ble_eq_true rfl⟩ hG (hG.recv hK) rfl (Nat.le_of_ble_eq_true rfl) ⟨Nat.zero_le _, Nat.zero_le _⟩ dX7_stop_14 hS hA (fun H locs hG _ _ hS => ?_)
    have hG : Md D o P S V T F h H := hG
    refine lv_iconst (v := 1) hx hb dX7_stop_17 (by decide) ?_
    refine lv_isub hx hb dX7_stop_18 ?_
    refine gcSi (As := [.int y, .int 0, .int ((fR_X7_ofPlow P x.toNatClampNeg 3) - 1)]) (rest := [.ref o]) hx hb hml hown hts hl.1 hK (c_X7_in l D (fun H => Md D o P S V T F h H) y 0 ((fR_X7_ofPlow P x.toNatClampNeg 3) - 1)) (gaS qM_X7_37 qT_X7_in qK_X7 qC_X7_in) hds_X7_in ⟨Nat.le_of_ble_eq_true rfl, Nat.le_of_ble_eq_true rfl⟩ hG rfl (Nat.le_of_ble_eq_true rfl) ⟨Nat.zero_le _, Nat.zero_le _⟩ dX7_stop_19 hS (fun _ (h : noA _) => False.elim h) (fun H locs hG _ _ hS => ?_)
    have hG : Md D o P S V T F h H := hG
    refine lv_if_eq (tgt := 29) hx hb dX7_stop_22 (by decide) (fun c22 => ?_) (fun c22 => ?_)
    · refine lv_iconst (v := 1) hx hb dX7_stop_29 (by decide) ?_
      refine putM 6 hx hb hts hown hK hG hS hA (by decide) qF_X7_26 rfl dX7_stop_30 (fun H locs hG hS => ?_)
      generalize eF2 : upd F 6 1 = F2 at hG
      refine lv_aload_n hx hb dX7_stop_33 rfl (lv_at hl 0 rfl) ?_
      refine getM 6 hx hb hts hown hK hG (by decide) qF_X7_26 rfl dX7_stop_34 ?_
      refine topE (y := 1) (by rw [← eF2, upd_s]) ?_
      refine lv_if_eq (tgt := 44) hx hb dX7_stop_37 (by decide) (fun c37 => ?_) (fun c37 => ?_)
      · exact absurd c37 (by decide)
      · refine lv_iconst (v := 0) hx hb dX7_stop_40 (by decide) ?_
        refine lv_goto (tgt := 53) hx hb dX7_stop_41 (by decide) ?_
        subst eF2
        have hG9 : Md D o P S V T (fF_X7_stop P F x y) h H := by
          unfold fF_X7_stop; (try dsimp only); (try rw [if_neg c6, if_pos c22])
          exact hG
        exact W.iret hx hb hr (fun t ht hW => gQi_of (by unfold fR_X7_stop; (try dsimp only); (try rw [if_neg c6, if_pos c22]); (try rfl)) hG9 hS ht) hS.2.2 dX7_stop_53
    · refine lv_iconst (v := 0) hx hb dX7_stop_25 (by decide) ?_
      refine lv_goto (tgt := 30) hx hb dX7_stop_26 (by decide) ?_
      refine putM 6 hx hb hts hown hK hG hS hA (by decide) qF_X7_26 rfl dX7_stop_30 (fun H locs hG hS => ?_)
      generalize eF3 : upd F 6 0 = F3 at hG
      refine lv_aload_n hx hb dX7_stop_33 rfl (lv_at hl 0 rfl) ?_
      refine getM 6 hx hb hts hown hK hG (by decide) qF_X7_26 rfl dX7_stop_34 ?_
      refine topE (y := 0) (by rw [← eF3, upd_s]) ?_
      refine lv_if_eq (tgt := 44) hx hb dX7_stop_37 (by decide) (fun c37 => ?_) (fun c37 => ?_)
      · refine lv_aload_n hx hb dX7_stop_44 rfl (lv_at hl 0 rfl) ?_
        refine lv_iload_n hx hb dX7_stop_45 rfl (lv_at hl 1 rfl) ?_
        refine topN (n := x.toNatClampNeg) (isPlow_n hN c6).1 ?_
        refine lv_bipush (v := 8) hx hb dX7_stop_46 (by decide) ?_
        refine lv_iload_n hx hb dX7_stop_48 rfl (lv_at hl 2 rfl) ?_
        refine topN (n := y.toNatClampNeg) (in_m1 (hQ _ (isPlow_n hN c6).2).1 (by have := (hQ _ (isPlow_n hN c6).2).2; omega) c22).1 ?_
        refine iaddN (a := 8) (b := y.toNatClampNeg) hx hb dX7_stop_49 ?_
        refine gcVi (As := [.int (nI x.toNatClampNeg), .int (nI (8 + y.toNatClampNeg))]) (rest := []) hx hb hml hown hts hl.1 hK (c_X7_ofPlow l D o P S V T F3 h x.toNatClampNeg (8 + y.toNatClampNeg) (isPlow_3 hN c6) (by have h1 := (in_m1 (hQ _ (isPlow_n hN c6).2).1 (by have := (hQ _ (isPlow_n hN c6).2).2; omega) c22).2; have h2 := (hQ _ (isPlow_n hN c6).2).2; omega)) (gaV qM_X7_58 qI_X7_ofPlow qS_X7_ofPlow qK_X7 qC_X7_ofPlow) hdv_X7_ofPlow ⟨Nat.le_of_ble_eq_true rfl, Nat.le_of_ble_eq_true rfl⟩ hG (hG.recv hK) rfl (Nat.le_of_ble_eq_true rfl) ⟨Nat.zero_le _, Nat.zero_le _⟩ dX7_stop_50 hS hA (fun H locs hG _ _ hS => ?_)
        have hG : Md D o P S V T F3 h H := hG
        subst eF3
        have hG9 : Md D o P S V T (fF_X7_stop P F x y) h H := by
          unfold fF_X7_stop; (try dsimp only); (try rw [if_neg c6, if_neg c22])
          exact hG
        exact W.iret hx hb hr (fun t ht hW => gQi_of (by unfold fR_X7_stop; (try dsimp only); (try rw [if_neg c6, if_neg c22]); (try rfl)) hG9 hS ht) hS.2.2 dX7_stop_53
      · exact absurd c37 (by decide)
theorem hdv_X7_terms : yX7_terms.cls = RX7 ∧ yX7_terms.cls ≠ "java/lang/invoke/MethodHandle" ∧ yX7_terms.cls ≠ "java/lang/invoke/VarHandle" ∧ (parseMethodDescriptor yX7_terms.desc).map (fun d => d.parameters.length) = some 2 := by decide +kernel
def fF_X7_terms (P : Nat → Int32) (F : Nat → Int32) (x : Int32) (y : Int32) : Nat → Int32 :=
  if fR_X7_in x 0 2 = 0 then
    let F3 := upd F 6 1
    F3
  else
    if fR_X7_in y 0 3 = 0 then
      let F1 := upd F 6 2
      F1
    else
      let F2 := upd F 6 0
      F2
def fR_X7_terms (P : Nat → Int32) (F : Nat → Int32) (x : Int32) (y : Int32) : Int32 :=
  if fR_X7_in x 0 2 = 0 then
    0
  else
    if fR_X7_in y 0 3 = 0 then
      0
    else
      P (229 + 4 * x.toNatClampNeg + y.toNatClampNeg)
set_option maxHeartbeats 4000000 in
set_option maxRecDepth 100000 in
theorem c_X7_terms (l : Launch) (D : va_G) (o : Nat) (P S V T F : Nat → Int32) (h : Int64) (x : Int32) (y : Int32) : Met l yX7_terms (wA yX7_terms cX7_terms 3 (some .int)) (rmL 1) (gPc D [.ref o, .int x, .int y] (fun H => Md D o P S V T F h H)) (gQi (inM o) (fR_X7_terms P F x y) (fun H => Md D o P S V T (fF_X7_terms P F x y) h H)) 0 0 (inM o) := by
  refine Met.ofW (cc := cX7_terms) (maxL := 3) (ret := (some .int)) (by decide) rfl ?_
  intro p e s m args below meth c s₁ B hml hv
  obtain ⟨hav, hG, hK⟩ := hv
  have hx := B.exec
  have hb := B.bytes
  have hr := B.returns
  have hts0 := atoms_spec (ws := wA yX7_terms cX7_terms 3 (some .int)) B.pre
  have hts : ∀ w ∈ AW, w.before _ s = true := fun w h => hts0 w (List.mem_cons_of_mem _ h)
  have hown : s.vm.findClass RX7 = some m.cls := findClass_of_methodNamed B.named
  have hlocks := B.notSynchronized
  have hA : ∀ q, (inM o) q → (inM o) q := fun _ h => h
  have hS : va_S (inM o) s.heap s.heap [] := va_S.rf
  have hG : Md D o P S V T F h s.heap := hG
  have hl := lv_entry ([.ref o, .int x, .int y]) (n := 3) (Nat.le_of_ble_eq_true rfl)
  refine W.eq (g2 := entryFrame m ([.ref o, .int x, .int y] : List Value).toArray 3) (by rw [hav]) ?_
  rw [lg_entry_eq]
  generalize (lg_sl ([.ref o, .int x, .int y]) ++ List.replicate (3 - (lg_sl ([.ref o, .int x, .int y])).length) Slot.unset).toArray = ls at hl ⊢
  have hl : lv_has ls 3 [(0, .ref o), (1, .int x), (2, .int y)] := hl
  refine lv_aload_n hx hb dX7_terms_0 rfl (lv_at hl 0 rfl) ?_
  refine lv_iload_n hx hb dX7_terms_1 rfl (lv_at hl 1 rfl) ?_
  refine lv_iconst (v := 0) hx hb dX7_terms_2 (by decide) ?_
  refine lv_iconst (v := 2) hx hb dX7_terms_3 (by decide) ?_
  refine gcSi (As := [.int x, .int 0, .int 2]) (rest := [.ref o]) hx hb hml hown hts hl.1 hK (c_X7_in l D (fun H => Md D o P S V T F h H) x 0 2) (gaS qM_X7_37 qT_X7_in qK_X7 qC_X7_in) hds_X7_in ⟨Nat.le_of_ble_eq_true rfl, Nat.le_of_ble_eq_true rfl⟩ hG rfl (Nat.le_of_ble_eq_true rfl) ⟨Nat.zero_le _, Nat.zero_le _⟩ dX7_terms_4 hS (fun _ (h : noA _) => False.elim h) (fun H locs hG _ _ hS => ?_)
  have hG : Md D o P S V T F h H := hG
  refine lv_if_ne (tgt := 14) hx hb dX7_terms_7 (by decide) (fun c7 => ?_) (fun c7 => ?_)
  · refine lv_iload_n hx hb dX7_terms_14 rfl (lv_at hl 2 rfl) ?_
    refine lv_iconst (v := 0) hx hb dX7_terms_15 (by decide) ?_
    refine lv_iconst (v := 3) hx hb dX7_terms_16 (by decide) ?_
    refine gcSi (As := [.int y, .int 0, .int 3]) (rest := [.ref o]) hx hb hml hown hts hl.1 hK (c_X7_in l D (fun H => Md D o P S V T F h H) y 0 3) (gaS qM_X7_37 qT_X7_in qK_X7 qC_X7_in) hds_X7_in ⟨Nat.le_of_ble_eq_true rfl, Nat.le_of_ble_eq_true rfl⟩ hG rfl (Nat.le_of_ble_eq_true rfl) ⟨Nat.zero_le _, Nat.zero_le _⟩ dX7_terms_17 hS (fun _ (h : noA _) => False.elim h) (fun H locs hG _ _ hS => ?_)
    have hG : Md D o P S V T F h H := hG
    refine lv_if_eq (tgt := 27) hx hb dX7_terms_20 (by decide) (fun c20 => ?_) (fun c20 => ?_)
    · refine lv_iconst (v := 2) hx hb dX7_terms_27 (by decide) ?_
      refine putM 6 hx hb hts hown hK hG hS hA (by decide) qF_X7_26 rfl dX7_terms_28 (fun H locs hG hS => ?_)
      generalize eF1 : upd F 6 2 = F1 at hG
      refine lv_aload_n hx hb dX7_terms_31 rfl (lv_at hl 0 rfl) ?_
      refine getM 6 hx hb hts hown hK hG (by decide) qF_X7_26 rfl dX7_terms_32 ?_
      refine topE (y := 2) (by rw [← eF1, upd_s]) ?_
      refine lv_if_eq (tgt := 42) hx hb dX7_terms_35 (by decide) (fun c35 => ?_) (fun c35 => ?_)
      · exact absurd c35 (by decide)
      · refine lv_iconst (v := 0) hx hb dX7_terms_38 (by decide) ?_
        refine lv_goto (tgt := 56) hx hb dX7_terms_39 (by decide) ?_
        subst eF1
        have hG9 : Md D o P S V T (fF_X7_terms P F x y) h H := by
          unfold fF_X7_terms; (try dsimp only); (try rw [if_neg c7, if_pos c20])
          exact hG
        exact W.iret hx hb hr (fun t ht hW => gQi_of (by unfold fR_X7_terms; (try dsimp only); (try rw [if_neg c7, if_pos c20]); (try rfl)) hG9 hS ht) hS.2.2 dX7_terms_56
    · refine lv_iconst (v := 0) hx hb dX7_terms_23 (by decide) ?_
      refine lv_goto (tgt := 28) hx hb dX7_terms_24 (by decide) ?_
      refine putM 6 hx hb hts hown hK hG hS hA (by decide) qF_X7_26 rfl dX7_terms_28 (fun H locs hG hS => ?_)
      generalize eF2 : upd F 6 0 = F2 at hG
      refine lv_aload_n hx hb dX7_terms_31 rfl (lv_at hl 0 rfl) ?_
      refine getM 6 hx hb hts hown hK hG (by decide) qF_X7_26 rfl dX7_terms_32 ?_
      refine topE (y := 0) (by rw [← eF2, upd_s]) ?_
      refine lv_if_eq (tgt := 42) hx hb dX7_terms_35 (by decide) (fun c35 => ?_) (fun c35 => ?_)
      · refine lv_aload_n hx hb dX7_terms_42 rfl (lv_at hl 0 rfl) ?_
        refine getMm hx hb hts hown hK hG qF_X7_7 dX7_terms_43 ?_
        refine lv_sipush (v := 229) hx hb dX7_terms_46 (by decide) ?_
        refine lv_iconst (v := 4) hx hb dX7_terms_49 (by decide) ?_
        refine lv_iload_n hx hb dX7_terms_50 rfl (lv_at hl 1 rfl) ?_
        refine topN (n := x.toNatClampNeg) (in_n (n := 2) (by decide) c7).1 ?_
        refine imulN (a := 4) (b := x.toNatClampNeg) hx hb dX7_terms_51 ?_
        refine iaddN (a := 229) (b := 4 * x.toNatClampNeg) hx hb dX7_terms_52 ?_
        refine lv_iload_n hx hb dX7_terms_53 rfl (lv_at hl 2 rfl) ?_
        refine topN (n := y.toNatClampNeg) (in_n (n := 3) (by decide) c20).1 ?_
        refine iaddN (a := 229 + 4 * x.toNatClampNeg) (b := y.toNatClampNeg) hx hb dX7_terms_54 ?_
        refine aldMm (k := 229 + 4 * x.toNatClampNeg + y.toNatClampNeg) hx hb hK hG (by have h1 := (in_n (n := 2) (by decide) c7).2; have h2 := (in_n (n := 3) (by decide) c20).2; omega) dX7_terms_55 ?_
        subst eF2
        have hG9 : Md D o P S V T (fF_X7_terms P F x y) h H := by
          unfold fF_X7_terms; (try dsimp only); (try rw [if_neg c7, if_neg c20])
          exact hG
        exact W.iret hx hb hr (fun t ht hW => gQi_of (by unfold fR_X7_terms; (try dsimp only); (try rw [if_neg c7, if_neg c20]); (try rfl)) hG9 hS ht) hS.2.2 dX7_terms_56
      · exact absurd c35 (by decide)
  · refine lv_iconst (v := 1) hx hb dX7_terms_10 (by decide) ?_
    refine lv_goto (tgt := 28) hx hb dX7_terms_11 (by decide) ?_
    refine putM 6 hx hb hts hown hK hG hS hA (by decide) qF_X7_26 rfl dX7_terms_28 (fun H locs hG hS => ?_)
    generalize eF3 : upd F 6 1 = F3 at hG
    refine lv_aload_n hx hb dX7_terms_31 rfl (lv_at hl 0 rfl) ?_
    refine getM 6 hx hb hts hown hK hG (by decide) qF_X7_26 rfl dX7_terms_32 ?_
    refine topE (y := 1) (by rw [← eF3, upd_s]) ?_
    refine lv_if_eq (tgt := 42) hx hb dX7_terms_35 (by decide) (fun c35 => ?_) (fun c35 => ?_)
    · exact absurd c35 (by decide)
    · refine lv_iconst (v := 0) hx hb dX7_terms_38 (by decide) ?_
      refine lv_goto (tgt := 56) hx hb dX7_terms_39 (by decide) ?_
      subst eF3
      have hG9 : Md D o P S V T (fF_X7_terms P F x y) h H := by
        unfold fF_X7_terms; (try dsimp only); (try rw [if_pos c7])
        exact hG
      exact W.iret hx hb hr (fun t ht hW => gQi_of (by unfold fR_X7_terms; (try dsimp only); (try rw [if_pos c7]); (try rfl)) hG9 hS ht) hS.2.2 dX7_terms_56
