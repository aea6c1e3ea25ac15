theorem hdv_X0_dueStreets : yX0_dueStreets.cls = RX0 ∧ yX0_dueStreets.cls ≠ "java/lang/invoke/MethodHandle" ∧ yX0_dueStreets.cls ≠ "java/lang/invoke/VarHandle" ∧ (parseMethodDescriptor yX0_dueStreets.desc).map (fun d => d.parameters.length) = some 0 := by decide +kernel
def fR_X0_dueStreets_L4 (P : Nat → Int32) : Nat → Int32 → Nat → Int32
  | 0, acc, j =>
    acc
  | k + 1, acc, j =>
    if fR_X0_isDue P j = 0 then
      fR_X0_dueStreets_L4 P k acc (j + 1)
    else
      let x1 := acc + 1
      fR_X0_dueStreets_L4 P k x1 (j + 1)
def fR_X0_dueStreets (P : Nat → Int32) : Int32 :=
  fR_X0_dueStreets_L4 P (ns P) 0 0
set_option maxHeartbeats 4000000 in
set_option maxRecDepth 100000 in
theorem c_X0_dueStreets (l : Launch) (D : va_G) (b : Nat) (P : Nat → Int32) (hw : WF P) : Met l yX0_dueStreets (wA yX0_dueStreets cX0_dueStreets 3 (some .int)) (rmL 1) (gPc D [.ref b] (fun H => Graph D b P H)) (gQi (inG b) (fR_X0_dueStreets P) (fun H => Graph D b P H)) 0 0 (inG b) := by
  refine Met.ofW (cc := cX0_dueStreets) (maxL := 3) (ret := (some .int)) (by decide) rfl ?_
  intro p e s m args below meth c s₁ B hml hv
  obtain ⟨hav, hG, hK⟩ := hv
  have hx := B.exec
  have hb := B.bytes
  have hr := B.returns
  have hts0 := atoms_spec (ws := wA yX0_dueStreets cX0_dueStreets 3 (some .int)) B.pre
  have hts : ∀ w ∈ AW, w.before _ s = true := fun w h => hts0 w (List.mem_cons_of_mem _ h)
  have hown : s.vm.findClass RX0 = some m.cls := findClass_of_methodNamed B.named
  have hlocks := B.notSynchronized
  have hA : ∀ q, (inG b) q → (inG b) q := fun _ h => h
  have hS : va_S (inG b) s.heap s.heap [] := va_S.rf
  have hG : Graph D b P s.heap := hG
  have hl := lv_entry ([.ref b]) (n := 3) (Nat.le_of_ble_eq_true rfl)
  refine W.eq (g2 := entryFrame m ([.ref b] : List Value).toArray 3) (by rw [hav]) ?_
  rw [lg_entry_eq]
  generalize (lg_sl ([.ref b]) ++ List.replicate (3 - (lg_sl ([.ref b])).length) Slot.unset).toArray = ls at hl ⊢
  have hl : lv_has ls 3 [(0, .ref b)] := hl
  have hn20 := hw.1.2.1
  have L4 : ∀ (k : Nat) (acc : Int32) (j : Nat) (H : Heap) (locs : List Loc) (ls : Array Slot) (hik : j + k = ns P) (hfR : fR_X0_dueStreets P = fR_X0_dueStreets_L4 P k acc j) (hG : Graph D b P H) (hS : va_S (inG b) s.heap H locs) (hl : lv_has ls 3 [(0, .ref b), (1, .int acc), (2, .int (nI j))]), W p l e (headSpec (wA yX0_dueStreets cX0_dueStreets 3 (some .int)) (rmL 1)).room s m args below meth c H locs 0 0 (MQ below (gQi (inG b) (fR_X0_dueStreets P) (fun H => Graph D b P H)) args s 0 0 (inG b)) (F0 m 4 ls []) := by
    intro k
    induction k with
    | zero =>
      intro acc j H locs ls hik hfR hG hS hl
      refine lv_iload_n hx hb dX0_dueStreets_4 rfl (lv_at hl 2 rfl) ?_
      refine lv_aload_n hx hb dX0_dueStreets_5 rfl (lv_at hl 0 rfl) ?_
      refine getC 1 1 rfl hx hb hts hown hK hG (by decide) (by decide) (by decide) (by decide) qF_X0_44 rfl dX0_dueStreets_6 ?_
      refine topN (n := (ns P)) hw.1.1 ?_
      refine lv_icmp_ge (tgt := 34) hx hb dX0_dueStreets_9 (by decide) (fun c9 => ?_) (fun c9 => ?_)
      · have c9 : (ns P) ≤ j := (nI_leI (a := (ns P)) (b := j) (by omega) (by omega)).mp c9
        refine lv_iload_n hx hb dX0_dueStreets_34 rfl (lv_at hl 1 rfl) ?_
        have hG9 := hG
        exact W.iret hx hb hr (fun t ht hW => gQi_of (by rw [hfR, fR_X0_dueStreets_L4]; (try dsimp only); (try rfl)) hG9 hS ht) hS.2.2 dX0_dueStreets_35
      · have c9 : ¬ (ns P) ≤ j := fun h => c9 ((nI_leI (a := (ns P)) (b := j) (by omega) (by omega)).mpr h)
        exfalso; omega
    | succ k ih =>
      intro acc j H locs ls hik hfR hG hS hl
      refine lv_iload_n hx hb dX0_dueStreets_4 rfl (lv_at hl 2 rfl) ?_
      refine lv_aload_n hx hb dX0_dueStreets_5 rfl (lv_at hl 0 rfl) ?_
      refine getC 1 1 rfl hx hb hts hown hK hG (by decide) (by decide) (by decide) (by decide) qF_X0_44 rfl dX0_dueStreets_6 ?_
      refine topN (n := (ns P)) hw.1.1 ?_
      refine lv_icmp_ge (tgt := 34) hx hb dX0_dueStreets_9 (by decide) (fun c9 => ?_) (fun c9 => ?_)
      · have c9 : (ns P) ≤ j := (nI_leI (a := (ns P)) (b := j) (by omega) (by omega)).mp c9
        exfalso; omega
      · have c9 : ¬ (ns P) ≤ j := fun h => c9 ((nI_leI (a := (ns P)) (b := j) (by omega) (by omega)).mpr h)
        refine lv_aload_n hx hb dX0_dueStreets_12 rfl (lv_at hl 0 rfl) ?_
        refine lv_aload_n hx hb dX0_dueStreets_13 rfl (lv_at hl 0 rfl) ?_
        refine getCs hx hb hts hown hK hG qF_X0_11 dX0_dueStreets_14 ?_
        refine lv_iload_n hx hb dX0_dueStreets_17 rfl (lv_at hl 2 rfl) ?_
        refine aldS (i := j) hx hb hK hG (by omega) dX0_dueStreets_18 ?_
        refine gcVi (As := [.ref (b + 4 + j)]) (rest := []) hx hb hml hown hts hl.1 hK (c_X0_isDue l D b P j (by first | assumption | omega) (hw.2.1 _ (by omega))) (gaV qM_X0_94 qI_X0_isDue qS_X0_isDue qK_X0 qC_X0_isDue) hdv_X0_isDue ⟨Nat.le_of_ble_eq_true rfl, Nat.le_of_ble_eq_true rfl⟩ hG (hG.recvC hK) rfl (Nat.le_of_ble_eq_true rfl) ⟨Nat.zero_le _, Nat.zero_le _⟩ dX0_dueStreets_19 hS hA (fun H locs hG _ _ hS => ?_)
        have hG : Graph D b P H := hG
        refine lv_if_eq (tgt := 28) hx hb dX0_dueStreets_22 (by decide) (fun c22 => ?_) (fun c22 => ?_)
        · refine lv_iinc (v := nI (j + 1)) (lv' := [(2, .int (nI (j + 1))), (0, .ref b), (1, .int acc)]) hx hb dX0_dueStreets_28 hl (k := 2) rfl (nI_add j 1) (by decide) rfl (fun ls hl => ?_)
          refine lv_goto (tgt := 4) hx hb dX0_dueStreets_31 (by decide) ?_
          exact ih _ (j + 1) _ _ _ (by first | assumption | omega) (by rw [hfR, fR_X0_dueStreets_L4]; (try dsimp only); (try rw [if_pos c22]); (try rfl)) hG hS (lv_sub hl [1, 2, 0] rfl)
        · obtain ⟨x1, ex1⟩ : ∃ z : Int32, z = acc + 1 := ⟨_, rfl⟩
          refine lv_iinc (v := x1) (lv' := [(1, .int x1), (0, .ref b), (2, .int (nI j))]) hx hb dX0_dueStreets_25 hl (k := 1) rfl (by rw [ex1]; rfl) (by decide) rfl (fun ls hl => ?_)
          refine lv_iinc (v := nI (j + 1)) (lv' := [(2, .int (nI (j + 1))), (1, .int x1), (0, .ref b)]) hx hb dX0_dueStreets_28 hl (k := 2) rfl (nI_add j 1) (by decide) rfl (fun ls hl => ?_)
          refine lv_goto (tgt := 4) hx hb dX0_dueStreets_31 (by decide) ?_
          subst ex1
          exact ih _ (j + 1) _ _ _ (by first | assumption | omega) (by rw [hfR, fR_X0_dueStreets_L4]; (try dsimp only); (try rw [if_neg c22]); (try rfl)) hG hS (lv_sub hl [2, 1, 0] rfl)
  refine lv_iconst (v := 0) hx hb dX0_dueStreets_0 (by decide) ?_
  refine lv_istore_n (lv' := [(1, .int 0), (0, .ref b)]) hx hb dX0_dueStreets_1 rfl hl (by decide) rfl (fun ls hl => ?_)
  refine lv_iconst (v := 0) hx hb dX0_dueStreets_2 (by decide) ?_
  refine lv_istore_n (lv' := [(2, .int 0), (1, .int 0), (0, .ref b)]) hx hb dX0_dueStreets_3 rfl hl (by decide) rfl (fun ls hl => ?_)
  exact L4 (ns P) _ 0 _ _ _ (by first | assumption | omega) (by unfold fR_X0_dueStreets; (try dsimp only); (try rfl)) hG hS (lv_sub hl [2, 1, 0] rfl)
theorem hdv_X0_passHour : yX0_passHour.cls = RX0 ∧ yX0_passHour.cls ≠ "java/lang/invoke/MethodHandle" ∧ yX0_passHour.cls ≠ "java/lang/invoke/VarHandle" ∧ (parseMethodDescriptor yX0_passHour.desc).map (fun d => d.parameters.length) = some 2 := by decide +kernel
def fP_X0_passHour_L67 (tmp : Int32) (sn : Int32) : Nat → Nat → (Nat → Int32) → Nat → Int32
  | 0, j, Pl =>
    let x1 := (Pl 0) + 1
    let P2 := upd Pl 0 x1
    P2
  | k + 1, j, Pl =>
    let P3 := fP_X0_letWait Pl j
    fP_X0_passHour_L67 tmp sn k (j + 1) P3
def fP_X0_passHour_L29 (tmp : Int32) (sn : Int32) : Nat → Nat → (Nat → Int32) → Nat → Int32
  | 0, j, Pl =>
    fP_X0_passHour_L67 tmp sn (ns Pl) 0 Pl
  | k + 1, j, Pl =>
    if Pl (169 + 20 * j + 3) ≤ 0 then
      fP_X0_passHour_L29 tmp sn k (j + 1) Pl
    else
      let P4 := fP_X0_letWork Pl j
      fP_X0_passHour_L29 tmp sn k (j + 1) P4
def fP_X0_passHour_L2 (tmp : Int32) (sn : Int32) : Nat → Nat → (Nat → Int32) → Nat → Int32
  | 0, j, Pl =>
    fP_X0_passHour_L29 tmp sn (np Pl) 0 Pl
  | k + 1, j, Pl =>
    let P5 := fP_X3_takeWeather Pl j tmp sn
    fP_X0_passHour_L2 tmp sn k (j + 1) P5
def fP_X0_passHour (P : Nat → Int32) (tmp : Int32) (sn : Int32) : Nat → Int32 :=
  fP_X0_passHour_L2 tmp sn (ns P) 0 P
set_option maxHeartbeats 4000000 in
set_option maxRecDepth 100000 in
theorem c_X0_passHour (l : Launch) (D : va_G) (b : Nat) (P : Nat → Int32) (tmp : Int32) (sn : Int32) (hw0 : WF P) : Met l yX0_passHour (wA yX0_passHour cX0_passHour 4 none) (rmL 3) (gPc D [.ref b, .int tmp, .int sn] (fun H => Graph D b P H)) (gQv (inG b) (fun H => Graph D b (fP_X0_passHour P tmp sn) H)) 0 0 (inG b) := by
  refine Met.ofW (cc := cX0_passHour) (maxL := 4) (ret := none) (by decide) rfl ?_
  intro p e s m args below meth c s₁ B hml hv
  obtain ⟨hav, hG, hK⟩ := hv
  have hx := B.exec
  have hb := B.bytes
  have hr := B.returns
  have hts0 := atoms_spec (ws := wA yX0_passHour cX0_passHour 4 none) B.pre
  have hts : ∀ w ∈ AW, w.before _ s = true := fun w h => hts0 w (List.mem_cons_of_mem _ h)
  have hown : s.vm.findClass RX0 = some m.cls := findClass_of_methodNamed B.named
  have hlocks := B.notSynchronized
  have hA : ∀ q, (inG b) q → (inG b) q := fun _ h => h
  have hS : va_S (inG b) s.heap s.heap [] := va_S.rf
  have hG : Graph D b P s.heap := hG
  have hl := lv_entry ([.ref b, .int tmp, .int sn]) (n := 4) (Nat.le_of_ble_eq_true rfl)
  refine W.eq (g2 := entryFrame m ([.ref b, .int tmp, .int sn] : List Value).toArray 4) (by rw [hav]) ?_
  rw [lg_entry_eq]
  generalize (lg_sl ([.ref b, .int tmp, .int sn]) ++ List.replicate (4 - (lg_sl ([.ref b, .int tmp, .int sn])).length) Slot.unset).toArray = ls at hl ⊢
  have hl : lv_has ls 4 [(0, .ref b), (1, .int tmp), (2, .int sn)] := hl
  have hn20 := hw0.1.2.1
  have hp3 := hw0.1.2.2.2
  have L67 : ∀ (k : Nat) (j : Nat) (Pl : Nat → Int32) (H : Heap) (locs : List Loc) (ls : Array Slot) (hw : WF Pl) (hns : ns Pl = ns P) (hnp : np Pl = np P) (hik : j + k = ns P) (hfP : fP_X0_passHour P tmp sn = fP_X0_passHour_L67 tmp sn k j Pl) (hG : Graph D b Pl H) (hS : va_S (inG b) s.heap H locs) (hl : lv_has ls 4 [(0, .ref b), (1, .int tmp), (2, .int sn), (3, .int (nI j))]), W p l e (headSpec (wA yX0_passHour cX0_passHour 4 none) (rmL 3)).room s m args below meth c H locs 0 0 (MQ below (gQv (inG b) (fun H => Graph D b (fP_X0_passHour P tmp sn) H)) args s 0 0 (inG b)) (F0 m 67 ls []) := by
    intro k
    induction k with
    | zero =>
      intro j Pl H locs ls hw hns hnp hik hfP hG hS hl
      refine lv_iload_n hx hb dX0_passHour_67 rfl (lv_at hl 3 rfl) ?_
      refine lv_aload_n hx hb dX0_passHour_68 rfl (lv_at hl 0 rfl) ?_
      refine getC 1 1 rfl hx hb hts hown hK hG (by decide) (by decide) (by decide) (by decide) qF_X0_44 rfl dX0_passHour_69 ?_
      refine topN (n := (ns P)) (by rw [← hns]; exact hw.1.1) ?_
      refine lv_icmp_ge (tgt := 91) hx hb dX0_passHour_72 (by decide) (fun c72 => ?_) (fun c72 => ?_)
      · have c72 : (ns P) ≤ j := (nI_leI (a := (ns P)) (b := j) (by omega) (by omega)).mp c72
        refine lv_aload_n hx hb dX0_passHour_91 rfl (lv_at hl 0 rfl) ?_
        refine lv_dup hx hb dX0_passHour_92 rfl ?_
        refine getC 5 0 rfl hx hb hts hown hK hG (by decide) (by decide) (by decide) (by decide) qF_X0_60 rfl dX0_passHour_93 ?_
        refine lv_iconst (v := 1) hx hb dX0_passHour_96 (by decide) ?_
        refine lv_iadd hx hb dX0_passHour_97 ?_
        refine lv_topi (fun x1 ex1 => ?_)
        refine putC 5 0 rfl hx hb hts hown hK hG hS hA (by decide) (by decide) (by decide) (by decide) qF_X0_60 rfl dX0_passHour_98 (fun H locs hG hS => ?_)
        generalize eP2 : upd Pl 0 x1 = P2 at hG
        subst eP2
        subst ex1
        have hG9 : Graph D b (fP_X0_passHour P tmp sn) H := by
          rw [hfP, fP_X0_passHour_L67]; (try dsimp only)
          exact hG
        exact W.vret hx hb hr (fun t ht hW => gQv_of hG9 hS ht) hS.2.2 dX0_passHour_101
      · have c72 : ¬ (ns P) ≤ j := fun h => c72 ((nI_leI (a := (ns P)) (b := j) (by omega) (by omega)).mpr h)
        exfalso; omega
    | succ k ih =>
      intro j Pl H locs ls hw hns hnp hik hfP hG hS hl
      refine lv_iload_n hx hb dX0_passHour_67 rfl (lv_at hl 3 rfl) ?_
      refine lv_aload_n hx hb dX0_passHour_68 rfl (lv_at hl 0 rfl) ?_
      refine getC 1 1 rfl hx hb hts hown hK hG (by decide) (by decide) (by decide) (by decide) qF_X0_44 rfl dX0_passHour_69 ?_
      refine topN (n := (ns P)) (by rw [← hns]; exact hw.1.1) ?_
      refine lv_icmp_ge (tgt := 91) hx hb dX0_passHour_72 (by decide) (fun c72 => ?_) (fun c72 => ?_)
      · have c72 : (ns P) ≤ j := (nI_leI (a := (ns P)) (b := j) (by omega) (by omega)).mp c72
        exfalso; omega
      · have c72 : ¬ (ns P) ≤ j := fun h => c72 ((nI_leI (a := (ns P)) (b := j) (by omega) (by omega)).mpr h)
        refine lv_aload_n hx hb dX0_passHour_75 rfl (lv_at hl 0 rfl) ?_
        refine lv_aload_n hx hb dX0_passHour_76 rfl (lv_at hl 0 rfl) ?_
        refine getCs hx hb hts hown hK hG qF_X0_11 dX0_passHour_77 ?_
        refine lv_iload_n hx hb dX0_passHour_80 rfl (lv_at hl 3 rfl) ?_
        refine aldS (i := j) hx hb hK hG (by omega) dX0_passHour_81 ?_
        refine gcVv (As := [.ref (b + 4 + j)]) (rest := []) hx hb hml hown hts hl.1 hK (c_X0_letWait l D b Pl j (by first | assumption | omega) (hw.2.1 _ (by omega))) (gaV qM_X0_122 qI_X0_letWait qS_X0_letWait qK_X0 qC_X0_letWait) hdv_X0_letWait ⟨Nat.le_of_ble_eq_true rfl, Nat.le_of_ble_eq_true rfl⟩ hG (hG.recvC hK) rfl (Nat.le_of_ble_eq_true rfl) ⟨Nat.zero_le _, Nat.zero_le _⟩ dX0_passHour_82 hS hA (fun H locs hG _ _ hS => ?_)
        have hG : Graph D b (fP_X0_letWait Pl j) H := hG
        generalize eP3 : fP_X0_letWait Pl j = P3 at hG
        refine lv_iinc (v := nI (j + 1)) (lv' := [(3, .int (nI (j + 1))), (0, .ref b), (1, .int tmp), (2, .int sn)]) hx hb dX0_passHour_85 hl (k := 3) rfl (nI_add j 1) (by decide) rfl (fun ls hl => ?_)
        refine lv_goto (tgt := 67) hx hb dX0_passHour_88 (by decide) ?_
        subst eP3
        exact ih (j + 1) _ _ _ _ (WF_letWait (by omega) hw) ((ns_c ns_letWait.1).trans hns) ((np_c ns_letWait.2).trans hnp) (by first | assumption | omega) (by rw [hfP, fP_X0_passHour_L67]; (try dsimp only); (try rfl)) hG hS (lv_sub hl [1, 2, 3, 0] rfl)
  have L29 : ∀ (k : Nat) (j : Nat) (Pl : Nat → Int32) (H : Heap) (locs : List Loc) (ls : Array Slot) (hw : WF Pl) (hns : ns Pl = ns P) (hnp : np Pl = np P) (hik : j + k = np P) (hfP : fP_X0_passHour P tmp sn = fP_X0_passHour_L29 tmp sn k j Pl) (hG : Graph D b Pl H) (hS : va_S (inG b) s.heap H locs) (hl : lv_has ls 4 [(0, .ref b), (1, .int tmp), (2, .int sn), (3, .int (nI j))]), W p l e (headSpec (wA yX0_passHour cX0_passHour 4 none) (rmL 3)).room s m args below meth c H locs 0 0 (MQ below (gQv (inG b) (fun H => Graph D b (fP_X0_passHour P tmp sn) H)) args s 0 0 (inG b)) (F0 m 29 ls []) := by
    intro k
    induction k with
    | zero =>
      intro j Pl H locs ls hw hns hnp hik hfP hG hS hl
      refine lv_iload_n hx hb dX0_passHour_29 rfl (lv_at hl 3 rfl) ?_
      refine lv_aload_n hx hb dX0_passHour_30 rfl (lv_at hl 0 rfl) ?_
      refine getC 3 2 rfl hx hb hts hown hK hG (by decide) (by decide) (by decide) (by decide) qF_X0_51 rfl dX0_passHour_31 ?_
      refine topN (n := (np P)) (by rw [← hnp]; exact hw.1.2.2.1) ?_
      refine lv_icmp_ge (tgt := 65) hx hb dX0_passHour_34 (by decide) (fun c34 => ?_) (fun c34 => ?_)
      · have c34 : (np P) ≤ j := (nI_leI (a := (np P)) (b := j) (by omega) (by omega)).mp c34
        refine lv_iconst (v := 0) hx hb dX0_passHour_65 (by decide) ?_
        refine lv_istore_n (lv' := [(3, .int 0), (0, .ref b), (1, .int tmp), (2, .int sn)]) hx hb dX0_passHour_66 rfl hl (by decide) rfl (fun ls hl => ?_)
        exact L67 (ns Pl) 0 _ _ _ _ hw hns hnp (by first | assumption | omega) (by rw [hfP, fP_X0_passHour_L29]; (try dsimp only); (try rfl)) hG hS (lv_sub hl [1, 2, 3, 0] rfl)
      · have c34 : ¬ (np P) ≤ j := fun h => c34 ((nI_leI (a := (np P)) (b := j) (by omega) (by omega)).mpr h)
        exfalso; omega
    | succ k ih =>
      intro j Pl H locs ls hw hns hnp hik hfP hG hS hl
      refine lv_iload_n hx hb dX0_passHour_29 rfl (lv_at hl 3 rfl) ?_
      refine lv_aload_n hx hb dX0_passHour_30 rfl (lv_at hl 0 rfl) ?_
      refine getC 3 2 rfl hx hb hts hown hK hG (by decide) (by decide) (by decide) (by decide) qF_X0_51 rfl dX0_passHour_31 ?_
      refine topN (n := (np P)) (by rw [← hnp]; exact hw.1.2.2.1) ?_
      refine lv_icmp_ge (tgt := 65) hx hb dX0_passHour_34 (by decide) (fun c34 => ?_) (fun c34 => ?_)
      · have c34 : (np P) ≤ j := (nI_leI (a := (np P)) (b := j) (by omega) (by omega)).mp c34
        exfalso; omega
      · have c34 : ¬ (np P) ≤ j := fun h => c34 ((nI_leI (a := (np P)) (b := j) (by omega) (by omega)).mpr h)
        refine lv_aload_n hx hb dX0_passHour_37 rfl (lv_at hl 0 rfl) ?_
        refine getCp hx hb hts hown hK hG qF_X0_19 dX0_passHour_38 ?_
        refine lv_iload_n hx hb dX0_passHour_41 rfl (lv_at hl 3 rfl) ?_
        refine aldP (i := j) hx hb hK hG (by omega) dX0_passHour_42 ?_
        refine getP 4 3 (i := j) rfl hx hb hts hown hK hG (by omega) (by decide) (by decide) qF_X0_116 rfl dX0_passHour_43 ?_
        refine lv_if_le (tgt := 59) hx hb dX0_passHour_46 (by decide) (fun c46 => ?_) (fun c46 => ?_)
        · refine lv_iinc (v := nI (j + 1)) (lv' := [(3, .int (nI (j + 1))), (0, .ref b), (1, .int tmp), (2, .int sn)]) hx hb dX0_passHour_59 hl (k := 3) rfl (nI_add j 1) (by decide) rfl (fun ls hl => ?_)
          refine lv_goto (tgt := 29) hx hb dX0_passHour_62 (by decide) ?_
          exact ih (j + 1) _ _ _ _ (by first | exact hw | exact WF_letWork (by omega) c46 hw) (by first | exact hns | exact (ns_c (ns_letWork (by omega) c46 hw).1).trans hns) (by first | exact hnp | exact (np_c (ns_letWork (by omega) c46 hw).2).trans hnp) (by first | assumption | omega) (by rw [hfP, fP_X0_passHour_L29]; (try dsimp only); (try rw [if_pos c46]); (try rfl)) hG hS (lv_sub hl [1, 2, 3, 0] rfl)
        · refine lv_aload_n hx hb dX0_passHour_49 rfl (lv_at hl 0 rfl) ?_
          refine lv_aload_n hx hb dX0_passHour_50 rfl (lv_at hl 0 rfl) ?_
          refine getCp hx hb hts hown hK hG qF_X0_19 dX0_passHour_51 ?_
          refine lv_iload_n hx hb dX0_passHour_54 rfl (lv_at hl 3 rfl) ?_
          refine aldP (i := j) hx hb hK hG (by omega) dX0_passHour_55 ?_
          refine gcVv (As := [.ref (b + 24 + 2 * j)]) (rest := []) hx hb hml hown hts hl.1 hK (c_X0_letWork l D b Pl j (by first | assumption | omega) (hw.2.2 _ (by omega) c46)) (gaV qM_X0_119 qI_X0_letWork qS_X0_letWork qK_X0 qC_X0_letWork) hdv_X0_letWork ⟨Nat.le_of_ble_eq_true rfl, Nat.le_of_ble_eq_true rfl⟩ hG (hG.recvC hK) rfl (Nat.le_of_ble_eq_true rfl) ⟨Nat.zero_le _, Nat.zero_le _⟩ dX0_passHour_56 hS hA (fun H locs hG _ _ hS => ?_)
          have hG : Graph D b (fP_X0_letWork Pl j) H := hG
          generalize eP4 : fP_X0_letWork Pl j = P4 at hG
          refine lv_iinc (v := nI (j + 1)) (lv' := [(3, .int (nI (j + 1))), (0, .ref b), (1, .int tmp), (2, .int sn)]) hx hb dX0_passHour_59 hl (k := 3) rfl (nI_add j 1) (by decide) rfl (fun ls hl => ?_)
          refine lv_goto (tgt := 29) hx hb dX0_passHour_62 (by decide) ?_
          subst eP4
          exact ih (j + 1) _ _ _ _ (by first | exact hw | exact WF_letWork (by omega) c46 hw) (by first | exact hns | exact (ns_c (ns_letWork (by omega) c46 hw).1).trans hns) (by first | exact hnp | exact (np_c (ns_letWork (by omega) c46 hw).2).trans hnp) (by first | assumption | omega) (by rw [hfP, fP_X0_passHour_L29]; (try dsimp only); (try rw [if_neg c46]); (try rfl)) hG hS (lv_sub hl [1, 2, 3, 0] rfl)
  have L2 : ∀ (k : Nat) (j : Nat) (Pl : Nat → Int32) (H : Heap) (locs : List Loc) (ls : Array Slot) (hw : WF Pl) (hns : ns Pl = ns P) (hnp : np Pl = np P) (hik : j + k = ns P) (hfP : fP_X0_passHour P tmp sn = fP_X0_passHour_L2 tmp sn k j Pl) (hG : Graph D b Pl H) (hS : va_S (inG b) s.heap H locs) (hl : lv_has ls 4 [(0, .ref b), (1, .int tmp), (2, .int sn), (3, .int (nI j))]), W p l e (headSpec (wA yX0_passHour cX0_passHour 4 none) (rmL 3)).room s m args below meth c H locs 0 0 (MQ below (gQv (inG b) (fun H => Graph D b (fP_X0_passHour P tmp sn) H)) args s 0 0 (inG b)) (F0 m 2 ls []) := by
    intro k
    induction k with
    | zero =>
      intro j Pl H locs ls hw hns hnp hik hfP hG hS hl
      refine lv_iload_n hx hb dX0_passHour_2 rfl (lv_at hl 3 rfl) ?_
      refine lv_aload_n hx hb dX0_passHour_3 rfl (lv_at hl 0 rfl) ?_
      refine getC 1 1 rfl hx hb hts hown hK hG (by decide) (by decide) (by decide) (by decide) qF_X0_44 rfl dX0_passHour_4 ?_
      refine topN (n := (ns P)) (by rw [← hns]; exact hw.1.1) ?_
      refine lv_icmp_ge (tgt := 27) hx hb dX0_passHour_7 (by decide) (fun c7 => ?_) (fun c7 => ?_)
      · have c7 : (ns P) ≤ j := (nI_leI (a := (ns P)) (b := j) (by omega) (by omega)).mp c7
        refine lv_iconst (v := 0) hx hb dX0_passHour_27 (by decide) ?_
        refine lv_istore_n (lv' := [(3, .int 0), (0, .ref b), (1, .int tmp), (2, .int sn)]) hx hb dX0_passHour_28 rfl hl (by decide) rfl (fun ls hl => ?_)
        exact L29 (np Pl) 0 _ _ _ _ hw hns hnp (by first | assumption | omega) (by rw [hfP, fP_X0_passHour_L2]; (try dsimp only); (try rfl)) hG hS (lv_sub hl [1, 2, 3, 0] rfl)
      · have c7 : ¬ (ns P) ≤ j := fun h => c7 ((nI_leI (a := (ns P)) (b := j) (by omega) (by omega)).mpr h)
        exfalso; omega
    | succ k ih =>
      intro j Pl H locs ls hw hns hnp hik hfP hG hS hl
      refine lv_iload_n hx hb dX0_passHour_2 rfl (lv_at hl 3 rfl) ?_
      refine lv_aload_n hx hb dX0_passHour_3 rfl (lv_at hl 0 rfl) ?_
      refine getC 1 1 rfl hx hb hts hown hK hG (by decide) (by decide) (by decide) (by decide) qF_X0_44 rfl dX0_passHour_4 ?_
      refine topN (n := (ns P)) (by rw [← hns]; exact hw.1.1) ?_
      refine lv_icmp_ge (tgt := 27) hx hb dX0_passHour_7 (by decide) (fun c7 => ?_) (fun c7 => ?_)
      · have c7 : (ns P) ≤ j := (nI_leI (a := (ns P)) (b := j) (by omega) (by omega)).mp c7
        exfalso; omega
      · have c7 : ¬ (ns P) ≤ j := fun h => c7 ((nI_leI (a := (ns P)) (b := j) (by omega) (by omega)).mpr h)
        refine lv_aload_n hx hb dX0_passHour_10 rfl (lv_at hl 0 rfl) ?_
        refine getCs hx hb hts hown hK hG qF_X0_11 dX0_passHour_11 ?_
        refine lv_iload_n hx hb dX0_passHour_14 rfl (lv_at hl 3 rfl) ?_
        refine aldS (i := j) hx hb hK hG (by omega) dX0_passHour_15 ?_
        refine lv_iload_n hx hb dX0_passHour_16 rfl (lv_at hl 1 rfl) ?_
        refine lv_iload_n hx hb dX0_passHour_17 rfl (lv_at hl 2 rfl) ?_
        refine gcVv (As := [.int tmp, .int sn]) (rest := []) hx hb hml hown hts hl.1 hK (c_X3_takeWeather l D b Pl j tmp sn (by first | assumption | omega)) (gaV qM_X0_113 qI_X3_takeWeather qS_X3_takeWeather qK_X3 qC_X3_takeWeather) hdv_X3_takeWeather ⟨Nat.le_of_ble_eq_true rfl, Nat.le_of_ble_eq_true rfl⟩ hG (hG.recvS hK (by omega)) rfl (Nat.le_of_ble_eq_true rfl) ⟨Nat.zero_le _, Nat.zero_le _⟩ dX0_passHour_18 hS hA (fun H locs hG _ _ hS => ?_)
        have hG : Graph D b (fP_X3_takeWeather Pl j tmp sn) H := hG
        generalize eP5 : fP_X3_takeWeather Pl j tmp sn = P5 at hG
        refine lv_iinc (v := nI (j + 1)) (lv' := [(3, .int (nI (j + 1))), (0, .ref b), (1, .int tmp), (2, .int sn)]) hx hb dX0_passHour_21 hl (k := 3) rfl (nI_add j 1) (by decide) rfl (fun ls hl => ?_)
        refine lv_goto (tgt := 2) hx hb dX0_passHour_24 (by decide) ?_
        subst eP5
        exact ih (j + 1) _ _ _ _ (WF_takeWeather (by omega) hw) ((ns_c ns_takeWeather.1).trans hns) ((np_c ns_takeWeather.2).trans hnp) (by first | assumption | omega) (by rw [hfP, fP_X0_passHour_L2]; (try dsimp only); (try rfl)) hG hS (lv_sub hl [1, 2, 3, 0] rfl)
  refine lv_iconst (v := 0) hx hb dX0_passHour_0 (by decide) ?_
  refine lv_istore_n (lv' := [(3, .int 0), (0, .ref b), (1, .int tmp), (2, .int sn)]) hx hb dX0_passHour_1 rfl hl (by decide) rfl (fun ls hl => ?_)
  exact L2 (ns P) 0 _ _ _ _ hw0 rfl rfl (by first | assumption | omega) (by unfold fP_X0_passHour; (try dsimp only); (try rfl)) hG hS (lv_sub hl [1, 2, 3, 0] rfl)
