theorem hdv_X7_hour : yX7_hour.cls = RX7 ∧ yX7_hour.cls ≠ "java/lang/invoke/MethodHandle" ∧ yX7_hour.cls ≠ "java/lang/invoke/VarHandle" ∧ (parseMethodDescriptor yX7_hour.desc).map (fun d => d.parameters.length) = some 2 := by decide +kernel
def fP_X7_hour_L53 (tmp : Int32) (sn : Int32) : Nat → Int32 → Nat → (Nat → Int32) → Nat → Int32
  | 0, acc, j, Pl =>
    let x1 := (Pl 6) + acc
    let P2 := upd Pl 6 x1
    let x3 := (P2 0) + 1
    let P4 := upd P2 0 x3
    P4
  | k + 1, acc, j, Pl =>
    let P5 := fP_X7_waits Pl j
    let x6 := acc + (fR_X7_waits Pl j)
    fP_X7_hour_L53 tmp sn k x6 (j + 1) P5
def fR_X7_hour_L53 (tmp : Int32) (sn : Int32) : Nat → Int32 → Nat → (Nat → Int32) → Int32
  | 0, acc, j, Pl =>
    acc
  | k + 1, acc, j, Pl =>
    let P5 := fP_X7_waits Pl j
    let x6 := acc + (fR_X7_waits Pl j)
    fR_X7_hour_L53 tmp sn k x6 (j + 1) P5
def fP_X7_hour_L27 (tmp : Int32) (sn : Int32) : Nat → Nat → (Nat → Int32) → Nat → Int32
  | 0, j, Pl =>
    fP_X7_hour_L53 tmp sn (ns Pl) 0 0 Pl
  | k + 1, j, Pl =>
    let P7 := fP_X7_plows Pl j
    fP_X7_hour_L27 tmp sn k (j + 1) P7
def fR_X7_hour_L27 (tmp : Int32) (sn : Int32) : Nat → Nat → (Nat → Int32) → Int32
  | 0, j, Pl =>
    fR_X7_hour_L53 tmp sn (ns Pl) 0 0 Pl
  | k + 1, j, Pl =>
    let P7 := fP_X7_plows Pl j
    fR_X7_hour_L27 tmp sn k (j + 1) P7
def fP_X7_hour_L2 (tmp : Int32) (sn : Int32) : Nat → Nat → (Nat → Int32) → Nat → Int32
  | 0, j, Pl =>
    fP_X7_hour_L27 tmp sn (np Pl) 0 Pl
  | k + 1, j, Pl =>
    let P8 := fP_X7_weather Pl j tmp sn
    fP_X7_hour_L2 tmp sn k (j + 1) P8
def fR_X7_hour_L2 (tmp : Int32) (sn : Int32) : Nat → Nat → (Nat → Int32) → Int32
  | 0, j, Pl =>
    fR_X7_hour_L27 tmp sn (np Pl) 0 Pl
  | k + 1, j, Pl =>
    let P8 := fP_X7_weather Pl j tmp sn
    fR_X7_hour_L2 tmp sn k (j + 1) P8
def fP_X7_hour (P : Nat → Int32) (tmp : Int32) (sn : Int32) : Nat → Int32 :=
  fP_X7_hour_L2 tmp sn (ns P) 0 P
def fR_X7_hour (P : Nat → Int32) (tmp : Int32) (sn : Int32) : Int32 :=
  fR_X7_hour_L2 tmp sn (ns P) 0 P
set_option maxHeartbeats 4000000 in
set_option maxRecDepth 100000 in
theorem c_X7_hour (l : Launch) (D : va_G) (o : Nat) (P S V T F : Nat → Int32) (h : Int64) (tmp : Int32) (sn : Int32) (hw0 : WF P) : Met l yX7_hour (wA yX7_hour cX7_hour 5 (some .int)) (rmL 4) (gPc D [.ref o, .int tmp, .int sn] (fun H => Md D o P S V T F h H)) (gQi (inM o) (fR_X7_hour P tmp sn) (fun H => Md D o (fP_X7_hour P tmp sn) S V T F h H)) 0 0 (inM o) := by
  refine Met.ofW (cc := cX7_hour) (maxL := 5) (ret := (some .int)) (by decide) rfl ?_
  intro p e s m args below meth c s₁ B hml hv
  obtain ⟨hav, hG, hK⟩ := hv
  have hx := B.exec
  have hb := B.bytes
  have hr := B.returns
  have hts0 := atoms_spec (ws := wA yX7_hour cX7_hour 5 (some .int)) B.pre
  have hts : ∀ w ∈ AW, w.before _ s = true := fun w h => hts0 w (List.mem_cons_of_mem _ h)
  have hown : s.vm.findClass RX7 = some m.cls := findClass_of_methodNamed B.named
  have hlocks := B.notSynchronized
  have hA : ∀ q, (inM o) q → (inM o) q := fun _ h => h
  have hS : va_S (inM o) s.heap s.heap [] := va_S.rf
  have hG : Md D o P S V T F h s.heap := hG
  have hl := lv_entry ([.ref o, .int tmp, .int sn]) (n := 5) (Nat.le_of_ble_eq_true rfl)
  refine W.eq (g2 := entryFrame m ([.ref o, .int tmp, .int sn] : List Value).toArray 5) (by rw [hav]) ?_
  rw [lg_entry_eq]
  generalize (lg_sl ([.ref o, .int tmp, .int sn]) ++ List.replicate (5 - (lg_sl ([.ref o, .int tmp, .int sn])).length) Slot.unset).toArray = ls at hl ⊢
  have hl : lv_has ls 5 [(0, .ref o), (1, .int tmp), (2, .int sn)] := hl
  have hn20 := hw0.1.2.1
  have hp3 := hw0.1.2.2.2
  have L53 : ∀ (k : Nat) (acc : Int32) (j : Nat) (Pl : Nat → Int32) (H : Heap) (locs : List Loc) (ls : Array Slot) (hw : WF Pl) (hns : ns Pl = ns P) (hnp : np Pl = np P) (hik : j + k = ns P) (hfP : fP_X7_hour P tmp sn = fP_X7_hour_L53 tmp sn k acc j Pl) (hfR : fR_X7_hour P tmp sn = fR_X7_hour_L53 tmp sn k acc j Pl) (hG : Md D o Pl S V T F h H) (hS : va_S (inM o) s.heap H locs) (hl : lv_has ls 5 [(0, .ref o), (1, .int tmp), (2, .int sn), (3, .int acc), (4, .int (nI j))]), W p l e (headSpec (wA yX7_hour cX7_hour 5 (some .int)) (rmL 4)).room s m args below meth c H locs 0 0 (MQ below (gQi (inM o) (fR_X7_hour P tmp sn) (fun H => Md D o (fP_X7_hour P tmp sn) S V T F h H)) args s 0 0 (inM o)) (F0 m 53 ls []) := by
    intro k
    induction k with
    | zero =>
      intro acc j Pl H locs ls hw hns hnp hik hfP hfR hG hS hl
      refine lv_iload hx hb dX7_hour_53 (lv_at hl 4 rfl) ?_
      refine lv_aload_n hx hb dX7_hour_55 rfl (lv_at hl 0 rfl) ?_
      refine getMm hx hb hts hown hK hG qF_X7_7 dX7_hour_56 ?_
      refine lv_iconst (v := 1) hx hb dX7_hour_59 (by decide) ?_
      refine aldMm (k := 1) hx hb hK hG (by omega) dX7_hour_60 ?_
      refine topN (n := (ns P)) (by rw [← hns]; exact hw.1.1) ?_
      refine lv_icmp_ge (tgt := 79) hx hb dX7_hour_61 (by decide) (fun c61 => ?_) (fun c61 => ?_)
      · have c61 : (ns P) ≤ j := (nI_leI (a := (ns P)) (b := j) (by omega) (by omega)).mp c61
        refine lv_aload_n hx hb dX7_hour_79 rfl (lv_at hl 0 rfl) ?_
        refine getMm hx hb hts hown hK hG qF_X7_7 dX7_hour_80 ?_
        refine lv_bipush (v := 6) hx hb dX7_hour_83 (by decide) ?_
        refine lv_dup2_11 hx hb dX7_hour_85 rfl rfl ?_
        refine aldMm (k := 6) hx hb hK hG (by omega) dX7_hour_86 ?_
        refine lv_iload_n hx hb dX7_hour_87 rfl (lv_at hl 3 rfl) ?_
        refine lv_iadd hx hb dX7_hour_88 ?_
        refine lv_topi (fun x1 ex1 => ?_)
        refine astMm (k := 6) hx hb hK hG hS hA (by omega) dX7_hour_89 (fun H locs hG hS => ?_)
        generalize eP2 : upd Pl 6 x1 = P2 at hG
        refine lv_aload_n hx hb dX7_hour_90 rfl (lv_at hl 0 rfl) ?_
        refine getMm hx hb hts hown hK hG qF_X7_7 dX7_hour_91 ?_
        refine lv_iconst (v := 0) hx hb dX7_hour_94 (by decide) ?_
        refine lv_dup2_11 hx hb dX7_hour_95 rfl rfl ?_
        refine aldMm (k := 0) hx hb hK hG (by omega) dX7_hour_96 ?_
        refine lv_iconst (v := 1) hx hb dX7_hour_97 (by decide) ?_
        refine lv_iadd hx hb dX7_hour_98 ?_
        refine lv_topi (fun x3 ex3 => ?_)
        refine astMm (k := 0) hx hb hK hG hS hA (by omega) dX7_hour_99 (fun H locs hG hS => ?_)
        generalize eP4 : upd P2 0 x3 = P4 at hG
        refine lv_iload_n hx hb dX7_hour_100 rfl (lv_at hl 3 rfl) ?_
        subst eP4
        subst ex3
        subst eP2
        subst ex1
        have hG9 : Md D o (fP_X7_hour P tmp sn) S V T F h H := by
          rw [hfP, fP_X7_hour_L53]; (try dsimp only)
          exact hG
        exact W.iret hx hb hr (fun t ht hW => gQi_of (by rw [hfR, fR_X7_hour_L53]; (try dsimp only); (try rfl)) hG9 hS ht) hS.2.2 dX7_hour_101
      · have c61 : ¬ (ns P) ≤ j := fun h => c61 ((nI_leI (a := (ns P)) (b := j) (by omega) (by omega)).mpr h)
        exfalso; omega
    | succ k ih =>
      intro acc j Pl H locs ls hw hns hnp hik hfP hfR hG hS hl
      refine lv_iload hx hb dX7_hour_53 (lv_at hl 4 rfl) ?_
      refine lv_aload_n hx hb dX7_hour_55 rfl (lv_at hl 0 rfl) ?_
      refine getMm hx hb hts hown hK hG qF_X7_7 dX7_hour_56 ?_
      refine lv_iconst (v := 1) hx hb dX7_hour_59 (by decide) ?_
      refine aldMm (k := 1) hx hb hK hG (by omega) dX7_hour_60 ?_
      refine topN (n := (ns P)) (by rw [← hns]; exact hw.1.1) ?_
      refine lv_icmp_ge (tgt := 79) hx hb dX7_hour_61 (by decide) (fun c61 => ?_) (fun c61 => ?_)
      · have c61 : (ns P) ≤ j := (nI_leI (a := (ns P)) (b := j) (by omega) (by omega)).mp c61
        exfalso; omega
      · have c61 : ¬ (ns P) ≤ j := fun h => c61 ((nI_leI (a := (ns P)) (b := j) (by omega) (by omega)).mpr h)
        refine lv_iload_n hx hb dX7_hour_64 rfl (lv_at hl 3 rfl) ?_
        refine lv_aload_n hx hb dX7_hour_65 rfl (lv_at hl 0 rfl) ?_
        refine lv_iload hx hb dX7_hour_66 (lv_at hl 4 rfl) ?_
        refine gcVi (As := [.int (nI j)]) (rest := [.int acc]) hx hb hml hown hts hl.1 hK (c_X7_waits l D o Pl S V T F h j (by first | assumption | omega) (hw.2.1 _ (by omega))) (gaV qM_X7_93 qI_X7_waits qS_X7_waits qK_X7 qC_X7_waits) hdv_X7_waits ⟨Nat.le_of_ble_eq_true rfl, Nat.le_of_ble_eq_true rfl⟩ hG (hG.recv hK) rfl (Nat.le_of_ble_eq_true rfl) ⟨Nat.zero_le _, Nat.zero_le _⟩ dX7_hour_68 hS hA (fun H locs hG _ _ hS => ?_)
        have hG : Md D o (fP_X7_waits Pl j) S V T F h H := hG
        generalize eP5 : fP_X7_waits Pl j = P5 at hG
        refine lv_iadd hx hb dX7_hour_71 ?_
        refine lv_topi (fun x6 ex6 => ?_)
        refine lv_istore_n (lv' := [(3, .int x6), (0, .ref o), (1, .int tmp), (2, .int sn), (4, .int (nI j))]) hx hb dX7_hour_72 rfl hl (by decide) rfl (fun ls hl => ?_)
        refine lv_iinc (v := nI (j + 1)) (lv' := [(4, .int (nI (j + 1))), (3, .int x6), (0, .ref o), (1, .int tmp), (2, .int sn)]) hx hb dX7_hour_73 hl (k := 4) rfl (nI_add j 1) (by decide) rfl (fun ls hl => ?_)
        refine lv_goto (tgt := 53) hx hb dX7_hour_76 (by decide) ?_
        subst ex6
        subst eP5
        exact ih _ (j + 1) _ _ _ _ (WF_waits (by omega) hw) ((ns_c ns_waits.1).trans hns) ((np_c ns_waits.2).trans hnp) (by first | assumption | omega) (by rw [hfP, fP_X7_hour_L53]; (try dsimp only); (try rfl)) (by rw [hfR, fR_X7_hour_L53]; (try dsimp only); (try rfl)) hG hS (lv_sub hl [2, 3, 4, 1, 0] rfl)
  have L27 : ∀ (k : Nat) (j : Nat) (Pl : Nat → Int32) (H : Heap) (locs : List Loc) (ls : Array Slot) (hw : WF Pl) (hns : ns Pl = ns P) (hnp : np Pl = np P) (hik : j + k = np P) (hfP : fP_X7_hour P tmp sn = fP_X7_hour_L27 tmp sn k j Pl) (hfR : fR_X7_hour P tmp sn = fR_X7_hour_L27 tmp sn k j Pl) (hG : Md D o Pl S V T F h H) (hS : va_S (inM o) s.heap H locs) (hl : lv_has ls 5 [(0, .ref o), (1, .int tmp), (2, .int sn), (3, .int (nI j))]), W p l e (headSpec (wA yX7_hour cX7_hour 5 (some .int)) (rmL 4)).room s m args below meth c H locs 0 0 (MQ below (gQi (inM o) (fR_X7_hour P tmp sn) (fun H => Md D o (fP_X7_hour P tmp sn) S V T F h H)) args s 0 0 (inM o)) (F0 m 27 ls []) := by
    intro k
    induction k with
    | zero =>
      intro j Pl H locs ls hw hns hnp hik hfP hfR hG hS hl
      refine lv_iload_n hx hb dX7_hour_27 rfl (lv_at hl 3 rfl) ?_
      refine lv_aload_n hx hb dX7_hour_28 rfl (lv_at hl 0 rfl) ?_
      refine getMm hx hb hts hown hK hG qF_X7_7 dX7_hour_29 ?_
      refine lv_iconst (v := 2) hx hb dX7_hour_32 (by decide) ?_
      refine aldMm (k := 2) hx hb hK hG (by omega) dX7_hour_33 ?_
      refine topN (n := (np P)) (by rw [← hnp]; exact hw.1.2.2.1) ?_
      refine lv_icmp_ge (tgt := 48) hx hb dX7_hour_34 (by decide) (fun c34 => ?_) (fun c34 => ?_)
      · have c34 : (np P) ≤ j := (nI_leI (a := (np P)) (b := j) (by omega) (by omega)).mp c34
        refine lv_iconst (v := 0) hx hb dX7_hour_48 (by decide) ?_
        refine lv_istore_n (lv' := [(3, .int 0), (0, .ref o), (1, .int tmp), (2, .int sn)]) hx hb dX7_hour_49 rfl hl (by decide) rfl (fun ls hl => ?_)
        refine lv_iconst (v := 0) hx hb dX7_hour_50 (by decide) ?_
        refine lv_istore (lv' := [(4, .int 0), (3, .int 0), (0, .ref o), (1, .int tmp), (2, .int sn)]) hx hb dX7_hour_51 hl (by decide) rfl (fun ls hl => ?_)
        exact L53 (ns Pl) _ 0 _ _ _ _ hw hns hnp (by first | assumption | omega) (by rw [hfP, fP_X7_hour_L27]; (try dsimp only); (try rfl)) (by rw [hfR, fR_X7_hour_L27]; (try dsimp only); (try rfl)) hG hS (lv_sub hl [2, 3, 4, 1, 0] rfl)
      · have c34 : ¬ (np P) ≤ j := fun h => c34 ((nI_leI (a := (np P)) (b := j) (by omega) (by omega)).mpr h)
        exfalso; omega
    | succ k ih =>
      intro j Pl H locs ls hw hns hnp hik hfP hfR hG hS hl
      refine lv_iload_n hx hb dX7_hour_27 rfl (lv_at hl 3 rfl) ?_
      refine lv_aload_n hx hb dX7_hour_28 rfl (lv_at hl 0 rfl) ?_
      refine getMm hx hb hts hown hK hG qF_X7_7 dX7_hour_29 ?_
      refine lv_iconst (v := 2) hx hb dX7_hour_32 (by decide) ?_
      refine aldMm (k := 2) hx hb hK hG (by omega) dX7_hour_33 ?_
      refine topN (n := (np P)) (by rw [← hnp]; exact hw.1.2.2.1) ?_
      refine lv_icmp_ge (tgt := 48) hx hb dX7_hour_34 (by decide) (fun c34 => ?_) (fun c34 => ?_)
      · have c34 : (np P) ≤ j := (nI_leI (a := (np P)) (b := j) (by omega) (by omega)).mp c34
        exfalso; omega
      · have c34 : ¬ (np P) ≤ j := fun h => c34 ((nI_leI (a := (np P)) (b := j) (by omega) (by omega)).mpr h)
        refine lv_aload_n hx hb dX7_hour_37 rfl (lv_at hl 0 rfl) ?_
        refine lv_iload_n hx hb dX7_hour_38 rfl (lv_at hl 3 rfl) ?_
        refine gcVv (As := [.int (nI j)]) (rest := []) hx hb hml hown hts hl.1 hK (c_X7_plows l D o Pl S V T F h j (by first | assumption | omega) (hw.2.2 _ (by omega))) (gaV qM_X7_89 qI_X7_plows qS_X7_plows qK_X7 qC_X7_plows) hdv_X7_plows ⟨Nat.le_of_ble_eq_true rfl, Nat.le_of_ble_eq_true rfl⟩ hG (hG.recv hK) rfl (Nat.le_of_ble_eq_true rfl) ⟨Nat.zero_le _, Nat.zero_le _⟩ dX7_hour_39 hS hA (fun H locs hG _ _ hS => ?_)
        have hG : Md D o (fP_X7_plows Pl j) S V T F h H := hG
        generalize eP7 : fP_X7_plows Pl j = P7 at hG
        refine lv_iinc (v := nI (j + 1)) (lv' := [(3, .int (nI (j + 1))), (0, .ref o), (1, .int tmp), (2, .int sn)]) hx hb dX7_hour_42 hl (k := 3) rfl (nI_add j 1) (by decide) rfl (fun ls hl => ?_)
        refine lv_goto (tgt := 27) hx hb dX7_hour_45 (by decide) ?_
        subst eP7
        exact ih (j + 1) _ _ _ _ (WF_plows (by omega) hw) ((ns_c (ns_plows (by omega) hw).1).trans hns) ((np_c (ns_plows (by omega) hw).2).trans hnp) (by first | assumption | omega) (by rw [hfP, fP_X7_hour_L27]; (try dsimp only); (try rfl)) (by rw [hfR, fR_X7_hour_L27]; (try dsimp only); (try rfl)) hG hS (lv_sub hl [1, 2, 3, 0] rfl)
  have L2 : ∀ (k : Nat) (j : Nat) (Pl : Nat → Int32) (H : Heap) (locs : List Loc) (ls : Array Slot) (hw : WF Pl) (hns : ns Pl = ns P) (hnp : np Pl = np P) (hik : j + k = ns P) (hfP : fP_X7_hour P tmp sn = fP_X7_hour_L2 tmp sn k j Pl) (hfR : fR_X7_hour P tmp sn = fR_X7_hour_L2 tmp sn k j Pl) (hG : Md D o Pl S V T F h H) (hS : va_S (inM o) s.heap H locs) (hl : lv_has ls 5 [(0, .ref o), (1, .int tmp), (2, .int sn), (3, .int (nI j))]), W p l e (headSpec (wA yX7_hour cX7_hour 5 (some .int)) (rmL 4)).room s m args below meth c H locs 0 0 (MQ below (gQi (inM o) (fR_X7_hour P tmp sn) (fun H => Md D o (fP_X7_hour P tmp sn) S V T F h H)) args s 0 0 (inM o)) (F0 m 2 ls []) := by
    intro k
    induction k with
    | zero =>
      intro j Pl H locs ls hw hns hnp hik hfP hfR hG hS hl
      refine lv_iload_n hx hb dX7_hour_2 rfl (lv_at hl 3 rfl) ?_
      refine lv_aload_n hx hb dX7_hour_3 rfl (lv_at hl 0 rfl) ?_
      refine getMm hx hb hts hown hK hG qF_X7_7 dX7_hour_4 ?_
      refine lv_iconst (v := 1) hx hb dX7_hour_7 (by decide) ?_
      refine aldMm (k := 1) hx hb hK hG (by omega) dX7_hour_8 ?_
      refine topN (n := (ns P)) (by rw [← hns]; exact hw.1.1) ?_
      refine lv_icmp_ge (tgt := 25) hx hb dX7_hour_9 (by decide) (fun c9 => ?_) (fun c9 => ?_)
      · have c9 : (ns P) ≤ j := (nI_leI (a := (ns P)) (b := j) (by omega) (by omega)).mp c9
        refine lv_iconst (v := 0) hx hb dX7_hour_25 (by decide) ?_
        refine lv_istore_n (lv' := [(3, .int 0), (0, .ref o), (1, .int tmp), (2, .int sn)]) hx hb dX7_hour_26 rfl hl (by decide) rfl (fun ls hl => ?_)
        exact L27 (np Pl) 0 _ _ _ _ hw hns hnp (by first | assumption | omega) (by rw [hfP, fP_X7_hour_L2]; (try dsimp only); (try rfl)) (by rw [hfR, fR_X7_hour_L2]; (try dsimp only); (try rfl)) hG hS (lv_sub hl [1, 2, 3, 0] rfl)
      · have c9 : ¬ (ns P) ≤ j := fun h => c9 ((nI_leI (a := (ns P)) (b := j) (by omega) (by omega)).mpr h)
        exfalso; omega
    | succ k ih =>
      intro j Pl H locs ls hw hns hnp hik hfP hfR hG hS hl
      refine lv_iload_n hx hb dX7_hour_2 rfl (lv_at hl 3 rfl) ?_
      refine lv_aload_n hx hb dX7_hour_3 rfl (lv_at hl 0 rfl) ?_
      refine getMm hx hb hts hown hK hG qF_X7_7 dX7_hour_4 ?_
      refine lv_iconst (v := 1) hx hb dX7_hour_7 (by decide) ?_
      refine aldMm (k := 1) hx hb hK hG (by omega) dX7_hour_8 ?_
      refine topN (n := (ns P)) (by rw [← hns]; exact hw.1.1) ?_
      refine lv_icmp_ge (tgt := 25) hx hb dX7_hour_9 (by decide) (fun c9 => ?_) (fun c9 => ?_)
      · have c9 : (ns P) ≤ j := (nI_leI (a := (ns P)) (b := j) (by omega) (by omega)).mp c9
        exfalso; omega
      · have c9 : ¬ (ns P) ≤ j := fun h => c9 ((nI_leI (a := (ns P)) (b := j) (by omega) (by omega)).mpr h)
        refine lv_aload_n hx hb dX7_hour_12 rfl (lv_at hl 0 rfl) ?_
        refine lv_iload_n hx hb dX7_hour_13 rfl (lv_at hl 3 rfl) ?_
        refine lv_iload_n hx hb dX7_hour_14 rfl (lv_at hl 1 rfl) ?_
        refine lv_iload_n hx hb dX7_hour_15 rfl (lv_at hl 2 rfl) ?_
        refine gcVv (As := [.int (nI j), .int tmp, .int sn]) (rest := []) hx hb hml hown hts hl.1 hK (c_X7_weather l D o Pl S V T F h j tmp sn (by first | assumption | omega)) (gaV qM_X7_85 qI_X7_weather qS_X7_weather qK_X7 qC_X7_weather) hdv_X7_weather ⟨Nat.le_of_ble_eq_true rfl, Nat.le_of_ble_eq_true rfl⟩ hG (hG.recv hK) rfl (Nat.le_of_ble_eq_true rfl) ⟨Nat.zero_le _, Nat.zero_le _⟩ dX7_hour_16 hS hA (fun H locs hG _ _ hS => ?_)
        have hG : Md D o (fP_X7_weather Pl j tmp sn) S V T F h H := hG
        generalize eP8 : fP_X7_weather Pl j tmp sn = P8 at hG
        refine lv_iinc (v := nI (j + 1)) (lv' := [(3, .int (nI (j + 1))), (0, .ref o), (1, .int tmp), (2, .int sn)]) hx hb dX7_hour_19 hl (k := 3) rfl (nI_add j 1) (by decide) rfl (fun ls hl => ?_)
        refine lv_goto (tgt := 2) hx hb dX7_hour_22 (by decide) ?_
        subst eP8
        exact ih (j + 1) _ _ _ _ (WF_weather (by omega) hw) ((ns_c ns_weather.1).trans hns) ((np_c ns_weather.2).trans hnp) (by first | assumption | omega) (by rw [hfP, fP_X7_hour_L2]; (try dsimp only); (try rfl)) (by rw [hfR, fR_X7_hour_L2]; (try dsimp only); (try rfl)) hG hS (lv_sub hl [1, 2, 3, 0] rfl)
  refine lv_iconst (v := 0) hx hb dX7_hour_0 (by decide) ?_
  refine lv_istore_n (lv' := [(3, .int 0), (0, .ref o), (1, .int tmp), (2, .int sn)]) hx hb dX7_hour_1 rfl hl (by decide) rfl (fun ls hl => ?_)
  exact L2 (ns P) 0 _ _ _ _ hw0 rfl rfl (by first | assumption | omega) (by unfold fP_X7_hour; (try dsimp only); (try rfl)) (by unfold fR_X7_hour; (try dsimp only); (try rfl)) hG hS (lv_sub hl [1, 2, 3, 0] rfl)
