theorem hdv_X0_copyFrom : yX0_copyFrom.cls = RX0 ∧ yX0_copyFrom.cls ≠ "java/lang/invoke/MethodHandle" ∧ yX0_copyFrom.cls ≠ "java/lang/invoke/VarHandle" ∧ (parseMethodDescriptor yX0_copyFrom.desc).map (fun d => d.parameters.length) = some 1 := by decide +kernel
def fP_X0_copyFrom_L80 (O : Nat → Int32) : Nat → Nat → (Nat → Int32) → Nat → Int32
  | 0, j, Pl =>
    let x3 := O 0
    let P4 := upd Pl 0 x3
    let x5 := O 3
    let P6 := upd P4 3 x5
    let x7 := O 4
    let P8 := upd P6 4 x7
    let x9 := O 6
    let P10 := upd P8 6 x9
    let x11 := O 7
    let P12 := upd P10 7 x11
    let x13 := O 8
    let P14 := upd P12 8 x13
    P14
  | k + 1, j, Pl =>
    let P15 := fP_X4_copyFrom Pl O j j
    fP_X0_copyFrom_L80 O k (j + 1) P15
def fP_X0_copyFrom_L49 (O : Nat → Int32) : Nat → Nat → (Nat → Int32) → Nat → Int32
  | 0, j, Pl =>
    fP_X0_copyFrom_L80 O 3 0 Pl
  | k + 1, j, Pl =>
    let P16 := fP_X1_copyFrom Pl O j j
    fP_X0_copyFrom_L49 O k (j + 1) P16
def fP_X0_copyFrom_L10 (O : Nat → Int32) : Nat → Nat → (Nat → Int32) → Nat → Int32
  | 0, j, Pl =>
    let P2 := upd Pl 2 (nI (np O))
    fP_X0_copyFrom_L49 O (np O) 0 P2
  | k + 1, j, Pl =>
    let P17 := fP_X3_copyFrom Pl O j j
    fP_X0_copyFrom_L10 O k (j + 1) P17
def fP_X0_copyFrom (P : Nat → Int32) (O : Nat → Int32) : Nat → Int32 :=
  let P1 := upd P 1 (nI (ns O))
  fP_X0_copyFrom_L10 O (ns O) 0 P1
set_option maxHeartbeats 4000000 in
set_option maxRecDepth 100000 in
theorem c_X0_copyFrom (l : Launch) (D : va_G) (b a : Nat) (P O : Nat → Int32) (hd : apart b a) (ho : okN O) : Met l yX0_copyFrom (wA yX0_copyFrom cX0_copyFrom 3 none) (rmL 2) (gPc D [.ref b, .ref a] (fun H => Two D b a P O H)) (gQv (inG b) (fun H => Two D b a (fP_X0_copyFrom P O) O H)) 0 0 (inG b) := by
  refine Met.ofW (cc := cX0_copyFrom) (maxL := 3) (ret := none) (by decide) rfl ?_
  intro p e s m args below meth c s₁ B hml hv
  obtain ⟨hav, hG, hK⟩ := hv
  have hx := B.exec
  have hb := B.bytes
  have hr := B.returns
  have hts0 := atoms_spec (ws := wA yX0_copyFrom cX0_copyFrom 3 none) B.pre
  have hts : ∀ w ∈ AW, w.before _ s = true := fun w h => hts0 w (List.mem_cons_of_mem _ h)
  have hown : s.vm.findClass RX0 = some m.cls := findClass_of_methodNamed B.named
  have hlocks := B.notSynchronized
  have hA : ∀ q, (inG b) q → (inG b) q := fun _ h => h
  have hS : va_S (inG b) s.heap s.heap [] := va_S.rf
  have hG : Two D b a P O s.heap := hG
  have hl := lv_entry ([.ref b, .ref a]) (n := 3) (Nat.le_of_ble_eq_true rfl)
  refine W.eq (g2 := entryFrame m ([.ref b, .ref a] : List Value).toArray 3) (by rw [hav]) ?_
  rw [lg_entry_eq]
  generalize (lg_sl ([.ref b, .ref a]) ++ List.replicate (3 - (lg_sl ([.ref b, .ref a])).length) Slot.unset).toArray = ls at hl ⊢
  have hl : lv_has ls 3 [(0, .ref b), (1, .ref a)] := hl
  have hO0 := hG.2
  have hn20 := ho.2.1
  have hp3 := ho.2.2.2
  have L80 : ∀ (k : Nat) (j : Nat) (Pl : Nat → Int32) (H : Heap) (locs : List Loc) (ls : Array Slot) (hik : j + k = 3) (hfP : fP_X0_copyFrom P O = fP_X0_copyFrom_L80 O k j Pl) (hG : Two D b a Pl O H) (hS : va_S (inG b) s.heap H locs) (hl : lv_has ls 3 [(0, .ref b), (1, .ref a), (2, .int (nI j))]), W p l e (headSpec (wA yX0_copyFrom cX0_copyFrom 3 none) (rmL 2)).room s m args below meth c H locs 0 0 (MQ below (gQv (inG b) (fun H => Two D b a (fP_X0_copyFrom P O) O H)) args s 0 0 (inG b)) (F0 m 80 ls []) := by
    intro k
    induction k with
    | zero =>
      intro j Pl H locs ls hik hfP hG hS hl
      refine lv_iload_n hx hb dX0_copyFrom_80 rfl (lv_at hl 2 rfl) ?_
      refine lv_iconst (v := 3) hx hb dX0_copyFrom_81 (by decide) ?_
      refine lv_icmp_ge (tgt := 106) hx hb dX0_copyFrom_82 (by decide) (fun c82 => ?_) (fun c82 => ?_)
      · have c82 : 3 ≤ j := (nI_leI (a := 3) (b := j) (by omega) (by omega)).mp c82
        refine lv_aload_n hx hb dX0_copyFrom_106 rfl (lv_at hl 0 rfl) ?_
        refine lv_aload_n hx hb dX0_copyFrom_107 rfl (lv_at hl 1 rfl) ?_
        refine getC 5 0 rfl hx hb hts hown hK hG.2 (by decide) (by decide) (by decide) (by decide) qF_X0_60 rfl dX0_copyFrom_108 ?_
        refine lv_topi (fun x3 ex3 => ?_)
        refine putC 5 0 rfl hx hb hts hown hK hG.1 hS hA (by decide) (by decide) (by decide) (by decide) qF_X0_60 rfl dX0_copyFrom_111 (fun H locs hG hS => ?_)
        have hG : Two D b a (upd Pl 0 x3) O H := ⟨hG, Graph.off hS hd hO0⟩
        generalize eP4 : upd Pl 0 x3 = P4 at hG
        refine lv_aload_n hx hb dX0_copyFrom_114 rfl (lv_at hl 0 rfl) ?_
        refine lv_aload_n hx hb dX0_copyFrom_115 rfl (lv_at hl 1 rfl) ?_
        refine getC 6 3 rfl hx hb hts hown hK hG.2 (by decide) (by decide) (by decide) (by decide) qF_X0_29 rfl dX0_copyFrom_116 ?_
        refine lv_topi (fun x5 ex5 => ?_)
        refine putC 6 3 rfl hx hb hts hown hK hG.1 hS hA (by decide) (by decide) (by decide) (by decide) qF_X0_29 rfl dX0_copyFrom_119 (fun H locs hG hS => ?_)
        have hG : Two D b a (upd P4 3 x5) O H := ⟨hG, Graph.off hS hd hO0⟩
        generalize eP6 : upd P4 3 x5 = P6 at hG
        refine lv_aload_n hx hb dX0_copyFrom_122 rfl (lv_at hl 0 rfl) ?_
        refine lv_aload_n hx hb dX0_copyFrom_123 rfl (lv_at hl 1 rfl) ?_
        refine getC 7 4 rfl hx hb hts hown hK hG.2 (by decide) (by decide) (by decide) (by decide) qF_X0_33 rfl dX0_copyFrom_124 ?_
        refine lv_topi (fun x7 ex7 => ?_)
        refine putC 7 4 rfl hx hb hts hown hK hG.1 hS hA (by decide) (by decide) (by decide) (by decide) qF_X0_33 rfl dX0_copyFrom_127 (fun H locs hG hS => ?_)
        have hG : Two D b a (upd P6 4 x7) O H := ⟨hG, Graph.off hS hd hO0⟩
        generalize eP8 : upd P6 4 x7 = P8 at hG
        refine lv_aload_n hx hb dX0_copyFrom_130 rfl (lv_at hl 0 rfl) ?_
        refine lv_aload_n hx hb dX0_copyFrom_131 rfl (lv_at hl 1 rfl) ?_
        refine getC 8 6 rfl hx hb hts hown hK hG.2 (by decide) (by decide) (by decide) (by decide) qF_X0_63 rfl dX0_copyFrom_132 ?_
        refine lv_topi (fun x9 ex9 => ?_)
        refine putC 8 6 rfl hx hb hts hown hK hG.1 hS hA (by decide) (by decide) (by decide) (by decide) qF_X0_63 rfl dX0_copyFrom_135 (fun H locs hG hS => ?_)
        have hG : Two D b a (upd P8 6 x9) O H := ⟨hG, Graph.off hS hd hO0⟩
        generalize eP10 : upd P8 6 x9 = P10 at hG
        refine lv_aload_n hx hb dX0_copyFrom_138 rfl (lv_at hl 0 rfl) ?_
        refine lv_aload_n hx hb dX0_copyFrom_139 rfl (lv_at hl 1 rfl) ?_
        refine getC 9 7 rfl hx hb hts hown hK hG.2 (by decide) (by decide) (by decide) (by decide) qF_X0_36 rfl dX0_copyFrom_140 ?_
        refine lv_topi (fun x11 ex11 => ?_)
        refine putC 9 7 rfl hx hb hts hown hK hG.1 hS hA (by decide) (by decide) (by decide) (by decide) qF_X0_36 rfl dX0_copyFrom_143 (fun H locs hG hS => ?_)
        have hG : Two D b a (upd P10 7 x11) O H := ⟨hG, Graph.off hS hd hO0⟩
        generalize eP12 : upd P10 7 x11 = P12 at hG
        refine lv_aload_n hx hb dX0_copyFrom_146 rfl (lv_at hl 0 rfl) ?_
        refine lv_aload_n hx hb dX0_copyFrom_147 rfl (lv_at hl 1 rfl) ?_
        refine getC 10 8 rfl hx hb hts hown hK hG.2 (by decide) (by decide) (by decide) (by decide) qF_X0_66 rfl dX0_copyFrom_148 ?_
        refine lv_topi (fun x13 ex13 => ?_)
        refine putC 10 8 rfl hx hb hts hown hK hG.1 hS hA (by decide) (by decide) (by decide) (by decide) qF_X0_66 rfl dX0_copyFrom_151 (fun H locs hG hS => ?_)
        have hG : Two D b a (upd P12 8 x13) O H := ⟨hG, Graph.off hS hd hO0⟩
        generalize eP14 : upd P12 8 x13 = P14 at hG
        subst eP14
        subst ex13
        subst eP12
        subst ex11
        subst eP10
        subst ex9
        subst eP8
        subst ex7
        subst eP6
        subst ex5
        subst eP4
        subst ex3
        have hG9 : Two D b a (fP_X0_copyFrom P O) O H := by
          rw [hfP, fP_X0_copyFrom_L80]; (try dsimp only)
          exact hG
        exact W.vret hx hb hr (fun t ht hW => gQv_of hG9 hS ht) hS.2.2 dX0_copyFrom_154
      · have c82 : ¬ 3 ≤ j := fun h => c82 ((nI_leI (a := 3) (b := j) (by omega) (by omega)).mpr h)
        exfalso; omega
    | succ k ih =>
      intro j Pl H locs ls hik hfP hG hS hl
      refine lv_iload_n hx hb dX0_copyFrom_80 rfl (lv_at hl 2 rfl) ?_
      refine lv_iconst (v := 3) hx hb dX0_copyFrom_81 (by decide) ?_
      refine lv_icmp_ge (tgt := 106) hx hb dX0_copyFrom_82 (by decide) (fun c82 => ?_) (fun c82 => ?_)
      · have c82 : 3 ≤ j := (nI_leI (a := 3) (b := j) (by omega) (by omega)).mp c82
        exfalso; omega
      · have c82 : ¬ 3 ≤ j := fun h => c82 ((nI_leI (a := 3) (b := j) (by omega) (by omega)).mpr h)
        refine lv_aload_n hx hb dX0_copyFrom_85 rfl (lv_at hl 0 rfl) ?_
        refine getCt hx hb hts hown hK hG.1 qF_X0_25 dX0_copyFrom_86 ?_
        refine lv_iload_n hx hb dX0_copyFrom_89 rfl (lv_at hl 2 rfl) ?_
        refine aldT (i := j) hx hb hK hG.1 (by omega) dX0_copyFrom_90 ?_
        refine lv_aload_n hx hb dX0_copyFrom_91 rfl (lv_at hl 1 rfl) ?_
        refine getCt hx hb hts hown hK hG.2 qF_X0_25 dX0_copyFrom_92 ?_
        refine lv_iload_n hx hb dX0_copyFrom_95 rfl (lv_at hl 2 rfl) ?_
        refine aldT (i := j) hx hb hK hG.2 (by omega) dX0_copyFrom_96 ?_
        refine gcVv (As := [.ref (a + 30 + j)]) (rest := []) hx hb hml hown hts hl.1 hK (c_X4_copyFrom l D b a Pl O j j (by first | assumption | omega) (by first | assumption | omega) (by first | assumption | omega)) (gaV qM_X0_57 qI_X4_copyFrom qS_X4_copyFrom qK_X4 qC_X4_copyFrom) hdv_X4_copyFrom ⟨Nat.le_of_ble_eq_true rfl, Nat.le_of_ble_eq_true rfl⟩ hG (hG.1.recvT hK (by omega)) rfl (Nat.le_of_ble_eq_true rfl) ⟨Nat.zero_le _, Nat.zero_le _⟩ dX0_copyFrom_97 hS hA (fun H locs hG _ _ hS => ?_)
        have hG : Two D b a (fP_X4_copyFrom Pl O j j) O H := hG
        generalize eP15 : fP_X4_copyFrom Pl O j j = P15 at hG
        refine lv_iinc (v := nI (j + 1)) (lv' := [(2, .int (nI (j + 1))), (0, .ref b), (1, .ref a)]) hx hb dX0_copyFrom_100 hl (k := 2) rfl (nI_add j 1) (by decide) rfl (fun ls hl => ?_)
        refine lv_goto (tgt := 80) hx hb dX0_copyFrom_103 (by decide) ?_
        subst eP15
        exact ih (j + 1) _ _ _ _ (by first | assumption | omega) (by rw [hfP, fP_X0_copyFrom_L80]; (try dsimp only); (try rfl)) hG hS (lv_sub hl [1, 2, 0] rfl)
  have L49 : ∀ (k : Nat) (j : Nat) (Pl : Nat → Int32) (H : Heap) (locs : List Loc) (ls : Array Slot) (hs2 : Pl 2 = nI (np O)) (hik : j + k = np O) (hfP : fP_X0_copyFrom P O = fP_X0_copyFrom_L49 O k j Pl) (hG : Two D b a Pl O H) (hS : va_S (inG b) s.heap H locs) (hl : lv_has ls 3 [(0, .ref b), (1, .ref a), (2, .int (nI j))]), W p l e (headSpec (wA yX0_copyFrom cX0_copyFrom 3 none) (rmL 2)).room s m args below meth c H locs 0 0 (MQ below (gQv (inG b) (fun H => Two D b a (fP_X0_copyFrom P O) O H)) args s 0 0 (inG b)) (F0 m 49 ls []) := by
    intro k
    induction k with
    | zero =>
      intro j Pl H locs ls hs2 hik hfP hG hS hl
      refine lv_iload_n hx hb dX0_copyFrom_49 rfl (lv_at hl 2 rfl) ?_
      refine lv_aload_n hx hb dX0_copyFrom_50 rfl (lv_at hl 0 rfl) ?_
      refine getC 3 2 rfl hx hb hts hown hK hG.1 (by decide) (by decide) (by decide) (by decide) qF_X0_51 rfl dX0_copyFrom_51 ?_
      refine topN (n := (np O)) hs2 ?_
      refine lv_icmp_ge (tgt := 78) hx hb dX0_copyFrom_54 (by decide) (fun c54 => ?_) (fun c54 => ?_)
      · have c54 : (np O) ≤ j := (nI_leI (a := (np O)) (b := j) (by omega) (by omega)).mp c54
        refine lv_iconst (v := 0) hx hb dX0_copyFrom_78 (by decide) ?_
        refine lv_istore_n (lv' := [(2, .int 0), (0, .ref b), (1, .ref a)]) hx hb dX0_copyFrom_79 rfl hl (by decide) rfl (fun ls hl => ?_)
        exact L80 3 0 _ _ _ _ (by first | assumption | omega) (by rw [hfP, fP_X0_copyFrom_L49]; (try dsimp only); (try rfl)) hG hS (lv_sub hl [1, 2, 0] rfl)
      · have c54 : ¬ (np O) ≤ j := fun h => c54 ((nI_leI (a := (np O)) (b := j) (by omega) (by omega)).mpr h)
        exfalso; omega
    | succ k ih =>
      intro j Pl H locs ls hs2 hik hfP hG hS hl
      refine lv_iload_n hx hb dX0_copyFrom_49 rfl (lv_at hl 2 rfl) ?_
      refine lv_aload_n hx hb dX0_copyFrom_50 rfl (lv_at hl 0 rfl) ?_
      refine getC 3 2 rfl hx hb hts hown hK hG.1 (by decide) (by decide) (by decide) (by decide) qF_X0_51 rfl dX0_copyFrom_51 ?_
      refine topN (n := (np O)) hs2 ?_
      refine lv_icmp_ge (tgt := 78) hx hb dX0_copyFrom_54 (by decide) (fun c54 => ?_) (fun c54 => ?_)
      · have c54 : (np O) ≤ j := (nI_leI (a := (np O)) (b := j) (by omega) (by omega)).mp c54
        exfalso; omega
      · have c54 : ¬ (np O) ≤ j := fun h => c54 ((nI_leI (a := (np O)) (b := j) (by omega) (by omega)).mpr h)
        refine lv_aload_n hx hb dX0_copyFrom_57 rfl (lv_at hl 0 rfl) ?_
        refine getCp hx hb hts hown hK hG.1 qF_X0_19 dX0_copyFrom_58 ?_
        refine lv_iload_n hx hb dX0_copyFrom_61 rfl (lv_at hl 2 rfl) ?_
        refine aldP (i := j) hx hb hK hG.1 (by omega) dX0_copyFrom_62 ?_
        refine lv_aload_n hx hb dX0_copyFrom_63 rfl (lv_at hl 1 rfl) ?_
        refine getCp hx hb hts hown hK hG.2 qF_X0_19 dX0_copyFrom_64 ?_
        refine lv_iload_n hx hb dX0_copyFrom_67 rfl (lv_at hl 2 rfl) ?_
        refine aldP (i := j) hx hb hK hG.2 (by omega) dX0_copyFrom_68 ?_
        refine gcVv (As := [.ref (a + 24 + 2 * j)]) (rest := []) hx hb hml hown hts hl.1 hK (c_X1_copyFrom l D b a Pl O j j (by first | assumption | omega) (by first | assumption | omega) (by first | assumption | omega)) (gaV qM_X0_54 qI_X1_copyFrom qS_X1_copyFrom qK_X1 qC_X1_copyFrom) hdv_X1_copyFrom ⟨Nat.le_of_ble_eq_true rfl, Nat.le_of_ble_eq_true rfl⟩ hG (hG.1.recvP hK (by omega)) rfl (Nat.le_of_ble_eq_true rfl) ⟨Nat.zero_le _, Nat.zero_le _⟩ dX0_copyFrom_69 hS hA (fun H locs hG _ _ hS => ?_)
        have hG : Two D b a (fP_X1_copyFrom Pl O j j) O H := hG
        generalize eP16 : fP_X1_copyFrom Pl O j j = P16 at hG
        refine lv_iinc (v := nI (j + 1)) (lv' := [(2, .int (nI (j + 1))), (0, .ref b), (1, .ref a)]) hx hb dX0_copyFrom_72 hl (k := 2) rfl (nI_add j 1) (by decide) rfl (fun ls hl => ?_)
        refine lv_goto (tgt := 49) hx hb dX0_copyFrom_75 (by decide) ?_
        subst eP16
        exact ih (j + 1) _ _ _ _ ((cP1 (by decide)).trans hs2) (by first | assumption | omega) (by rw [hfP, fP_X0_copyFrom_L49]; (try dsimp only); (try rfl)) hG hS (lv_sub hl [1, 2, 0] rfl)
  have L10 : ∀ (k : Nat) (j : Nat) (Pl : Nat → Int32) (H : Heap) (locs : List Loc) (ls : Array Slot) (hs1 : Pl 1 = nI (ns O)) (hik : j + k = ns O) (hfP : fP_X0_copyFrom P O = fP_X0_copyFrom_L10 O k j Pl) (hG : Two D b a Pl O H) (hS : va_S (inG b) s.heap H locs) (hl : lv_has ls 3 [(0, .ref b), (1, .ref a), (2, .int (nI j))]), W p l e (headSpec (wA yX0_copyFrom cX0_copyFrom 3 none) (rmL 2)).room s m args below meth c H locs 0 0 (MQ below (gQv (inG b) (fun H => Two D b a (fP_X0_copyFrom P O) O H)) args s 0 0 (inG b)) (F0 m 10 ls []) := by
    intro k
    induction k with
    | zero =>
      intro j Pl H locs ls hs1 hik hfP hG hS hl
      refine lv_iload_n hx hb dX0_copyFrom_10 rfl (lv_at hl 2 rfl) ?_
      refine lv_aload_n hx hb dX0_copyFrom_11 rfl (lv_at hl 0 rfl) ?_
      refine getC 1 1 rfl hx hb hts hown hK hG.1 (by decide) (by decide) (by decide) (by decide) qF_X0_44 rfl dX0_copyFrom_12 ?_
      refine topN (n := (ns O)) hs1 ?_
      refine lv_icmp_ge (tgt := 39) hx hb dX0_copyFrom_15 (by decide) (fun c15 => ?_) (fun c15 => ?_)
      · have c15 : (ns O) ≤ j := (nI_leI (a := (ns O)) (b := j) (by omega) (by omega)).mp c15
        refine lv_aload_n hx hb dX0_copyFrom_39 rfl (lv_at hl 0 rfl) ?_
        refine lv_aload_n hx hb dX0_copyFrom_40 rfl (lv_at hl 1 rfl) ?_
        refine getC 3 2 rfl hx hb hts hown hK hG.2 (by decide) (by decide) (by decide) (by decide) qF_X0_51 rfl dX0_copyFrom_41 ?_
        refine topN (n := (np O)) ho.2.2.1 ?_
        refine putC 3 2 rfl hx hb hts hown hK hG.1 hS hA (by decide) (by decide) (by decide) (by decide) qF_X0_51 rfl dX0_copyFrom_44 (fun H locs hG hS => ?_)
        have hG : Two D b a (upd Pl 2 (nI (np O))) O H := ⟨hG, Graph.off hS hd hO0⟩
        generalize eP2 : upd Pl 2 (nI (np O)) = P2 at hG
        refine lv_iconst (v := 0) hx hb dX0_copyFrom_47 (by decide) ?_
        refine lv_istore_n (lv' := [(2, .int 0), (0, .ref b), (1, .ref a)]) hx hb dX0_copyFrom_48 rfl hl (by decide) rfl (fun ls hl => ?_)
        subst eP2
        exact L49 (np O) 0 _ _ _ _ (by rw [upd_s]) (by first | assumption | omega) (by rw [hfP, fP_X0_copyFrom_L10]; (try dsimp only); (try rfl)) hG hS (lv_sub hl [1, 2, 0] rfl)
      · have c15 : ¬ (ns O) ≤ j := fun h => c15 ((nI_leI (a := (ns O)) (b := j) (by omega) (by omega)).mpr h)
        exfalso; omega
    | succ k ih =>
      intro j Pl H locs ls hs1 hik hfP hG hS hl
      refine lv_iload_n hx hb dX0_copyFrom_10 rfl (lv_at hl 2 rfl) ?_
      refine lv_aload_n hx hb dX0_copyFrom_11 rfl (lv_at hl 0 rfl) ?_
      refine getC 1 1 rfl hx hb hts hown hK hG.1 (by decide) (by decide) (by decide) (by decide) qF_X0_44 rfl dX0_copyFrom_12 ?_
      refine topN (n := (ns O)) hs1 ?_
      refine lv_icmp_ge (tgt := 39) hx hb dX0_copyFrom_15 (by decide) (fun c15 => ?_) (fun c15 => ?_)
      · have c15 : (ns O) ≤ j := (nI_leI (a := (ns O)) (b := j) (by omega) (by omega)).mp c15
        exfalso; omega
      · have c15 : ¬ (ns O) ≤ j := fun h => c15 ((nI_leI (a := (ns O)) (b := j) (by omega) (by omega)).mpr h)
        refine lv_aload_n hx hb dX0_copyFrom_18 rfl (lv_at hl 0 rfl) ?_
        refine getCs hx hb hts hown hK hG.1 qF_X0_11 dX0_copyFrom_19 ?_
        refine lv_iload_n hx hb dX0_copyFrom_22 rfl (lv_at hl 2 rfl) ?_
        refine aldS (i := j) hx hb hK hG.1 (by omega) dX0_copyFrom_23 ?_
        refine lv_aload_n hx hb dX0_copyFrom_24 rfl (lv_at hl 1 rfl) ?_
        refine getCs hx hb hts hown hK hG.2 qF_X0_11 dX0_copyFrom_25 ?_
        refine lv_iload_n hx hb dX0_copyFrom_28 rfl (lv_at hl 2 rfl) ?_
        refine aldS (i := j) hx hb hK hG.2 (by omega) dX0_copyFrom_29 ?_
        refine gcVv (As := [.ref (a + 4 + j)]) (rest := []) hx hb hml hown hts hl.1 hK (c_X3_copyFrom l D b a Pl O j j (by first | assumption | omega) (by first | assumption | omega) (by first | assumption | omega)) (gaV qM_X0_47 qI_X3_copyFrom qS_X3_copyFrom qK_X3 qC_X3_copyFrom) hdv_X3_copyFrom ⟨Nat.le_of_ble_eq_true rfl, Nat.le_of_ble_eq_true rfl⟩ hG (hG.1.recvS hK (by omega)) rfl (Nat.le_of_ble_eq_true rfl) ⟨Nat.zero_le _, Nat.zero_le _⟩ dX0_copyFrom_30 hS hA (fun H locs hG _ _ hS => ?_)
        have hG : Two D b a (fP_X3_copyFrom Pl O j j) O H := hG
        generalize eP17 : fP_X3_copyFrom Pl O j j = P17 at hG
        refine lv_iinc (v := nI (j + 1)) (lv' := [(2, .int (nI (j + 1))), (0, .ref b), (1, .ref a)]) hx hb dX0_copyFrom_33 hl (k := 2) rfl (nI_add j 1) (by decide) rfl (fun ls hl => ?_)
        refine lv_goto (tgt := 10) hx hb dX0_copyFrom_36 (by decide) ?_
        subst eP17
        exact ih (j + 1) _ _ _ _ ((cS1 (by decide)).trans hs1) (by first | assumption | omega) (by rw [hfP, fP_X0_copyFrom_L10]; (try dsimp only); (try rfl)) hG hS (lv_sub hl [1, 2, 0] rfl)
  refine lv_aload_n hx hb dX0_copyFrom_0 rfl (lv_at hl 0 rfl) ?_
  refine lv_aload_n hx hb dX0_copyFrom_1 rfl (lv_at hl 1 rfl) ?_
  refine getC 1 1 rfl hx hb hts hown hK hG.2 (by decide) (by decide) (by decide) (by decide) qF_X0_44 rfl dX0_copyFrom_2 ?_
  refine topN (n := (ns O)) ho.1 ?_
  refine putC 1 1 rfl hx hb hts hown hK hG.1 hS hA (by decide) (by decide) (by decide) (by decide) qF_X0_44 rfl dX0_copyFrom_5 (fun H locs hG hS => ?_)
  have hG : Two D b a (upd P 1 (nI (ns O))) O H := ⟨hG, Graph.off hS hd hO0⟩
  generalize eP1 : upd P 1 (nI (ns O)) = P1 at hG
  refine lv_iconst (v := 0) hx hb dX0_copyFrom_8 (by decide) ?_
  refine lv_istore_n (lv' := [(2, .int 0), (0, .ref b), (1, .ref a)]) hx hb dX0_copyFrom_9 rfl hl (by decide) rfl (fun ls hl => ?_)
  subst eP1
  exact L10 (ns O) 0 _ _ _ _ (by rw [upd_s]) (by first | assumption | omega) (by unfold fP_X0_copyFrom; (try dsimp only); (try rfl)) hG hS (lv_sub hl [1, 2, 0] rfl)
