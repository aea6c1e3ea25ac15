theorem hdv_X0_passHours : yX0_passHours.cls = RX0 ∧ yX0_passHours.cls ≠ "java/lang/invoke/MethodHandle" ∧ yX0_passHours.cls ≠ "java/lang/invoke/VarHandle" ∧ (parseMethodDescriptor yX0_passHours.desc).map (fun d => d.parameters.length) = some 3 := by decide +kernel
def fP_X0_passHours_L9 (tmp : Int32) (sn : Int32) (many : Nat) : Nat → Int32 → Nat → (Nat → Int32) → Nat → Int32
  | 0, bf, j, Pl =>
    Pl
  | k + 1, bf, j, Pl =>
    let P2 := fP_X0_passHour Pl tmp sn
    fP_X0_passHours_L9 tmp sn many k bf (j + 1) P2
def fR_X0_passHours_L9 (tmp : Int32) (sn : Int32) (many : Nat) : Nat → Int32 → Nat → (Nat → Int32) → Int32
  | 0, bf, j, Pl =>
    (Pl 6) - bf
  | k + 1, bf, j, Pl =>
    let P2 := fP_X0_passHour Pl tmp sn
    fR_X0_passHours_L9 tmp sn many k bf (j + 1) P2
def fP_X0_passHours (P : Nat → Int32) (tmp : Int32) (sn : Int32) (many : Nat) : Nat → Int32 :=
  let x1 := P 6
  fP_X0_passHours_L9 tmp sn many many x1 0 P
def fR_X0_passHours (P : Nat → Int32) (tmp : Int32) (sn : Int32) (many : Nat) : Int32 :=
  let x1 := P 6
  fR_X0_passHours_L9 tmp sn many many x1 0 P
set_option maxHeartbeats 4000000 in
set_option maxRecDepth 100000 in
theorem c_X0_passHours (l : Launch) (D : va_G) (b : Nat) (P : Nat → Int32) (tmp : Int32) (sn : Int32) (many : Nat) (hw0 : WF P) (hm : many < 1000) : Met l yX0_passHours (wA yX0_passHours cX0_passHours 6 (some .int)) (rmL 4) (gPc D [.ref b, .int tmp, .int sn, .int (nI many)] (fun H => Graph D b P H)) (gQi (inG b) (fR_X0_passHours P tmp sn many) (fun H => Graph D b (fP_X0_passHours P tmp sn many) H)) 0 0 (inG b) := by
  refine Met.ofW (cc := cX0_passHours) (maxL := 6) (ret := (some .int)) (by decide) rfl ?_
  intro p e s m args below meth c s₁ B hml hv
  obtain ⟨hav, hG, hK⟩ := hv
  have hx := B.exec
  have hb := B.bytes
  have hr := B.returns
  have hts0 := atoms_spec (ws := wA yX0_passHours cX0_passHours 6 (some .int)) B.pre
  have hts : ∀ w ∈ AW, w.before _ s = true := fun w h => hts0 w (List.mem_cons_of_mem _ h)
  have hown : s.vm.findClass RX0 = some m.cls := findClass_of_methodNamed B.named
  have hlocks := B.notSynchronized
  have hA : ∀ q, (inG b) q → (inG b) q := fun _ h => h
  have hS : va_S (inG b) s.heap s.heap [] := va_S.rf
  have hG : Graph D b P s.heap := hG
  have hl := lv_entry ([.ref b, .int tmp, .int sn, .int (nI many)]) (n := 6) (Nat.le_of_ble_eq_true rfl)
  refine W.eq (g2 := entryFrame m ([.ref b, .int tmp, .int sn, .int (nI many)] : List Value).toArray 6) (by rw [hav]) ?_
  rw [lg_entry_eq]
  generalize (lg_sl ([.ref b, .int tmp, .int sn, .int (nI many)]) ++ List.replicate (6 - (lg_sl ([.ref b, .int tmp, .int sn, .int (nI many)])).length) Slot.unset).toArray = ls at hl ⊢
  have hl : lv_has ls 6 [(0, .ref b), (1, .int tmp), (2, .int sn), (3, .int (nI many))] := hl
  have L9 : ∀ (k : Nat) (bf : Int32) (j : Nat) (Pl : Nat → Int32) (H : Heap) (locs : List Loc) (ls : Array Slot) (hw : WF Pl) (hik : j + k = many) (hfP : fP_X0_passHours P tmp sn many = fP_X0_passHours_L9 tmp sn many k bf j Pl) (hfR : fR_X0_passHours P tmp sn many = fR_X0_passHours_L9 tmp sn many k bf j Pl) (hG : Graph D b Pl H) (hS : va_S (inG b) s.heap H locs) (hl : lv_has ls 6 [(0, .ref b), (1, .int tmp), (2, .int sn), (3, .int (nI many)), (4, .int bf), (5, .int (nI j))]), W p l e (headSpec (wA yX0_passHours cX0_passHours 6 (some .int)) (rmL 4)).room s m args below meth c H locs 0 0 (MQ below (gQi (inG b) (fR_X0_passHours P tmp sn many) (fun H => Graph D b (fP_X0_passHours P tmp sn many) H)) args s 0 0 (inG b)) (F0 m 9 ls []) := by
    intro k
    induction k with
    | zero =>
      intro bf j Pl H locs ls hw hik hfP hfR hG hS hl
      refine lv_iload hx hb dX0_passHours_9 (lv_at hl 5 rfl) ?_
      refine lv_iload_n hx hb dX0_passHours_11 rfl (lv_at hl 3 rfl) ?_
      refine lv_icmp_ge (tgt := 27) hx hb dX0_passHours_12 (by decide) (fun c12 => ?_) (fun c12 => ?_)
      · have c12 : many ≤ j := (nI_leI (a := many) (b := j) (by omega) (by omega)).mp c12
        refine lv_aload_n hx hb dX0_passHours_27 rfl (lv_at hl 0 rfl) ?_
        refine getC 8 6 rfl hx hb hts hown hK hG (by decide) (by decide) (by decide) (by decide) qF_X0_63 rfl dX0_passHours_28 ?_
        refine lv_iload hx hb dX0_passHours_31 (lv_at hl 4 rfl) ?_
        refine lv_isub hx hb dX0_passHours_33 ?_
        have hG9 : Graph D b (fP_X0_passHours P tmp sn many) H := by
          rw [hfP, fP_X0_passHours_L9]; (try dsimp only)
          exact hG
        exact W.iret hx hb hr (fun t ht hW => gQi_of (by rw [hfR, fR_X0_passHours_L9]; (try dsimp only); (try rfl)) hG9 hS ht) hS.2.2 dX0_passHours_34
      · have c12 : ¬ many ≤ j := fun h => c12 ((nI_leI (a := many) (b := j) (by omega) (by omega)).mpr h)
        exfalso; omega
    | succ k ih =>
      intro bf j Pl H locs ls hw hik hfP hfR hG hS hl
      refine lv_iload hx hb dX0_passHours_9 (lv_at hl 5 rfl) ?_
      refine lv_iload_n hx hb dX0_passHours_11 rfl (lv_at hl 3 rfl) ?_
      refine lv_icmp_ge (tgt := 27) hx hb dX0_passHours_12 (by decide) (fun c12 => ?_) (fun c12 => ?_)
      · have c12 : many ≤ j := (nI_leI (a := many) (b := j) (by omega) (by omega)).mp c12
        exfalso; omega
      · have c12 : ¬ many ≤ j := fun h => c12 ((nI_leI (a := many) (b := j) (by omega) (by omega)).mpr h)
        refine lv_aload_n hx hb dX0_passHours_15 rfl (lv_at hl 0 rfl) ?_
        refine lv_iload_n hx hb dX0_passHours_16 rfl (lv_at hl 1 rfl) ?_
        refine lv_iload_n hx hb dX0_passHours_17 rfl (lv_at hl 2 rfl) ?_
        refine gcVv (As := [.int tmp, .int sn]) (rest := []) hx hb hml hown hts hl.1 hK (c_X0_passHour l D b Pl tmp sn hw) (gaV qM_X0_109 qI_X0_passHour qS_X0_passHour qK_X0 qC_X0_passHour) hdv_X0_passHour ⟨Nat.le_of_ble_eq_true rfl, Nat.le_of_ble_eq_true rfl⟩ hG (hG.recvC hK) rfl (Nat.le_of_ble_eq_true rfl) ⟨Nat.zero_le _, Nat.zero_le _⟩ dX0_passHours_18 hS hA (fun H locs hG _ _ hS => ?_)
        have hG : Graph D b (fP_X0_passHour Pl tmp sn) H := hG
        generalize eP2 : fP_X0_passHour Pl tmp sn = P2 at hG
        refine lv_iinc (v := nI (j + 1)) (lv' := [(5, .int (nI (j + 1))), (0, .ref b), (1, .int tmp), (2, .int sn), (3, .int (nI many)), (4, .int bf)]) hx hb dX0_passHours_21 hl (k := 5) rfl (nI_add j 1) (by decide) rfl (fun ls hl => ?_)
        refine lv_goto (tgt := 9) hx hb dX0_passHours_24 (by decide) ?_
        subst eP2
        exact ih _ (j + 1) _ _ _ _ (WF_passHour hw) (by first | assumption | omega) (by rw [hfP, fP_X0_passHours_L9]; (try dsimp only); (try rfl)) (by rw [hfR, fR_X0_passHours_L9]; (try dsimp only); (try rfl)) hG hS (lv_sub hl [1, 2, 3, 4, 5, 0] rfl)
  refine lv_aload_n hx hb dX0_passHours_0 rfl (lv_at hl 0 rfl) ?_
  refine getC 8 6 rfl hx hb hts hown hK hG (by decide) (by decide) (by decide) (by decide) qF_X0_63 rfl dX0_passHours_1 ?_
  refine lv_topi (fun x1 ex1 => ?_)
  refine lv_istore (lv' := [(4, .int x1), (0, .ref b), (1, .int tmp), (2, .int sn), (3, .int (nI many))]) hx hb dX0_passHours_4 hl (by decide) rfl (fun ls hl => ?_)
  refine lv_iconst (v := 0) hx hb dX0_passHours_6 (by decide) ?_
  refine lv_istore (lv' := [(5, .int 0), (4, .int x1), (0, .ref b), (1, .int tmp), (2, .int sn), (3, .int (nI many))]) hx hb dX0_passHours_7 hl (by decide) rfl (fun ls hl => ?_)
  subst ex1
  exact L9 many _ 0 _ _ _ _ hw0 (by first | assumption | omega) (by unfold fP_X0_passHours; (try dsimp only); (try rfl)) (by unfold fR_X0_passHours; (try dsimp only); (try rfl)) hG hS (lv_sub hl [2, 3, 4, 5, 1, 0] rfl)
theorem hdv_X0_passesWithoutComplaint : yX0_passesWithoutComplaint.cls = RX0 ∧ yX0_passesWithoutComplaint.cls ≠ "java/lang/invoke/MethodHandle" ∧ yX0_passesWithoutComplaint.cls ≠ "java/lang/invoke/VarHandle" ∧ (parseMethodDescriptor yX0_passesWithoutComplaint.desc).map (fun d => d.parameters.length) = some 3 := by decide +kernel
def fP_X0_passesWithoutComplaint_L9 (tmp : Int32) (sn : Int32) (many : Nat) : Nat → Int32 → Nat → (Nat → Int32) → Nat → Int32
  | 0, bf, j, Pl =>
    if fR_X0_complaints Pl = bf then
      Pl
    else
      Pl
  | k + 1, bf, j, Pl =>
    if fR_X0_complaints Pl = bf then
      let P2 := fP_X0_passHour Pl tmp sn
      fP_X0_passesWithoutComplaint_L9 tmp sn many k bf (j + 1) P2
    else
      Pl
def fR_X0_passesWithoutComplaint_L9 (tmp : Int32) (sn : Int32) (many : Nat) : Nat → Int32 → Nat → (Nat → Int32) → Int32
  | 0, bf, j, Pl =>
    if fR_X0_complaints Pl = bf then
      1
    else
      0
  | k + 1, bf, j, Pl =>
    if fR_X0_complaints Pl = bf then
      let P2 := fP_X0_passHour Pl tmp sn
      fR_X0_passesWithoutComplaint_L9 tmp sn many k bf (j + 1) P2
    else
      0
def fP_X0_passesWithoutComplaint (P : Nat → Int32) (tmp : Int32) (sn : Int32) (many : Nat) : Nat → Int32 :=
  let x1 := fR_X0_complaints P
  fP_X0_passesWithoutComplaint_L9 tmp sn many many x1 0 P
def fR_X0_passesWithoutComplaint (P : Nat → Int32) (tmp : Int32) (sn : Int32) (many : Nat) : Int32 :=
  let x1 := fR_X0_complaints P
  fR_X0_passesWithoutComplaint_L9 tmp sn many many x1 0 P
set_option maxHeartbeats 4000000 in
set_option maxRecDepth 100000 in
theorem c_X0_passesWithoutComplaint (l : Launch) (D : va_G) (b : Nat) (P : Nat → Int32) (tmp : Int32) (sn : Int32) (many : Nat) (hw0 : WF P) (hm : many < 1000) : Met l yX0_passesWithoutComplaint (wA yX0_passesWithoutComplaint cX0_passesWithoutComplaint 6 (some .boolean)) (rmL 4) (gPc D [.ref b, .int tmp, .int sn, .int (nI many)] (fun H => Graph D b P H)) (gQi (inG b) (fR_X0_passesWithoutComplaint P tmp sn many) (fun H => Graph D b (fP_X0_passesWithoutComplaint P tmp sn many) H)) 0 0 (inG b) := by
  refine Met.ofW (cc := cX0_passesWithoutComplaint) (maxL := 6) (ret := (some .boolean)) (by decide) rfl ?_
  intro p e s m args below meth c s₁ B hml hv
  obtain ⟨hav, hG, hK⟩ := hv
  have hx := B.exec
  have hb := B.bytes
  have hr := B.returns
  have hts0 := atoms_spec (ws := wA yX0_passesWithoutComplaint cX0_passesWithoutComplaint 6 (some .boolean)) B.pre
  have hts : ∀ w ∈ AW, w.before _ s = true := fun w h => hts0 w (List.mem_cons_of_mem _ h)
  have hown : s.vm.findClass RX0 = some m.cls := findClass_of_methodNamed B.named
  have hlocks := B.notSynchronized
  have hA : ∀ q, (inG b) q → (inG b) q := fun _ h => h
  have hS : va_S (inG b) s.heap s.heap [] := va_S.rf
  have hG : Graph D b P s.heap := hG
  have hl := lv_entry ([.ref b, .int tmp, .int sn, .int (nI many)]) (n := 6) (Nat.le_of_ble_eq_true rfl)
  refine W.eq (g2 := entryFrame m ([.ref b, .int tmp, .int sn, .int (nI many)] : List Value).toArray 6) (by rw [hav]) ?_
  rw [lg_entry_eq]
  generalize (lg_sl ([.ref b, .int tmp, .int sn, .int (nI many)]) ++ List.replicate (6 - (lg_sl ([.ref b, .int tmp, .int sn, .int (nI many)])).length) Slot.unset).toArray = ls at hl ⊢
  have hl : lv_has ls 6 [(0, .ref b), (1, .int tmp), (2, .int sn), (3, .int (nI many))] := hl
  have L9 : ∀ (k : Nat) (bf : Int32) (j : Nat) (Pl : Nat → Int32) (H : Heap) (locs : List Loc) (ls : Array Slot) (hw : WF Pl) (hik : j + k = many) (hfP : fP_X0_passesWithoutComplaint P tmp sn many = fP_X0_passesWithoutComplaint_L9 tmp sn many k bf j Pl) (hfR : fR_X0_passesWithoutComplaint P tmp sn many = fR_X0_passesWithoutComplaint_L9 tmp sn many k bf j Pl) (hG : Graph D b Pl H) (hS : va_S (inG b) s.heap H locs) (hl : lv_has ls 6 [(0, .ref b), (1, .int tmp), (2, .int sn), (3, .int (nI many)), (4, .int bf), (5, .int (nI j))]), W p l e (headSpec (wA yX0_passesWithoutComplaint cX0_passesWithoutComplaint 6 (some .boolean)) (rmL 4)).room s m args below meth c H locs 0 0 (MQ below (gQi (inG b) (fR_X0_passesWithoutComplaint P tmp sn many) (fun H => Graph D b (fP_X0_passesWithoutComplaint P tmp sn many) H)) args s 0 0 (inG b)) (F0 m 9 ls []) := by
    intro k
    induction k with
    | zero =>
      intro bf j Pl H locs ls hw hik hfP hfR hG hS hl
      refine lv_iload hx hb dX0_passesWithoutComplaint_9 (lv_at hl 5 rfl) ?_
      refine lv_iload_n hx hb dX0_passesWithoutComplaint_11 rfl (lv_at hl 3 rfl) ?_
      refine lv_icmp_ge (tgt := 36) hx hb dX0_passesWithoutComplaint_12 (by decide) (fun c12 => ?_) (fun c12 => ?_)
      · have c12 : many ≤ j := (nI_leI (a := many) (b := j) (by omega) (by omega)).mp c12
        refine lv_aload_n hx hb dX0_passesWithoutComplaint_36 rfl (lv_at hl 0 rfl) ?_
        refine gcVi (As := []) (rest := []) hx hb hml hown hts hl.1 hK (c_X0_complaints l D b Pl) (gaV qM_X0_69 qI_X0_complaints qS_X0_complaints qK_X0 qC_X0_complaints) hdv_X0_complaints ⟨Nat.le_of_ble_eq_true rfl, Nat.le_of_ble_eq_true rfl⟩ hG (hG.recvC hK) rfl (Nat.le_of_ble_eq_true rfl) ⟨Nat.zero_le _, Nat.zero_le _⟩ dX0_passesWithoutComplaint_37 hS hA (fun H locs hG _ _ hS => ?_)
        have hG : Graph D b Pl H := hG
        refine lv_iload hx hb dX0_passesWithoutComplaint_40 (lv_at hl 4 rfl) ?_
        refine lv_icmp_ne (tgt := 49) hx hb dX0_passesWithoutComplaint_42 (by decide) (fun c42 => ?_) (fun c42 => ?_)
        · refine lv_iconst (v := 0) hx hb dX0_passesWithoutComplaint_49 (by decide) ?_
          have hG9 : Graph D b (fP_X0_passesWithoutComplaint P tmp sn many) H := by
            rw [hfP, fP_X0_passesWithoutComplaint_L9]; (try dsimp only); (try rw [if_neg c42])
            exact hG
          exact W.zret hx hb hr (by first | with_reducible exact nb_of in_b | with_reducible exact nb_of takes_b | rfl) (fun t ht hW => gQi_of (by rw [hfR, fR_X0_passesWithoutComplaint_L9]; (try dsimp only); (try rw [if_neg c42]); (try rfl)) hG9 hS ht) hS.2.2 dX0_passesWithoutComplaint_50
        · refine lv_iconst (v := 1) hx hb dX0_passesWithoutComplaint_45 (by decide) ?_
          refine lv_goto (tgt := 50) hx hb dX0_passesWithoutComplaint_46 (by decide) ?_
          have hG9 : Graph D b (fP_X0_passesWithoutComplaint P tmp sn many) H := by
            rw [hfP, fP_X0_passesWithoutComplaint_L9]; (try dsimp only); (try rw [if_pos c42])
            exact hG
          exact W.zret hx hb hr (by first | with_reducible exact nb_of in_b | with_reducible exact nb_of takes_b | rfl) (fun t ht hW => gQi_of (by rw [hfR, fR_X0_passesWithoutComplaint_L9]; (try dsimp only); (try rw [if_pos c42]); (try rfl)) hG9 hS ht) hS.2.2 dX0_passesWithoutComplaint_50
      · have c12 : ¬ many ≤ j := fun h => c12 ((nI_leI (a := many) (b := j) (by omega) (by omega)).mpr h)
        exfalso; omega
    | succ k ih =>
      intro bf j Pl H locs ls hw hik hfP hfR hG hS hl
      refine lv_iload hx hb dX0_passesWithoutComplaint_9 (lv_at hl 5 rfl) ?_
      refine lv_iload_n hx hb dX0_passesWithoutComplaint_11 rfl (lv_at hl 3 rfl) ?_
      refine lv_icmp_ge (tgt := 36) hx hb dX0_passesWithoutComplaint_12 (by decide) (fun c12 => ?_) (fun c12 => ?_)
      · have c12 : many ≤ j := (nI_leI (a := many) (b := j) (by omega) (by omega)).mp c12
        exfalso; omega
      · have c12 : ¬ many ≤ j := fun h => c12 ((nI_leI (a := many) (b := j) (by omega) (by omega)).mpr h)
        refine lv_aload_n hx hb dX0_passesWithoutComplaint_15 rfl (lv_at hl 0 rfl) ?_
        refine gcVi (As := []) (rest := []) hx hb hml hown hts hl.1 hK (c_X0_complaints l D b Pl) (gaV qM_X0_69 qI_X0_complaints qS_X0_complaints qK_X0 qC_X0_complaints) hdv_X0_complaints ⟨Nat.le_of_ble_eq_true rfl, Nat.le_of_ble_eq_true rfl⟩ hG (hG.recvC hK) rfl (Nat.le_of_ble_eq_true rfl) ⟨Nat.zero_le _, Nat.zero_le _⟩ dX0_passesWithoutComplaint_16 hS hA (fun H locs hG _ _ hS => ?_)
        have hG : Graph D b Pl H := hG
        refine lv_iload hx hb dX0_passesWithoutComplaint_19 (lv_at hl 4 rfl) ?_
        refine lv_icmp_ne (tgt := 36) hx hb dX0_passesWithoutComplaint_21 (by decide) (fun c21 => ?_) (fun c21 => ?_)
        · refine lv_aload_n hx hb dX0_passesWithoutComplaint_36 rfl (lv_at hl 0 rfl) ?_
          refine gcVi (As := []) (rest := []) hx hb hml hown hts hl.1 hK (c_X0_complaints l D b Pl) (gaV qM_X0_69 qI_X0_complaints qS_X0_complaints qK_X0 qC_X0_complaints) hdv_X0_complaints ⟨Nat.le_of_ble_eq_true rfl, Nat.le_of_ble_eq_true rfl⟩ hG (hG.recvC hK) rfl (Nat.le_of_ble_eq_true rfl) ⟨Nat.zero_le _, Nat.zero_le _⟩ dX0_passesWithoutComplaint_37 hS hA (fun H locs hG _ _ hS => ?_)
          have hG : Graph D b Pl H := hG
          refine lv_iload hx hb dX0_passesWithoutComplaint_40 (lv_at hl 4 rfl) ?_
          refine lv_icmp_ne (tgt := 49) hx hb dX0_passesWithoutComplaint_42 (by decide) (fun c42 => ?_) (fun c42 => ?_)
          · refine lv_iconst (v := 0) hx hb dX0_passesWithoutComplaint_49 (by decide) ?_
            have hG9 : Graph D b (fP_X0_passesWithoutComplaint P tmp sn many) H := by
              rw [hfP, fP_X0_passesWithoutComplaint_L9]; (try dsimp only); (try rw [if_neg c21])
              exact hG
            exact W.zret hx hb hr (by first | with_reducible exact nb_of in_b | with_reducible exact nb_of takes_b | rfl) (fun t ht hW => gQi_of (by rw [hfR, fR_X0_passesWithoutComplaint_L9]; (try dsimp only); (try rw [if_neg c21]); (try rfl)) hG9 hS ht) hS.2.2 dX0_passesWithoutComplaint_50
          · exact absurd c42 c21
        · refine lv_aload_n hx hb dX0_passesWithoutComplaint_24 rfl (lv_at hl 0 rfl) ?_
          refine lv_iload_n hx hb dX0_passesWithoutComplaint_25 rfl (lv_at hl 1 rfl) ?_
          refine lv_iload_n hx hb dX0_passesWithoutComplaint_26 rfl (lv_at hl 2 rfl) ?_
          refine gcVv (As := [.int tmp, .int sn]) (rest := []) hx hb hml hown hts hl.1 hK (c_X0_passHour l D b Pl tmp sn hw) (gaV qM_X0_109 qI_X0_passHour qS_X0_passHour qK_X0 qC_X0_passHour) hdv_X0_passHour ⟨Nat.le_of_ble_eq_true rfl, Nat.le_of_ble_eq_true rfl⟩ hG (hG.recvC hK) rfl (Nat.le_of_ble_eq_true rfl) ⟨Nat.zero_le _, Nat.zero_le _⟩ dX0_passesWithoutComplaint_27 hS hA (fun H locs hG _ _ hS => ?_)
          have hG : Graph D b (fP_X0_passHour Pl tmp sn) H := hG
          generalize eP2 : fP_X0_passHour Pl tmp sn = P2 at hG
          refine lv_iinc (v := nI (j + 1)) (lv' := [(5, .int (nI (j + 1))), (0, .ref b), (1, .int tmp), (2, .int sn), (3, .int (nI many)), (4, .int bf)]) hx hb dX0_passesWithoutComplaint_30 hl (k := 5) rfl (nI_add j 1) (by decide) rfl (fun ls hl => ?_)
          refine lv_goto (tgt := 9) hx hb dX0_passesWithoutComplaint_33 (by decide) ?_
          subst eP2
          exact ih _ (j + 1) _ _ _ _ (WF_passHour hw) (by first | assumption | omega) (by rw [hfP, fP_X0_passesWithoutComplaint_L9]; (try dsimp only); (try rw [if_pos c21]); (try rfl)) (by rw [hfR, fR_X0_passesWithoutComplaint_L9]; (try dsimp only); (try rw [if_pos c21]); (try rfl)) hG hS (lv_sub hl [1, 2, 3, 4, 5, 0] rfl)
  refine lv_aload_n hx hb dX0_passesWithoutComplaint_0 rfl (lv_at hl 0 rfl) ?_
  refine gcVi (As := []) (rest := []) hx hb hml hown hts hl.1 hK (c_X0_complaints l D b P) (gaV qM_X0_69 qI_X0_complaints qS_X0_complaints qK_X0 qC_X0_complaints) hdv_X0_complaints ⟨Nat.le_of_ble_eq_true rfl, Nat.le_of_ble_eq_true rfl⟩ hG (hG.recvC hK) rfl (Nat.le_of_ble_eq_true rfl) ⟨Nat.zero_le _, Nat.zero_le _⟩ dX0_passesWithoutComplaint_1 hS hA (fun H locs hG _ _ hS => ?_)
  have hG : Graph D b P H := hG
  refine lv_topi (fun x1 ex1 => ?_)
  refine lv_istore (lv' := [(4, .int x1), (0, .ref b), (1, .int tmp), (2, .int sn), (3, .int (nI many))]) hx hb dX0_passesWithoutComplaint_4 hl (by decide) rfl (fun ls hl => ?_)
  refine lv_iconst (v := 0) hx hb dX0_passesWithoutComplaint_6 (by decide) ?_
  refine lv_istore (lv' := [(5, .int 0), (4, .int x1), (0, .ref b), (1, .int tmp), (2, .int sn), (3, .int (nI many))]) hx hb dX0_passesWithoutComplaint_7 hl (by decide) rfl (fun ls hl => ?_)
  subst ex1
  exact L9 many _ 0 _ _ _ _ hw0 (by first | assumption | omega) (by unfold fP_X0_passesWithoutComplaint; (try dsimp only); (try rfl)) (by unfold fR_X0_passesWithoutComplaint; (try dsimp only); (try rfl)) hG hS (lv_sub hl [2, 3, 4, 5, 1, 0] rfl)
theorem hdv_X0_number : yX0_number.cls = RX0 ∧ yX0_number.cls ≠ "java/lang/invoke/MethodHandle" ∧ yX0_number.cls ≠ "java/lang/invoke/VarHandle" ∧ (parseMethodDescriptor yX0_number.desc).map (fun d => d.parameters.length) = some 1 := by decide +kernel
def fR_X0_number (P : Nat → Int32) (w : Nat) : Int32 :=
  if w = 0 then
    P 0
  else
    if w = 1 then
      P 1
    else
      if w = 2 then
        P 2
      else
        if w = 3 then
          P 3
        else
          if w = 4 then
            P 4
          else
            if w = 5 then
              fR_X0_complaints P
            else
              if w = 6 then
                P 6
              else
                if w = 7 then
                  fR_X0_dueStreets P
                else
                  if w = 8 then
                    P 7
                  else
                    P 8
set_option maxHeartbeats 4000000 in
set_option maxRecDepth 100000 in
theorem c_X0_number (l : Launch) (D : va_G) (b : Nat) (P : Nat → Int32) (w : Nat) (hw : w < 10) (hwf : WF P) : Met l yX0_number (wA yX0_number cX0_number 2 (some .int)) (rmL 2) (gPc D [.ref b, .int (nI w)] (fun H => Graph D b P H)) (gQi (inG b) (fR_X0_number P w) (fun H => Graph D b P H)) 0 0 (inG b) := by
  refine Met.ofW (cc := cX0_number) (maxL := 2) (ret := (some .int)) (by decide) rfl ?_
  intro p e s m args below meth c s₁ B hml hv
  obtain ⟨hav, hG, hK⟩ := hv
  have hx := B.exec
  have hb := B.bytes
  have hr := B.returns
  have hts0 := atoms_spec (ws := wA yX0_number cX0_number 2 (some .int)) B.pre
  have hts : ∀ w ∈ AW, w.before _ s = true := fun w h => hts0 w (List.mem_cons_of_mem _ h)
  have hown : s.vm.findClass RX0 = some m.cls := findClass_of_methodNamed B.named
  have hlocks := B.notSynchronized
  have hA : ∀ q, (inG b) q → (inG b) q := fun _ h => h
  have hS : va_S (inG b) s.heap s.heap [] := va_S.rf
  have hG : Graph D b P s.heap := hG
  have hl := lv_entry ([.ref b, .int (nI w)]) (n := 2) (Nat.le_of_ble_eq_true rfl)
  refine W.eq (g2 := entryFrame m ([.ref b, .int (nI w)] : List Value).toArray 2) (by rw [hav]) ?_
  rw [lg_entry_eq]
  generalize (lg_sl ([.ref b, .int (nI w)]) ++ List.replicate (2 - (lg_sl ([.ref b, .int (nI w)])).length) Slot.unset).toArray = ls at hl ⊢
  have hl : lv_has ls 2 [(0, .ref b), (1, .int (nI w))] := hl
  refine lv_iload_n hx hb dX0_number_0 rfl (lv_at hl 1 rfl) ?_
  rcases (show w = 0 ∨ w = 1 ∨ w = 2 ∨ w = 3 ∨ w = 4 ∨ w = 5 ∨ w = 6 ∨ w = 7 ∨ w = 8 ∨ w = 9 by omega) with rfl | rfl | rfl | rfl | rfl | rfl | rfl | rfl | rfl | rfl
  · refine lv_tableIn (off := 51) (tgt := 52) hx hb dX0_number_1 (by decide) (by decide) rfl (by decide) ?_
    refine lv_aload_n hx hb dX0_number_52 rfl (lv_at hl 0 rfl) ?_
    refine getC 5 0 rfl hx hb hts hown hK hG (by decide) (by decide) (by decide) (by decide) qF_X0_60 rfl dX0_number_53 ?_
    have hG9 := hG
    exact W.iret hx hb hr (fun t ht hW => gQi_of (by unfold fR_X0_number; (try dsimp only); (try rfl)) hG9 hS ht) hS.2.2 dX0_number_56
  · refine lv_tableIn (off := 56) (tgt := 57) hx hb dX0_number_1 (by decide) (by decide) rfl (by decide) ?_
    refine lv_aload_n hx hb dX0_number_57 rfl (lv_at hl 0 rfl) ?_
    refine getC 1 1 rfl hx hb hts hown hK hG (by decide) (by decide) (by decide) (by decide) qF_X0_44 rfl dX0_number_58 ?_
    have hG9 := hG
    exact W.iret hx hb hr (fun t ht hW => gQi_of (by unfold fR_X0_number; (try dsimp only); (try rfl)) hG9 hS ht) hS.2.2 dX0_number_61
  · refine lv_tableIn (off := 61) (tgt := 62) hx hb dX0_number_1 (by decide) (by decide) rfl (by decide) ?_
    refine lv_aload_n hx hb dX0_number_62 rfl (lv_at hl 0 rfl) ?_
    refine getC 3 2 rfl hx hb hts hown hK hG (by decide) (by decide) (by decide) (by decide) qF_X0_51 rfl dX0_number_63 ?_
    have hG9 := hG
    exact W.iret hx hb hr (fun t ht hW => gQi_of (by unfold fR_X0_number; (try dsimp only); (try rfl)) hG9 hS ht) hS.2.2 dX0_number_66
  · refine lv_tableIn (off := 66) (tgt := 67) hx hb dX0_number_1 (by decide) (by decide) rfl (by decide) ?_
    refine lv_aload_n hx hb dX0_number_67 rfl (lv_at hl 0 rfl) ?_
    refine getC 6 3 rfl hx hb hts hown hK hG (by decide) (by decide) (by decide) (by decide) qF_X0_29 rfl dX0_number_68 ?_
    have hG9 := hG
    exact W.iret hx hb hr (fun t ht hW => gQi_of (by unfold fR_X0_number; (try dsimp only); (try rfl)) hG9 hS ht) hS.2.2 dX0_number_71
  · refine lv_tableIn (off := 71) (tgt := 72) hx hb dX0_number_1 (by decide) (by decide) rfl (by decide) ?_
    refine lv_aload_n hx hb dX0_number_72 rfl (lv_at hl 0 rfl) ?_
    refine getC 7 4 rfl hx hb hts hown hK hG (by decide) (by decide) (by decide) (by decide) qF_X0_33 rfl dX0_number_73 ?_
    have hG9 := hG
    exact W.iret hx hb hr (fun t ht hW => gQi_of (by unfold fR_X0_number; (try dsimp only); (try rfl)) hG9 hS ht) hS.2.2 dX0_number_76
  · refine lv_tableIn (off := 76) (tgt := 77) hx hb dX0_number_1 (by decide) (by decide) rfl (by decide) ?_
    refine lv_aload_n hx hb dX0_number_77 rfl (lv_at hl 0 rfl) ?_
    refine gcVi (As := []) (rest := []) hx hb hml hown hts hl.1 hK (c_X0_complaints l D b P) (gaV qM_X0_69 qI_X0_complaints qS_X0_complaints qK_X0 qC_X0_complaints) hdv_X0_complaints ⟨Nat.le_of_ble_eq_true rfl, Nat.le_of_ble_eq_true rfl⟩ hG (hG.recvC hK) rfl (Nat.le_of_ble_eq_true rfl) ⟨Nat.zero_le _, Nat.zero_le _⟩ dX0_number_78 hS hA (fun H locs hG _ _ hS => ?_)
    have hG : Graph D b P H := hG
    have hG9 := hG
    exact W.iret hx hb hr (fun t ht hW => gQi_of (by unfold fR_X0_number; (try dsimp only); (try rfl)) hG9 hS ht) hS.2.2 dX0_number_81
  · refine lv_tableIn (off := 81) (tgt := 82) hx hb dX0_number_1 (by decide) (by decide) rfl (by decide) ?_
    refine lv_aload_n hx hb dX0_number_82 rfl (lv_at hl 0 rfl) ?_
    refine getC 8 6 rfl hx hb hts hown hK hG (by decide) (by decide) (by decide) (by decide) qF_X0_63 rfl dX0_number_83 ?_
    have hG9 := hG
    exact W.iret hx hb hr (fun t ht hW => gQi_of (by unfold fR_X0_number; (try dsimp only); (try rfl)) hG9 hS ht) hS.2.2 dX0_number_86
  · refine lv_tableIn (off := 86) (tgt := 87) hx hb dX0_number_1 (by decide) (by decide) rfl (by decide) ?_
    refine lv_aload_n hx hb dX0_number_87 rfl (lv_at hl 0 rfl) ?_
    refine gcVi (As := []) (rest := []) hx hb hml hown hts hl.1 hK (c_X0_dueStreets l D b P hwf) (gaV qM_X0_73 qI_X0_dueStreets qS_X0_dueStreets qK_X0 qC_X0_dueStreets) hdv_X0_dueStreets ⟨Nat.le_of_ble_eq_true rfl, Nat.le_of_ble_eq_true rfl⟩ hG (hG.recvC hK) rfl (Nat.le_of_ble_eq_true rfl) ⟨Nat.zero_le _, Nat.zero_le _⟩ dX0_number_88 hS hA (fun H locs hG _ _ hS => ?_)
    have hG : Graph D b P H := hG
    have hG9 := hG
    exact W.iret hx hb hr (fun t ht hW => gQi_of (by unfold fR_X0_number; (try dsimp only); (try rfl)) hG9 hS ht) hS.2.2 dX0_number_91
  · refine lv_tableIn (off := 91) (tgt := 92) hx hb dX0_number_1 (by decide) (by decide) rfl (by decide) ?_
    refine lv_aload_n hx hb dX0_number_92 rfl (lv_at hl 0 rfl) ?_
    refine getC 9 7 rfl hx hb hts hown hK hG (by decide) (by decide) (by decide) (by decide) qF_X0_36 rfl dX0_number_93 ?_
    have hG9 := hG
    exact W.iret hx hb hr (fun t ht hW => gQi_of (by unfold fR_X0_number; (try dsimp only); (try rfl)) hG9 hS ht) hS.2.2 dX0_number_96
  · refine lv_tableOut (tgt := 97) hx hb dX0_number_1 (by decide) (by decide) ?_
    refine lv_aload_n hx hb dX0_number_97 rfl (lv_at hl 0 rfl) ?_
    refine getC 10 8 rfl hx hb hts hown hK hG (by decide) (by decide) (by decide) (by decide) qF_X0_66 rfl dX0_number_98 ?_
    have hG9 := hG
    exact W.iret hx hb hr (fun t ht hW => gQi_of (by unfold fR_X0_number; (try dsimp only); (try rfl)) hG9 hS ht) hS.2.2 dX0_number_101
theorem hdv_X0_numberOfStreet : yX0_numberOfStreet.cls = RX0 ∧ yX0_numberOfStreet.cls ≠ "java/lang/invoke/MethodHandle" ∧ yX0_numberOfStreet.cls ≠ "java/lang/invoke/VarHandle" ∧ (parseMethodDescriptor yX0_numberOfStreet.desc).map (fun d => d.parameters.length) = some 2 := by decide +kernel
def fR_X0_numberOfStreet (P : Nat → Int32) (i : Nat) (w : Nat) : Int32 :=
  if w = 0 then
    P (9 + 8 * i + 0)
  else
    if w = 1 then
      P (9 + 8 * i + 1)
    else
      if w = 2 then
        P (9 + 8 * i + 2)
      else
        if w = 3 then
          P (9 + 8 * i + 3)
        else
          if w = 4 then
            P (9 + 8 * i + 4)
          else
            if w = 5 then
              P (9 + 8 * i + 5)
            else
              if w = 6 then
                if fR_X0_isDue P i = 0 then
                  0
                else
                  1
              else
                if w = 7 then
                  P (9 + 8 * i + 6)
                else
                  P (9 + 8 * i + 7)
set_option maxHeartbeats 4000000 in
set_option maxRecDepth 100000 in
theorem c_X0_numberOfStreet (l : Launch) (D : va_G) (b : Nat) (P : Nat → Int32) (i : Nat) (w : Nat) (hi : i < 20) (hw : w < 9) (hp : okR P i) : Met l yX0_numberOfStreet (wA yX0_numberOfStreet cX0_numberOfStreet 3 (some .int)) (rmL 1) (gPc D [.ref b, .ref (b + 4 + i), .int (nI w)] (fun H => Graph D b P H)) (gQi (inG b) (fR_X0_numberOfStreet P i w) (fun H => Graph D b P H)) 0 0 (inG b) := by
  refine Met.ofW (cc := cX0_numberOfStreet) (maxL := 3) (ret := (some .int)) (by decide) rfl ?_
  intro p e s m args below meth c s₁ B hml hv
  obtain ⟨hav, hG, hK⟩ := hv
  have hx := B.exec
  have hb := B.bytes
  have hr := B.returns
  have hts0 := atoms_spec (ws := wA yX0_numberOfStreet cX0_numberOfStreet 3 (some .int)) B.pre
  have hts : ∀ w ∈ AW, w.before _ s = true := fun w h => hts0 w (List.mem_cons_of_mem _ h)
  have hown : s.vm.findClass RX0 = some m.cls := findClass_of_methodNamed B.named
  have hlocks := B.notSynchronized
  have hA : ∀ q, (inG b) q → (inG b) q := fun _ h => h
  have hS : va_S (inG b) s.heap s.heap [] := va_S.rf
  have hG : Graph D b P s.heap := hG
  have hl := lv_entry ([.ref b, .ref (b + 4 + i), .int (nI w)]) (n := 3) (Nat.le_of_ble_eq_true rfl)
  refine W.eq (g2 := entryFrame m ([.ref b, .ref (b + 4 + i), .int (nI w)] : List Value).toArray 3) (by rw [hav]) ?_
  rw [lg_entry_eq]
  generalize (lg_sl ([.ref b, .ref (b + 4 + i), .int (nI w)]) ++ List.replicate (3 - (lg_sl ([.ref b, .ref (b + 4 + i), .int (nI w)])).length) Slot.unset).toArray = ls at hl ⊢
  have hl : lv_has ls 3 [(0, .ref b), (1, .ref (b + 4 + i)), (2, .int (nI w))] := hl
  refine lv_iload_n hx hb dX0_numberOfStreet_0 rfl (lv_at hl 2 rfl) ?_
  rcases (show w = 0 ∨ w = 1 ∨ w = 2 ∨ w = 3 ∨ w = 4 ∨ w = 5 ∨ w = 6 ∨ w = 7 ∨ w = 8 by omega) with rfl | rfl | rfl | rfl | rfl | rfl | rfl | rfl | rfl
  · refine lv_tableIn (off := 47) (tgt := 48) hx hb dX0_numberOfStreet_1 (by decide) (by decide) rfl (by decide) ?_
    refine lv_aload_n hx hb dX0_numberOfStreet_48 rfl (lv_at hl 1 rfl) ?_
    refine getS 0 (i := i) hx hb hts hown hK hG (by omega) (by decide) qF_X0_76 rfl dX0_numberOfStreet_49 ?_
    have hG9 := hG
    exact W.iret hx hb hr (fun t ht hW => gQi_of (by unfold fR_X0_numberOfStreet; (try dsimp only); (try rfl)) hG9 hS ht) hS.2.2 dX0_numberOfStreet_52
  · refine lv_tableIn (off := 52) (tgt := 53) hx hb dX0_numberOfStreet_1 (by decide) (by decide) rfl (by decide) ?_
    refine lv_aload_n hx hb dX0_numberOfStreet_53 rfl (lv_at hl 1 rfl) ?_
    refine getS 1 (i := i) hx hb hts hown hK hG (by omega) (by decide) qF_X0_79 rfl dX0_numberOfStreet_54 ?_
    have hG9 := hG
    exact W.iret hx hb hr (fun t ht hW => gQi_of (by unfold fR_X0_numberOfStreet; (try dsimp only); (try rfl)) hG9 hS ht) hS.2.2 dX0_numberOfStreet_57
  · refine lv_tableIn (off := 57) (tgt := 58) hx hb dX0_numberOfStreet_1 (by decide) (by decide) rfl (by decide) ?_
    refine lv_aload_n hx hb dX0_numberOfStreet_58 rfl (lv_at hl 1 rfl) ?_
    refine getS 2 (i := i) hx hb hts hown hK hG (by omega) (by decide) qF_X0_82 rfl dX0_numberOfStreet_59 ?_
    have hG9 := hG
    exact W.iret hx hb hr (fun t ht hW => gQi_of (by unfold fR_X0_numberOfStreet; (try dsimp only); (try rfl)) hG9 hS ht) hS.2.2 dX0_numberOfStreet_62
  · refine lv_tableIn (off := 62) (tgt := 63) hx hb dX0_numberOfStreet_1 (by decide) (by decide) rfl (by decide) ?_
    refine lv_aload_n hx hb dX0_numberOfStreet_63 rfl (lv_at hl 1 rfl) ?_
    refine getS 3 (i := i) hx hb hts hown hK hG (by omega) (by decide) qF_X0_85 rfl dX0_numberOfStreet_64 ?_
    have hG9 := hG
    exact W.iret hx hb hr (fun t ht hW => gQi_of (by unfold fR_X0_numberOfStreet; (try dsimp only); (try rfl)) hG9 hS ht) hS.2.2 dX0_numberOfStreet_67
  · refine lv_tableIn (off := 67) (tgt := 68) hx hb dX0_numberOfStreet_1 (by decide) (by decide) rfl (by decide) ?_
    refine lv_aload_n hx hb dX0_numberOfStreet_68 rfl (lv_at hl 1 rfl) ?_
    refine getS 4 (i := i) hx hb hts hown hK hG (by omega) (by decide) qF_X0_88 rfl dX0_numberOfStreet_69 ?_
    have hG9 := hG
    exact W.iret hx hb hr (fun t ht hW => gQi_of (by unfold fR_X0_numberOfStreet; (try dsimp only); (try rfl)) hG9 hS ht) hS.2.2 dX0_numberOfStreet_72
  · refine lv_tableIn (off := 72) (tgt := 73) hx hb dX0_numberOfStreet_1 (by decide) (by decide) rfl (by decide) ?_
    refine lv_aload_n hx hb dX0_numberOfStreet_73 rfl (lv_at hl 1 rfl) ?_
    refine getS 5 (i := i) hx hb hts hown hK hG (by omega) (by decide) qF_X0_91 rfl dX0_numberOfStreet_74 ?_
    have hG9 := hG
    exact W.iret hx hb hr (fun t ht hW => gQi_of (by unfold fR_X0_numberOfStreet; (try dsimp only); (try rfl)) hG9 hS ht) hS.2.2 dX0_numberOfStreet_77
  · refine lv_tableIn (off := 77) (tgt := 78) hx hb dX0_numberOfStreet_1 (by decide) (by decide) rfl (by decide) ?_
    refine lv_aload_n hx hb dX0_numberOfStreet_78 rfl (lv_at hl 0 rfl) ?_
    refine lv_aload_n hx hb dX0_numberOfStreet_79 rfl (lv_at hl 1 rfl) ?_
    refine gcVi (As := [.ref (b + 4 + i)]) (rest := []) hx hb hml hown hts hl.1 hK (c_X0_isDue l D b P i (by first | assumption | omega) hp) (gaV qM_X0_94 qI_X0_isDue qS_X0_isDue qK_X0 qC_X0_isDue) hdv_X0_isDue ⟨Nat.le_of_ble_eq_true rfl, Nat.le_of_ble_eq_true rfl⟩ hG (hG.recvC hK) rfl (Nat.le_of_ble_eq_true rfl) ⟨Nat.zero_le _, Nat.zero_le _⟩ dX0_numberOfStreet_80 hS hA (fun H locs hG _ _ hS => ?_)
    have hG : Graph D b P H := hG
    refine lv_if_eq (tgt := 90) hx hb dX0_numberOfStreet_83 (by decide) (fun c83 => ?_) (fun c83 => ?_)
    · refine lv_iconst (v := 0) hx hb dX0_numberOfStreet_90 (by decide) ?_
      have hG9 := hG
      exact W.iret hx hb hr (fun t ht hW => gQi_of (by unfold fR_X0_numberOfStreet; (try dsimp only); (try rw [if_pos c83]); (try rfl)) hG9 hS ht) hS.2.2 dX0_numberOfStreet_91
    · refine lv_iconst (v := 1) hx hb dX0_numberOfStreet_86 (by decide) ?_
      refine lv_goto (tgt := 91) hx hb dX0_numberOfStreet_87 (by decide) ?_
      have hG9 := hG
      exact W.iret hx hb hr (fun t ht hW => gQi_of (by unfold fR_X0_numberOfStreet; (try dsimp only); (try rw [if_neg c83]); (try rfl)) hG9 hS ht) hS.2.2 dX0_numberOfStreet_91
  · refine lv_tableIn (off := 91) (tgt := 92) hx hb dX0_numberOfStreet_1 (by decide) (by decide) rfl (by decide) ?_
    refine lv_aload_n hx hb dX0_numberOfStreet_92 rfl (lv_at hl 1 rfl) ?_
    refine getS 6 (i := i) hx hb hts hown hK hG (by omega) (by decide) qF_X0_98 rfl dX0_numberOfStreet_93 ?_
    have hG9 := hG
    exact W.iret hx hb hr (fun t ht hW => gQi_of (by unfold fR_X0_numberOfStreet; (try dsimp only); (try rfl)) hG9 hS ht) hS.2.2 dX0_numberOfStreet_96
  · refine lv_tableOut (tgt := 97) hx hb dX0_numberOfStreet_1 (by decide) (by decide) ?_
    refine lv_aload_n hx hb dX0_numberOfStreet_97 rfl (lv_at hl 1 rfl) ?_
    refine getS 7 (i := i) hx hb hts hown hK hG (by omega) (by decide) qF_X0_101 rfl dX0_numberOfStreet_98 ?_
    have hG9 := hG
    exact W.iret hx hb hr (fun t ht hW => gQi_of (by unfold fR_X0_numberOfStreet; (try dsimp only); (try rfl)) hG9 hS ht) hS.2.2 dX0_numberOfStreet_101
