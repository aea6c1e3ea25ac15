theorem hdv_X7_runText : yX7_runText.cls = RX7 ∧ yX7_runText.cls ≠ "java/lang/invoke/MethodHandle" ∧ yX7_runText.cls ≠ "java/lang/invoke/VarHandle" ∧ (parseMethodDescriptor yX7_runText.desc).map (fun d => d.parameters.length) = some 0 := by decide +kernel
def fP_X7_runText_L75 (T : Nat → Int32) : Nat → Int32 → (Nat → Int32) → (Nat → Int32) → (Nat → Int32) → Nat → Int32
  | 0, acc, Pl, Vl, Fl =>
    Pl
  | k + 1, acc, Pl, Vl, Fl =>
    if (tl Fl) ≤ (ta Fl) then
      Pl
    else
      let F8 := fF_X7_readItem T Fl
      if fR_X7_readItem T Fl = 0 then
        Pl
      else
        let P9 := fP_X7_hours Pl (F8 9) (F8 10) ((F8 11).toNatClampNeg)
        let x10 := acc + (fR_X7_hours Pl (F8 9) (F8 10) ((F8 11).toNatClampNeg))
        fP_X7_runText_L75 T k x10 P9 Vl F8
def fV_X7_runText_L75 (T : Nat → Int32) : Nat → Int32 → (Nat → Int32) → (Nat → Int32) → (Nat → Int32) → Nat → Int32
  | 0, acc, Pl, Vl, Fl =>
    Vl
  | k + 1, acc, Pl, Vl, Fl =>
    if (tl Fl) ≤ (ta Fl) then
      Vl
    else
      let F8 := fF_X7_readItem T Fl
      if fR_X7_readItem T Fl = 0 then
        Vl
      else
        let P9 := fP_X7_hours Pl (F8 9) (F8 10) ((F8 11).toNatClampNeg)
        let x10 := acc + (fR_X7_hours Pl (F8 9) (F8 10) ((F8 11).toNatClampNeg))
        fV_X7_runText_L75 T k x10 P9 Vl F8
def fF_X7_runText_L75 (T : Nat → Int32) : Nat → Int32 → (Nat → Int32) → (Nat → Int32) → (Nat → Int32) → Nat → Int32
  | 0, acc, Pl, Vl, Fl =>
    Fl
  | k + 1, acc, Pl, Vl, Fl =>
    if (tl Fl) ≤ (ta Fl) then
      Fl
    else
      let F8 := fF_X7_readItem T Fl
      if fR_X7_readItem T Fl = 0 then
        F8
      else
        let P9 := fP_X7_hours Pl (F8 9) (F8 10) ((F8 11).toNatClampNeg)
        let x10 := acc + (fR_X7_hours Pl (F8 9) (F8 10) ((F8 11).toNatClampNeg))
        fF_X7_runText_L75 T k x10 P9 Vl F8
def fR_X7_runText_L75 (T : Nat → Int32) : Nat → Int32 → (Nat → Int32) → (Nat → Int32) → (Nat → Int32) → Int32
  | 0, acc, Pl, Vl, Fl =>
    acc
  | k + 1, acc, Pl, Vl, Fl =>
    if (tl Fl) ≤ (ta Fl) then
      acc
    else
      let F8 := fF_X7_readItem T Fl
      if fR_X7_readItem T Fl = 0 then
        acc
      else
        let P9 := fP_X7_hours Pl (F8 9) (F8 10) ((F8 11).toNatClampNeg)
        let x10 := acc + (fR_X7_hours Pl (F8 9) (F8 10) ((F8 11).toNatClampNeg))
        fR_X7_runText_L75 T k x10 P9 Vl F8
def fP_X7_runText (P : Nat → Int32) (V : Nat → Int32) (T : Nat → Int32) (F : Nat → Int32) : Nat → Int32 :=
  let F1 := fF_X7_allHours T F
  let x2 := fR_X7_allHours T F
  if x2 = (-1) then
    P
  else
    if (P 0) + x2 ≤ 2000 then
      let F4 := upd F1 6 0
      let V5 := fV_X7_keep P V F4
      let F6 := fF_X7_keep P V F4
      let F7 := upd F6 7 0
      fP_X7_runText_L75 T 150 0 P V5 F7
    else
      P
def fV_X7_runText (P : Nat → Int32) (V : Nat → Int32) (T : Nat → Int32) (F : Nat → Int32) : Nat → Int32 :=
  let F1 := fF_X7_allHours T F
  let x2 := fR_X7_allHours T F
  if x2 = (-1) then
    V
  else
    if (P 0) + x2 ≤ 2000 then
      let F4 := upd F1 6 0
      let V5 := fV_X7_keep P V F4
      let F6 := fF_X7_keep P V F4
      let F7 := upd F6 7 0
      fV_X7_runText_L75 T 150 0 P V5 F7
    else
      V
def fF_X7_runText (P : Nat → Int32) (V : Nat → Int32) (T : Nat → Int32) (F : Nat → Int32) : Nat → Int32 :=
  let F1 := fF_X7_allHours T F
  let x2 := fR_X7_allHours T F
  if x2 = (-1) then
    let F3 := upd F1 6 0
    F3
  else
    if (P 0) + x2 ≤ 2000 then
      let F4 := upd F1 6 0
      let V5 := fV_X7_keep P V F4
      let F6 := fF_X7_keep P V F4
      let F7 := upd F6 7 0
      fF_X7_runText_L75 T 150 0 P V5 F7
    else
      let F11 := upd F1 6 1
      F11
def fR_X7_runText (P : Nat → Int32) (V : Nat → Int32) (T : Nat → Int32) (F : Nat → Int32) : Int32 :=
  let F1 := fF_X7_allHours T F
  let x2 := fR_X7_allHours T F
  if x2 = (-1) then
    let F3 := upd F1 6 0
    (-10) - (F3 7)
  else
    if (P 0) + x2 ≤ 2000 then
      let F4 := upd F1 6 0
      let V5 := fV_X7_keep P V F4
      let F6 := fF_X7_keep P V F4
      let F7 := upd F6 7 0
      fR_X7_runText_L75 T 150 0 P V5 F7
    else
      0
set_option maxHeartbeats 4000000 in
set_option maxRecDepth 100000 in
theorem c_X7_runText (l : Launch) (D : va_G) (o : Nat) (P S V T F : Nat → Int32) (h : Int64) (hT : okT F) (hc : okC F) (hw : WF P) : Met l yX7_runText (wA yX7_runText cX7_runText 3 (some .int)) (rmL 6) (gPc D [.ref o] (fun H => Md D o P S V T F h H)) (gQi (inM o) (fR_X7_runText P V T F) (fun H => Md D o (fP_X7_runText P V T F) S (fV_X7_runText P V T F) T (fF_X7_runText P V T F) h H)) 0 0 (inM o) := by
  refine Met.ofW (cc := cX7_runText) (maxL := 3) (ret := (some .int)) (by decide) rfl ?_
  intro p e s m args below meth c s₁ B hml hv
  obtain ⟨hav, hG, hK⟩ := hv
  have hx := B.exec
  have hb := B.bytes
  have hr := B.returns
  have hts0 := atoms_spec (ws := wA yX7_runText cX7_runText 3 (some .int)) B.pre
  have hts : ∀ w ∈ AW, w.before _ s = true := fun w h => hts0 w (List.mem_cons_of_mem _ h)
  have hown : s.vm.findClass RX7 = some m.cls := findClass_of_methodNamed B.named
  have hlocks := B.notSynchronized
  have hA : ∀ q, (inM o) q → (inM o) q := fun _ h => h
  have hS : va_S (inM o) s.heap s.heap [] := va_S.rf
  have hG : Md D o P S V T F h s.heap := hG
  have hl := lv_entry ([.ref o]) (n := 3) (Nat.le_of_ble_eq_true rfl)
  refine W.eq (g2 := entryFrame m ([.ref o] : List Value).toArray 3) (by rw [hav]) ?_
  rw [lg_entry_eq]
  generalize (lg_sl ([.ref o]) ++ List.replicate (3 - (lg_sl ([.ref o])).length) Slot.unset).toArray = ls at hl ⊢
  have hl : lv_has ls 3 [(0, .ref o)] := hl
  have L75 : ∀ (k : Nat) (acc : Int32) (Pl : Nat → Int32) (Vl : Nat → Int32) (Fl : Nat → Int32) (H : Heap) (locs : List Loc) (ls : Array Slot) (hX : okX Fl) (hwl : WF Pl) (hk : tl Fl - ta Fl ≤ k) (hfP : fP_X7_runText P V T F = fP_X7_runText_L75 T k acc Pl Vl Fl) (hfV : fV_X7_runText P V T F = fV_X7_runText_L75 T k acc Pl Vl Fl) (hfF : fF_X7_runText P V T F = fF_X7_runText_L75 T k acc Pl Vl Fl) (hfR : fR_X7_runText P V T F = fR_X7_runText_L75 T k acc Pl Vl Fl) (hG : Md D o Pl S Vl T Fl h H) (hS : va_S (inM o) s.heap H locs) (hl : lv_has ls 3 [(0, .ref o), (2, .int acc)]), W p l e (headSpec (wA yX7_runText cX7_runText 3 (some .int)) (rmL 6)).room s m args below meth c H locs 0 0 (MQ below (gQi (inM o) (fR_X7_runText P V T F) (fun H => Md D o (fP_X7_runText P V T F) S (fV_X7_runText P V T F) T (fF_X7_runText P V T F) h H)) args s 0 0 (inM o)) (F0 m 75 ls []) := by
    intro k
    induction k with
    | zero =>
      intro acc Pl Vl Fl H locs ls hX hwl hk hfP hfV hfF hfR hG hS hl
      have hX2 := hX.1.2
      have hX3 := hX.2.2
      refine lv_aload_n hx hb dX7_runText_75 rfl (lv_at hl 0 rfl) ?_
      refine getM 7 hx hb hts hown hK hG (by decide) qF_X7_127 rfl dX7_runText_76 ?_
      refine topN (n := (ta Fl)) hX.2.1 ?_
      refine lv_aload_n hx hb dX7_runText_79 rfl (lv_at hl 0 rfl) ?_
      refine getM 5 hx hb hts hown hK hG (by decide) qF_X7_124 rfl dX7_runText_80 ?_
      refine topN (n := (tl Fl)) hX.1.1 ?_
      refine lv_icmp_ge (tgt := 115) hx hb dX7_runText_83 (by decide) (fun c83 => ?_) (fun c83 => ?_)
      · have c83 : (tl Fl) ≤ (ta Fl) := (nI_leI (a := (tl Fl)) (b := (ta Fl)) (by omega) (by omega)).mp c83
        refine lv_iload_n hx hb dX7_runText_115 rfl (lv_at hl 1 rfl) ?_
        have hG9 : Md D o (fP_X7_runText P V T F) S (fV_X7_runText P V T F) T (fF_X7_runText P V T F) h H := by
          rw [hfP, fP_X7_runText_L75]; (try dsimp only)
          rw [hfV, fV_X7_runText_L75]; (try dsimp only)
          rw [hfF, fF_X7_runText_L75]; (try dsimp only)
          exact hG
        exact W.iret hx hb hr (fun t ht hW => gQi_of (by rw [hfR, fR_X7_runText_L75]; (try dsimp only); (try rfl)) hG9 hS ht) hS.2.2 dX7_runText_116
      · have c83 : ¬ (tl Fl) ≤ (ta Fl) := fun h => c83 ((nI_leI (a := (tl Fl)) (b := (ta Fl)) (by omega) (by omega)).mpr h)
        exfalso; omega
    | succ k ih =>
      intro acc Pl Vl Fl H locs ls hX hwl hk hfP hfV hfF hfR hG hS hl
      have hX2 := hX.1.2
      have hX3 := hX.2.2
      refine lv_aload_n hx hb dX7_runText_75 rfl (lv_at hl 0 rfl) ?_
      refine getM 7 hx hb hts hown hK hG (by decide) qF_X7_127 rfl dX7_runText_76 ?_
      refine topN (n := (ta Fl)) hX.2.1 ?_
      refine lv_aload_n hx hb dX7_runText_79 rfl (lv_at hl 0 rfl) ?_
      refine getM 5 hx hb hts hown hK hG (by decide) qF_X7_124 rfl dX7_runText_80 ?_
      refine topN (n := (tl Fl)) hX.1.1 ?_
      refine lv_icmp_ge (tgt := 115) hx hb dX7_runText_83 (by decide) (fun c83 => ?_) (fun c83 => ?_)
      · have c83 : (tl Fl) ≤ (ta Fl) := (nI_leI (a := (tl Fl)) (b := (ta Fl)) (by omega) (by omega)).mp c83
        refine lv_iload_n hx hb dX7_runText_115 rfl (lv_at hl 1 rfl) ?_
        have hG9 : Md D o (fP_X7_runText P V T F) S (fV_X7_runText P V T F) T (fF_X7_runText P V T F) h H := by
          rw [hfP, fP_X7_runText_L75]; (try dsimp only); (try rw [if_pos c83])
          rw [hfV, fV_X7_runText_L75]; (try dsimp only); (try rw [if_pos c83])
          rw [hfF, fF_X7_runText_L75]; (try dsimp only); (try rw [if_pos c83])
          exact hG
        exact W.iret hx hb hr (fun t ht hW => gQi_of (by rw [hfR, fR_X7_runText_L75]; (try dsimp only); (try rw [if_pos c83]); (try rfl)) hG9 hS ht) hS.2.2 dX7_runText_116
      · have c83 : ¬ (tl Fl) ≤ (ta Fl) := fun h => c83 ((nI_leI (a := (tl Fl)) (b := (ta Fl)) (by omega) (by omega)).mpr h)
        refine lv_aload_n hx hb dX7_runText_86 rfl (lv_at hl 0 rfl) ?_
        refine gcVi (As := []) (rest := []) hx hb hml hown hts hl.1 hK (c_X7_readItem l D o Pl S Vl T Fl h hX) (gaV qM_X7_155 qI_X7_readItem qS_X7_readItem qK_X7 qC_X7_readItem) hdv_X7_readItem ⟨Nat.le_of_ble_eq_true rfl, Nat.le_of_ble_eq_true rfl⟩ hG (hG.recv hK) rfl (Nat.le_of_ble_eq_true rfl) ⟨Nat.zero_le _, Nat.zero_le _⟩ dX7_runText_87 hS hA (fun H locs hG _ _ hS => ?_)
        have hG : Md D o Pl S Vl T (fF_X7_readItem T Fl) h H := hG
        generalize eF8 : fF_X7_readItem T Fl = F8 at hG
        refine lv_if_eq (tgt := 115) hx hb dX7_runText_90 (by decide) (fun c90 => ?_) (fun c90 => ?_)
        · refine lv_iload_n hx hb dX7_runText_115 rfl (lv_at hl 1 rfl) ?_
          subst eF8
          have hG9 : Md D o (fP_X7_runText P V T F) S (fV_X7_runText P V T F) T (fF_X7_runText P V T F) h H := by
            rw [hfP, fP_X7_runText_L75]; (try dsimp only); (try rw [if_neg c83, if_pos c90])
            rw [hfV, fV_X7_runText_L75]; (try dsimp only); (try rw [if_neg c83, if_pos c90])
            rw [hfF, fF_X7_runText_L75]; (try dsimp only); (try rw [if_neg c83, if_pos c90])
            exact hG
          exact W.iret hx hb hr (fun t ht hW => gQi_of (by rw [hfR, fR_X7_runText_L75]; (try dsimp only); (try rw [if_neg c83, if_pos c90]); (try rfl)) hG9 hS ht) hS.2.2 dX7_runText_116
        · refine lv_iload_n hx hb dX7_runText_93 rfl (lv_at hl 1 rfl) ?_
          refine lv_aload_n hx hb dX7_runText_94 rfl (lv_at hl 0 rfl) ?_
          refine lv_aload_n hx hb dX7_runText_95 rfl (lv_at hl 0 rfl) ?_
          refine getM 9 hx hb hts hown hK hG (by decide) qF_X7_146 rfl dX7_runText_96 ?_
          refine lv_aload_n hx hb dX7_runText_99 rfl (lv_at hl 0 rfl) ?_
          refine getM 10 hx hb hts hown hK hG (by decide) qF_X7_149 rfl dX7_runText_100 ?_
          refine lv_aload_n hx hb dX7_runText_103 rfl (lv_at hl 0 rfl) ?_
          refine getM 11 hx hb hts hown hK hG (by decide) qF_X7_152 rfl dX7_runText_104 ?_
          refine topN (n := (F8 11).toNatClampNeg) (by subst_vars; exact (item_h hX c90).1) ?_
          refine gcVi (As := [.int (F8 9), .int (F8 10), .int (nI ((F8 11).toNatClampNeg))]) (rest := [.int acc]) hx hb hml hown hts hl.1 hK (c_X7_hours l D o Pl S Vl T F8 h (F8 9) (F8 10) ((F8 11).toNatClampNeg) hwl (by subst_vars; have := (item_h hX c90).2; omega)) (gaV qM_X7_103 qI_X7_hours qS_X7_hours qK_X7 qC_X7_hours) hdv_X7_hours ⟨Nat.le_of_ble_eq_true rfl, Nat.le_of_ble_eq_true rfl⟩ hG (hG.recv hK) rfl (Nat.le_of_ble_eq_true rfl) ⟨Nat.zero_le _, Nat.zero_le _⟩ dX7_runText_107 hS hA (fun H locs hG _ _ hS => ?_)
          have hG : Md D o (fP_X7_hours Pl (F8 9) (F8 10) ((F8 11).toNatClampNeg)) S Vl T F8 h H := hG
          generalize eP9 : fP_X7_hours Pl (F8 9) (F8 10) ((F8 11).toNatClampNeg) = P9 at hG
          refine lv_iadd hx hb dX7_runText_110 ?_
          refine lv_topi (fun x10 ex10 => ?_)
          refine lv_istore_n (lv' := [(2, .int x10), (0, .ref o)]) hx hb dX7_runText_111 rfl hl (by decide) rfl (fun ls hl => ?_)
          refine lv_goto (tgt := 75) hx hb dX7_runText_112 (by decide) ?_
          subst ex10
          subst eP9
          subst eF8
          exact ih _ _ _ _ _ _ _ (item_K hX).1.1 (WF_hours hwl) (item_k hX c90 hk) (by rw [hfP, fP_X7_runText_L75]; (try dsimp only); (try rw [if_neg c83, if_neg c90]); (try rfl)) (by rw [hfV, fV_X7_runText_L75]; (try dsimp only); (try rw [if_neg c83, if_neg c90]); (try rfl)) (by rw [hfF, fF_X7_runText_L75]; (try dsimp only); (try rw [if_neg c83, if_neg c90]); (try rfl)) (by rw [hfR, fR_X7_runText_L75]; (try dsimp only); (try rw [if_neg c83, if_neg c90]); (try rfl)) hG hS (lv_sub hl [1, 0] rfl)
  refine lv_aload_n hx hb dX7_runText_0 rfl (lv_at hl 0 rfl) ?_
  refine gcVi (As := []) (rest := []) hx hb hml hown hts hl.1 hK (c_X7_allHours l D o P S V T F h hT) (gaV qM_X7_158 qI_X7_allHours qS_X7_allHours qK_X7 qC_X7_allHours) hdv_X7_allHours ⟨Nat.le_of_ble_eq_true rfl, Nat.le_of_ble_eq_true rfl⟩ hG (hG.recv hK) rfl (Nat.le_of_ble_eq_true rfl) ⟨Nat.zero_le _, Nat.zero_le _⟩ dX7_runText_1 hS hA (fun H locs hG _ _ hS => ?_)
  have hG : Md D o P S V T (fF_X7_allHours T F) h H := hG
  generalize eF1 : fF_X7_allHours T F = F1 at hG
  refine lv_topi (fun x2 ex2 => ?_)
  refine lv_istore_n (lv' := [(1, .int x2), (0, .ref o)]) hx hb dX7_runText_4 rfl hl (by decide) rfl (fun ls hl => ?_)
  refine lv_aload_n hx hb dX7_runText_5 rfl (lv_at hl 1 rfl) ?_
  refine lv_iload_n hx hb dX7_runText_6 rfl (lv_at hl 0 rfl) ?_
  refine lv_iconst (v := (-1)) hx hb dX7_runText_7 (by decide) ?_
  refine lv_icmp_eq (tgt := 29) hx hb dX7_runText_8 (by decide) (fun c8 => ?_) (fun c8 => ?_)
  · refine lv_iconst (v := 0) hx hb dX7_runText_29 (by decide) ?_
    refine putM 6 hx hb hts hown hK hG hS hA (by decide) qF_X7_26 rfl dX7_runText_30 (fun H locs hG hS => ?_)
    generalize eF3 : upd F1 6 0 = F3 at hG
    refine lv_aload_n hx hb dX7_runText_33 rfl (lv_at hl 1 rfl) ?_
    refine getM 6 hx hb hts hown hK hG (by decide) qF_X7_26 rfl dX7_runText_34 ?_
    refine topE (y := 0) (by rw [← eF3, upd_s]) ?_
    refine lv_if_ne (tgt := 45) hx hb dX7_runText_37 (by decide) (fun c37 => ?_) (fun c37 => ?_)
    · exact absurd c37 (by decide)
    · refine lv_iload_n hx hb dX7_runText_40 rfl (lv_at hl 0 rfl) ?_
      refine lv_iconst (v := (-1)) hx hb dX7_runText_41 (by decide) ?_
      refine lv_icmp_ne (tgt := 64) hx hb dX7_runText_42 (by decide) (fun c42 => ?_) (fun c42 => ?_)
      · exact absurd c8 c42
      · refine lv_aload_n hx hb dX7_runText_45 rfl (lv_at hl 1 rfl) ?_
        refine getM 6 hx hb hts hown hK hG (by decide) qF_X7_26 rfl dX7_runText_46 ?_
        refine topE (y := 0) (by rw [← eF3, upd_s]) ?_
        refine lv_if_eq (tgt := 56) hx hb dX7_runText_49 (by decide) (fun c49 => ?_) (fun c49 => ?_)
        · refine lv_bipush (v := (-10)) hx hb dX7_runText_56 (by decide) ?_
          refine lv_aload_n hx hb dX7_runText_58 rfl (lv_at hl 1 rfl) ?_
          refine getM 7 hx hb hts hown hK hG (by decide) qF_X7_127 rfl dX7_runText_59 ?_
          refine lv_isub hx hb dX7_runText_62 ?_
          subst eF3
          subst ex2
          subst eF1
          have hG9 : Md D o (fP_X7_runText P V T F) S (fV_X7_runText P V T F) T (fF_X7_runText P V T F) h H := by
            unfold fP_X7_runText; (try dsimp only); (try rw [if_pos c8])
            unfold fV_X7_runText; (try dsimp only); (try rw [if_pos c8])
            unfold fF_X7_runText; (try dsimp only); (try rw [if_pos c8])
            exact hG
          exact W.iret hx hb hr (fun t ht hW => gQi_of (by unfold fR_X7_runText; (try dsimp only); (try rw [if_pos c8]); (try rfl)) hG9 hS ht) hS.2.2 dX7_runText_63
        · exact absurd c49 (by decide)
  · refine lv_aload_n hx hb dX7_runText_11 rfl (lv_at hl 1 rfl) ?_
    refine getMm hx hb hts hown hK hG qF_X7_7 dX7_runText_12 ?_
    refine lv_iconst (v := 0) hx hb dX7_runText_15 (by decide) ?_
    refine aldMm (k := 0) hx hb hK hG (by omega) dX7_runText_16 ?_
    refine lv_iload_n hx hb dX7_runText_17 rfl (lv_at hl 0 rfl) ?_
    refine lv_iadd hx hb dX7_runText_18 ?_
    refine lv_sipush (v := 2000) hx hb dX7_runText_19 (by decide) ?_
    refine lv_icmp_le (tgt := 29) hx hb dX7_runText_22 (by decide) (fun c22 => ?_) (fun c22 => ?_)
    · refine lv_iconst (v := 0) hx hb dX7_runText_29 (by decide) ?_
      refine putM 6 hx hb hts hown hK hG hS hA (by decide) qF_X7_26 rfl dX7_runText_30 (fun H locs hG hS => ?_)
      generalize eF4 : upd F1 6 0 = F4 at hG
      refine lv_aload_n hx hb dX7_runText_33 rfl (lv_at hl 1 rfl) ?_
      refine getM 6 hx hb hts hown hK hG (by decide) qF_X7_26 rfl dX7_runText_34 ?_
      refine topE (y := 0) (by rw [← eF4, upd_s]) ?_
      refine lv_if_ne (tgt := 45) hx hb dX7_runText_37 (by decide) (fun c37 => ?_) (fun c37 => ?_)
      · exact absurd c37 (by decide)
      · refine lv_iload_n hx hb dX7_runText_40 rfl (lv_at hl 0 rfl) ?_
        refine lv_iconst (v := (-1)) hx hb dX7_runText_41 (by decide) ?_
        refine lv_icmp_ne (tgt := 64) hx hb dX7_runText_42 (by decide) (fun c42 => ?_) (fun c42 => ?_)
        · refine lv_aload_n hx hb dX7_runText_64 rfl (lv_at hl 1 rfl) ?_
          refine gcVv (As := []) (rest := []) hx hb hml hown hts hl.1 hK (c_X7_keep l D o P S V T F4 h (by subst_vars; exact okC_6 (allHours_K hT hc).1)) (gaV qM_X7_48 qI_X7_keep qS_X7_keep qK_X7 qC_X7_keep) hdv_X7_keep ⟨Nat.le_of_ble_eq_true rfl, Nat.le_of_ble_eq_true rfl⟩ hG (hG.recv hK) rfl (Nat.le_of_ble_eq_true rfl) ⟨Nat.zero_le _, Nat.zero_le _⟩ dX7_runText_65 hS hA (fun H locs hG _ _ hS => ?_)
          have hG : Md D o P S (fV_X7_keep P V F4) T (fF_X7_keep P V F4) h H := hG
          generalize eV5 : fV_X7_keep P V F4 = V5 at hG
          generalize eF6 : fF_X7_keep P V F4 = F6 at hG
          refine lv_iconst (v := 0) hx hb dX7_runText_68 (by decide) ?_
          refine lv_istore_n (lv' := [(2, .int 0), (1, .int x2), (0, .ref o)]) hx hb dX7_runText_69 rfl hl (by decide) rfl (fun ls hl => ?_)
          refine lv_aload_n hx hb dX7_runText_70 rfl (lv_at hl 2 rfl) ?_
          refine lv_iconst (v := 0) hx hb dX7_runText_71 (by decide) ?_
          refine putM 7 hx hb hts hown hK hG hS hA (by decide) qF_X7_127 rfl dX7_runText_72 (fun H locs hG hS => ?_)
          generalize eF7 : upd F6 7 0 = F7 at hG
          subst eF7
          subst eF6
          subst eV5
          subst eF4
          subst ex2
          subst eF1
          exact L75 150 _ _ _ _ _ _ _ (okX_7 (n := 0) (runText_T hT hc) (Nat.zero_le _)) hw (k150 (okX_7 (n := 0) (runText_T hT hc) (Nat.zero_le _))) (by unfold fP_X7_runText; (try dsimp only); (try rw [if_neg c8, if_pos c22]); (try rfl)) (by unfold fV_X7_runText; (try dsimp only); (try rw [if_neg c8, if_pos c22]); (try rfl)) (by unfold fF_X7_runText; (try dsimp only); (try rw [if_neg c8, if_pos c22]); (try rfl)) (by unfold fR_X7_runText; (try dsimp only); (try rw [if_neg c8, if_pos c22]); (try rfl)) hG hS (lv_sub hl [2, 0] rfl)
        · exact absurd c42 c8
    · refine lv_iconst (v := 1) hx hb dX7_runText_25 (by decide) ?_
      refine lv_goto (tgt := 30) hx hb dX7_runText_26 (by decide) ?_
      refine putM 6 hx hb hts hown hK hG hS hA (by decide) qF_X7_26 rfl dX7_runText_30 (fun H locs hG hS => ?_)
      generalize eF11 : upd F1 6 1 = F11 at hG
      refine lv_aload_n hx hb dX7_runText_33 rfl (lv_at hl 1 rfl) ?_
      refine getM 6 hx hb hts hown hK hG (by decide) qF_X7_26 rfl dX7_runText_34 ?_
      refine topE (y := 1) (by rw [← eF11, upd_s]) ?_
      refine lv_if_ne (tgt := 45) hx hb dX7_runText_37 (by decide) (fun c37 => ?_) (fun c37 => ?_)
      · refine lv_aload_n hx hb dX7_runText_45 rfl (lv_at hl 1 rfl) ?_
        refine getM 6 hx hb hts hown hK hG (by decide) qF_X7_26 rfl dX7_runText_46 ?_
        refine topE (y := 1) (by rw [← eF11, upd_s]) ?_
        refine lv_if_eq (tgt := 56) hx hb dX7_runText_49 (by decide) (fun c49 => ?_) (fun c49 => ?_)
        · exact absurd c49 (by decide)
        · refine lv_iconst (v := 0) hx hb dX7_runText_52 (by decide) ?_
          refine lv_goto (tgt := 63) hx hb dX7_runText_53 (by decide) ?_
          subst eF11
          subst ex2
          subst eF1
          have hG9 : Md D o (fP_X7_runText P V T F) S (fV_X7_runText P V T F) T (fF_X7_runText P V T F) h H := by
            unfold fP_X7_runText; (try dsimp only); (try rw [if_neg c8, if_neg c22])
            unfold fV_X7_runText; (try dsimp only); (try rw [if_neg c8, if_neg c22])
            unfold fF_X7_runText; (try dsimp only); (try rw [if_neg c8, if_neg c22])
            exact hG
          exact W.iret hx hb hr (fun t ht hW => gQi_of (by unfold fR_X7_runText; (try dsimp only); (try rw [if_neg c8, if_neg c22]); (try rfl)) hG9 hS ht) hS.2.2 dX7_runText_63
      · exact absurd c37 (by decide)
