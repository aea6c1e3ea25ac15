theorem hdv_X6_meanDepth : yX6_meanDepth.cls = RX6 ∧ yX6_meanDepth.cls ≠ "java/lang/invoke/MethodHandle" ∧ yX6_meanDepth.cls ≠ "java/lang/invoke/VarHandle" ∧ (parseMethodDescriptor yX6_meanDepth.desc).map (fun d => d.parameters.length) = some 0 := by decide +kernel
def fR_X6_meanDepth_L7 (C : Nat → Int32) : Nat → Int64 → Int64 → Nat → UInt64
  | 0, sm, al, j =>
    if lg_cmp al 0 = 0 then
      FP.dconst0
    else
      FP.ddiv (FP.l2d sm) (FP.l2d al)
  | k + 1, sm, al, j =>
    let y1 := sm + (((C (9 + 8 * j + 2)).toInt64) * ((C (9 + 8 * j + 0)).toInt64))
    let y2 := al + ((C (9 + 8 * j + 0)).toInt64)
    fR_X6_meanDepth_L7 C k y1 y2 (j + 1)
def fR_X6_meanDepth (C : Nat → Int32) : UInt64 :=
  fR_X6_meanDepth_L7 C (ns C) 0 0 0
set_option maxHeartbeats 4000000 in
set_option maxRecDepth 100000 in
theorem c_X6_meanDepth (l : Launch) (D : va_G) (r : Nat) (C J : Nat → Int32) (G : Nat → Nat → Int32) (n : Nat) (Y X U Z F : Nat → Int32) (hN : okN C) : Met l yX6_meanDepth (wA yX6_meanDepth cX6_meanDepth 7 (some .double)) (rmL 0) (gPc D [.ref r] (fun H => Sn D r C J G n Y X U Z F H)) (gQd (inS r) (fR_X6_meanDepth C) (fun H => Sn D r C J G n Y X U Z F H)) 0 0 (inS r) := by
  refine Met.ofW (cc := cX6_meanDepth) (maxL := 7) (ret := (some .double)) (by decide) rfl ?_
  intro p e s m args below meth c s₁ B hml hv
  obtain ⟨hav, hG, hK⟩ := hv
  have hx := B.exec
  have hb := B.bytes
  have hr := B.returns
  have hts0 := atoms_spec (ws := wA yX6_meanDepth cX6_meanDepth 7 (some .double)) B.pre
  have hts : ∀ w ∈ AW, w.before _ s = true := fun w h => hts0 w (List.mem_cons_of_mem _ h)
  have hown : s.vm.findClass RX6 = some m.cls := findClass_of_methodNamed B.named
  have hlocks := B.notSynchronized
  have hA : ∀ q, (inS r) q → (inS r) q := fun _ h => h
  have hS : va_S (inS r) s.heap s.heap [] := va_S.rf
  have hG : Sn D r C J G n Y X U Z F s.heap := hG
  have hl := lv_entry ([.ref r]) (n := 7) (Nat.le_of_ble_eq_true rfl)
  refine W.eq (g2 := entryFrame m ([.ref r] : List Value).toArray 7) (by rw [hav]) ?_
  rw [lg_entry_eq]
  generalize (lg_sl ([.ref r]) ++ List.replicate (7 - (lg_sl ([.ref r])).length) Slot.unset).toArray = ls at hl ⊢
  have hl : lv_has ls 7 [(0, .ref r)] := hl
  have hn20 := hN.2.1
  have L7 : ∀ (k : Nat) (sm : Int64) (al : Int64) (j : Nat) (H : Heap) (locs : List Loc) (ls : Array Slot) (hik : j + k = ns C) (hfR : fR_X6_meanDepth C = fR_X6_meanDepth_L7 C k sm al j) (hG : Sn D r C J G n Y X U Z F H) (hS : va_S (inS r) s.heap H locs) (hl : lv_has ls 7 [(0, .ref r), (1, .long sm), (3, .long al), (5, .int (nI j))]), W p l e (headSpec (wA yX6_meanDepth cX6_meanDepth 7 (some .double)) (rmL 0)).room s m args below meth c H locs 0 0 (MQ below (gQd (inS r) (fR_X6_meanDepth C) (fun H => Sn D r C J G n Y X U Z F H)) args s 0 0 (inS r)) (F0 m 7 ls []) := by
    intro k
    induction k with
    | zero =>
      intro sm al j H locs ls hik hfR hG hS hl
      refine lv_iload hx hb dX6_meanDepth_7 (lv_at hl 3 rfl) ?_
      refine lv_aload_n hx hb dX6_meanDepth_9 rfl (lv_at hl 0 rfl) ?_
      refine getQc hx hb hts hown hK hG qF_X6_10 dX6_meanDepth_10 ?_
      refine getC 1 1 rfl hx hb hts hown hK hG.gc (by decide) (by decide) (by decide) (by decide) qF_X6_37 rfl dX6_meanDepth_13 ?_
      refine topN (n := (ns C)) hN.1 ?_
      refine lv_icmp_ge (tgt := 62) hx hb dX6_meanDepth_16 (by decide) (fun c16 => ?_) (fun c16 => ?_)
      · have c16 : (ns C) ≤ j := (nI_leI (a := (ns C)) (b := j) (by omega) (by omega)).mp c16
        refine lv_lload_n hx hb dX6_meanDepth_62 rfl (lv_at hl 2 rfl) ?_
        refine lv_lconst (v := 0) hx hb dX6_meanDepth_63 (by decide) ?_
        refine W.lcmp hx hb dX6_meanDepth_64 ?_
        refine lv_if_ne (tgt := 72) hx hb dX6_meanDepth_65 (by decide) (fun c65 => ?_) (fun c65 => ?_)
        · refine lv_lload_n hx hb dX6_meanDepth_72 rfl (lv_at hl 1 rfl) ?_
          refine lv_l2d hx hb dX6_meanDepth_73 ?_
          refine lv_lload_n hx hb dX6_meanDepth_74 rfl (lv_at hl 2 rfl) ?_
          refine lv_l2d hx hb dX6_meanDepth_75 ?_
          refine lv_ddiv hx hb dX6_meanDepth_76 (dd_n c65) ?_
          have hG9 := hG
          exact W.dret hx hb hr (fun t ht hW => gQd_of (by rw [hfR, fR_X6_meanDepth_L7]; (try dsimp only); (try rw [if_neg c65]); (try rfl)) hG9 hS ht) hS.2.2 dX6_meanDepth_77
        · refine lv_dconst0 hx hb dX6_meanDepth_68 ?_
          refine lv_goto (tgt := 77) hx hb dX6_meanDepth_69 (by decide) ?_
          have hG9 := hG
          exact W.dret hx hb hr (fun t ht hW => gQd_of (by rw [hfR, fR_X6_meanDepth_L7]; (try dsimp only); (try rw [if_pos c65]); (try rfl)) hG9 hS ht) hS.2.2 dX6_meanDepth_77
      · have c16 : ¬ (ns C) ≤ j := fun h => c16 ((nI_leI (a := (ns C)) (b := j) (by omega) (by omega)).mpr h)
        exfalso; omega
    | succ k ih =>
      intro sm al j H locs ls hik hfR hG hS hl
      refine lv_iload hx hb dX6_meanDepth_7 (lv_at hl 3 rfl) ?_
      refine lv_aload_n hx hb dX6_meanDepth_9 rfl (lv_at hl 0 rfl) ?_
      refine getQc hx hb hts hown hK hG qF_X6_10 dX6_meanDepth_10 ?_
      refine getC 1 1 rfl hx hb hts hown hK hG.gc (by decide) (by decide) (by decide) (by decide) qF_X6_37 rfl dX6_meanDepth_13 ?_
      refine topN (n := (ns C)) hN.1 ?_
      refine lv_icmp_ge (tgt := 62) hx hb dX6_meanDepth_16 (by decide) (fun c16 => ?_) (fun c16 => ?_)
      · have c16 : (ns C) ≤ j := (nI_leI (a := (ns C)) (b := j) (by omega) (by omega)).mp c16
        exfalso; omega
      · have c16 : ¬ (ns C) ≤ j := fun h => c16 ((nI_leI (a := (ns C)) (b := j) (by omega) (by omega)).mpr h)
        refine lv_aload_n hx hb dX6_meanDepth_19 rfl (lv_at hl 0 rfl) ?_
        refine getQc hx hb hts hown hK hG qF_X6_10 dX6_meanDepth_20 ?_
        refine getCs hx hb hts hown hK hG.gc qF_X6_52 dX6_meanDepth_23 ?_
        refine lv_iload hx hb dX6_meanDepth_26 (lv_at hl 3 rfl) ?_
        refine aldS (i := j) hx hb hK hG.gc (by omega) dX6_meanDepth_28 ?_
        refine lv_astore (lv' := [(6, .ref (r + 1 + 4 + j)), (0, .ref r), (1, .long sm), (3, .long al), (5, .int (nI j))]) hx hb dX6_meanDepth_29 hl (by decide) rfl (fun ls hl => ?_)
        refine lv_lload_n hx hb dX6_meanDepth_31 rfl (lv_at hl 2 rfl) ?_
        refine lv_aload hx hb dX6_meanDepth_32 (lv_at hl 0 rfl) ?_
        refine getS 2 (i := j) hx hb hts hown hK hG.gc (by omega) (by decide) qF_X6_153 rfl dX6_meanDepth_34 ?_
        refine lv_i2l (v := (C (9 + 8 * j + 2)).toInt64) hx hb dX6_meanDepth_37 rfl ?_
        refine lv_aload hx hb dX6_meanDepth_38 (lv_at hl 0 rfl) ?_
        refine getS 0 (i := j) hx hb hts hown hK hG.gc (by omega) (by decide) qF_X6_156 rfl dX6_meanDepth_40 ?_
        refine lv_i2l (v := (C (9 + 8 * j + 0)).toInt64) hx hb dX6_meanDepth_43 rfl ?_
        refine lv_lmul hx hb dX6_meanDepth_44 ?_
        refine lv_ladd hx hb dX6_meanDepth_45 ?_
        refine lv_topl (fun y1 ey1 => ?_)
        refine lv_lstore_n (lv' := [(1, .long y1), (6, .ref (r + 1 + 4 + j)), (0, .ref r), (3, .long al), (5, .int (nI j))]) hx hb dX6_meanDepth_46 rfl hl (by decide) rfl (fun ls hl => ?_)
        refine lv_lload_n hx hb dX6_meanDepth_47 rfl (lv_at hl 3 rfl) ?_
        refine lv_aload hx hb dX6_meanDepth_48 (lv_at hl 1 rfl) ?_
        refine getS 0 (i := j) hx hb hts hown hK hG.gc (by omega) (by decide) qF_X6_156 rfl dX6_meanDepth_50 ?_
        refine lv_i2l (v := (C (9 + 8 * j + 0)).toInt64) hx hb dX6_meanDepth_53 rfl ?_
        refine lv_ladd hx hb dX6_meanDepth_54 ?_
        refine lv_topl (fun y2 ey2 => ?_)
        refine lv_lstore_n (lv' := [(3, .long y2), (1, .long y1), (6, .ref (r + 1 + 4 + j)), (0, .ref r), (5, .int (nI j))]) hx hb dX6_meanDepth_55 rfl hl (by decide) rfl (fun ls hl => ?_)
        refine lv_iinc (v := nI (j + 1)) (lv' := [(5, .int (nI (j + 1))), (3, .long y2), (1, .long y1), (6, .ref (r + 1 + 4 + j)), (0, .ref r)]) hx hb dX6_meanDepth_56 hl (k := 4) rfl (nI_add j 1) (by decide) rfl (fun ls hl => ?_)
        refine lv_goto (tgt := 7) hx hb dX6_meanDepth_59 (by decide) ?_
        subst ey2
        subst ey1
        exact ih _ _ (j + 1) _ _ _ (by first | assumption | omega) (by rw [hfR, fR_X6_meanDepth_L7]; (try dsimp only); (try rfl)) hG hS (lv_sub hl [4, 2, 1, 0] rfl)
  refine lv_lconst (v := 0) hx hb dX6_meanDepth_0 (by decide) ?_
  refine lv_lstore_n (lv' := [(1, .long 0), (0, .ref r)]) hx hb dX6_meanDepth_1 rfl hl (by decide) rfl (fun ls hl => ?_)
  refine lv_lconst (v := 0) hx hb dX6_meanDepth_2 (by decide) ?_
  refine lv_lstore_n (lv' := [(3, .long 0), (1, .long 0), (0, .ref r)]) hx hb dX6_meanDepth_3 rfl hl (by decide) rfl (fun ls hl => ?_)
  refine lv_iconst (v := 0) hx hb dX6_meanDepth_4 (by decide) ?_
  refine lv_istore (lv' := [(5, .int 0), (3, .long 0), (1, .long 0), (0, .ref r)]) hx hb dX6_meanDepth_5 hl (by decide) rfl (fun ls hl => ?_)
  exact L7 (ns C) _ _ 0 _ _ _ (by first | assumption | omega) (by unfold fR_X6_meanDepth; (try dsimp only); (try rfl)) hG hS (lv_sub hl [3, 2, 1, 0] rfl)
def fF_X7_meanDepth_L12 (P : Nat → Int32) : Nat → Int64 → Int64 → Nat → (Nat → Int32) → Nat → Int32
  | 0, sm, al, j, Fl =>
    if lg_cmp al 0 = 0 then
      Fl
    else
      Fl
  | k + 1, sm, al, j, Fl =>
    let y2 := sm + (((fR_X7_of P j 2).toInt64) * ((fR_X7_of P j 0).toInt64))
    let y3 := al + ((fR_X7_of P j 0).toInt64)
    fF_X7_meanDepth_L12 P k y2 y3 (j + 1) Fl
def fR_X7_meanDepth_L12 (P : Nat → Int32) : Nat → Int64 → Int64 → Nat → (Nat → Int32) → UInt64
  | 0, sm, al, j, Fl =>
    if lg_cmp al 0 = 0 then
      FP.dconst0
    else
      FP.ddiv (FP.l2d sm) (FP.l2d al)
  | k + 1, sm, al, j, Fl =>
    let y2 := sm + (((fR_X7_of P j 2).toInt64) * ((fR_X7_of P j 0).toInt64))
    let y3 := al + ((fR_X7_of P j 0).toInt64)
    fR_X7_meanDepth_L12 P k y2 y3 (j + 1) Fl
def fF_X7_meanDepth (P : Nat → Int32) (F : Nat → Int32) : Nat → Int32 :=
  let F1 := upd F 6 0
  fF_X7_meanDepth_L12 P (ns P) 0 0 0 F1
def fR_X7_meanDepth (P : Nat → Int32) (F : Nat → Int32) : UInt64 :=
  let F1 := upd F 6 0
  fR_X7_meanDepth_L12 P (ns P) 0 0 0 F1
