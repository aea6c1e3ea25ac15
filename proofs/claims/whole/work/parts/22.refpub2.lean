theorem hdv_X7_addStreet : yX7_addStreet.cls = RX7 ∧ yX7_addStreet.cls ≠ "java/lang/invoke/MethodHandle" ∧ yX7_addStreet.cls ≠ "java/lang/invoke/VarHandle" ∧ (parseMethodDescriptor yX7_addStreet.desc).map (fun d => d.parameters.length) = some 2 := by decide +kernel
def fP_X7_addStreet_L74 (len : Int32) (pri : Int32) : Nat → Nat → Nat → (Nat → Int32) → (Nat → Int32) → (Nat → Int32) → Nat → Int32
  | 0, a, j, Pl, Vl, Fl =>
    let x5 := (Pl 1) + 1
    let P6 := upd Pl 1 x5
    P6
  | k + 1, a, j, Pl, Vl, Fl =>
    if j = 0 then
      let P10 := upd Pl (a + j) len
      fP_X7_addStreet_L74 len pri k a (j + 1) P10 Vl Fl
    else
      if j = 1 then
        let P9 := upd Pl (a + j) pri
        fP_X7_addStreet_L74 len pri k a (j + 1) P9 Vl Fl
      else
        if j = 7 then
          let P8 := upd Pl (a + j) (-1)
          fP_X7_addStreet_L74 len pri k a (j + 1) P8 Vl Fl
        else
          let P7 := upd Pl (a + j) 0
          fP_X7_addStreet_L74 len pri k a (j + 1) P7 Vl Fl
def fV_X7_addStreet_L74 (len : Int32) (pri : Int32) : Nat → Nat → Nat → (Nat → Int32) → (Nat → Int32) → (Nat → Int32) → Nat → Int32
  | 0, a, j, Pl, Vl, Fl =>
    Vl
  | k + 1, a, j, Pl, Vl, Fl =>
    if j = 0 then
      let P10 := upd Pl (a + j) len
      fV_X7_addStreet_L74 len pri k a (j + 1) P10 Vl Fl
    else
      if j = 1 then
        let P9 := upd Pl (a + j) pri
        fV_X7_addStreet_L74 len pri k a (j + 1) P9 Vl Fl
      else
        if j = 7 then
          let P8 := upd Pl (a + j) (-1)
          fV_X7_addStreet_L74 len pri k a (j + 1) P8 Vl Fl
        else
          let P7 := upd Pl (a + j) 0
          fV_X7_addStreet_L74 len pri k a (j + 1) P7 Vl Fl
def fF_X7_addStreet_L74 (len : Int32) (pri : Int32) : Nat → Nat → Nat → (Nat → Int32) → (Nat → Int32) → (Nat → Int32) → Nat → Int32
  | 0, a, j, Pl, Vl, Fl =>
    Fl
  | k + 1, a, j, Pl, Vl, Fl =>
    if j = 0 then
      let P10 := upd Pl (a + j) len
      fF_X7_addStreet_L74 len pri k a (j + 1) P10 Vl Fl
    else
      if j = 1 then
        let P9 := upd Pl (a + j) pri
        fF_X7_addStreet_L74 len pri k a (j + 1) P9 Vl Fl
      else
        if j = 7 then
          let P8 := upd Pl (a + j) (-1)
          fF_X7_addStreet_L74 len pri k a (j + 1) P8 Vl Fl
        else
          let P7 := upd Pl (a + j) 0
          fF_X7_addStreet_L74 len pri k a (j + 1) P7 Vl Fl
def fR_X7_addStreet_L74 (len : Int32) (pri : Int32) : Nat → Nat → Nat → (Nat → Int32) → (Nat → Int32) → (Nat → Int32) → Int32
  | 0, a, j, Pl, Vl, Fl =>
    let x5 := (Pl 1) + 1
    let P6 := upd Pl 1 x5
    (P6 1) - 1
  | k + 1, a, j, Pl, Vl, Fl =>
    if j = 0 then
      let P10 := upd Pl (a + j) len
      fR_X7_addStreet_L74 len pri k a (j + 1) P10 Vl Fl
    else
      if j = 1 then
        let P9 := upd Pl (a + j) pri
        fR_X7_addStreet_L74 len pri k a (j + 1) P9 Vl Fl
      else
        if j = 7 then
          let P8 := upd Pl (a + j) (-1)
          fR_X7_addStreet_L74 len pri k a (j + 1) P8 Vl Fl
        else
          let P7 := upd Pl (a + j) 0
          fR_X7_addStreet_L74 len pri k a (j + 1) P7 Vl Fl
def fP_X7_addStreet (P : Nat → Int32) (V : Nat → Int32) (F : Nat → Int32) (len : Int32) (pri : Int32) : Nat → Int32 :=
  if fR_X7_in len 10 2000 = 0 then
    P
  else
    if fR_X7_in pri 0 2 = 0 then
      P
    else
      if (ns P) = 20 then
        P
      else
        let F2 := upd F 6 0
        let V3 := fV_X7_keep P V F2
        let F4 := fF_X7_keep P V F2
        fP_X7_addStreet_L74 len pri 8 (9 + (8 * (ns P))) 0 P V3 F4
def fV_X7_addStreet (P : Nat → Int32) (V : Nat → Int32) (F : Nat → Int32) (len : Int32) (pri : Int32) : Nat → Int32 :=
  if fR_X7_in len 10 2000 = 0 then
    V
  else
    if fR_X7_in pri 0 2 = 0 then
      V
    else
      if (ns P) = 20 then
        V
      else
        let F2 := upd F 6 0
        let V3 := fV_X7_keep P V F2
        let F4 := fF_X7_keep P V F2
        fV_X7_addStreet_L74 len pri 8 (9 + (8 * (ns P))) 0 P V3 F4
def fF_X7_addStreet (P : Nat → Int32) (V : Nat → Int32) (F : Nat → Int32) (len : Int32) (pri : Int32) : Nat → Int32 :=
  if fR_X7_in len 10 2000 = 0 then
    let F1 := upd F 6 1
    F1
  else
    if fR_X7_in pri 0 2 = 0 then
      let F12 := upd F 6 1
      F12
    else
      if (ns P) = 20 then
        let F11 := upd F 6 2
        F11
      else
        let F2 := upd F 6 0
        let V3 := fV_X7_keep P V F2
        let F4 := fF_X7_keep P V F2
        fF_X7_addStreet_L74 len pri 8 (9 + (8 * (ns P))) 0 P V3 F4
def fR_X7_addStreet (P : Nat → Int32) (V : Nat → Int32) (F : Nat → Int32) (len : Int32) (pri : Int32) : Int32 :=
  if fR_X7_in len 10 2000 = 0 then
    0
  else
    if fR_X7_in pri 0 2 = 0 then
      0
    else
      if (ns P) = 20 then
        0
      else
        let F2 := upd F 6 0
        let V3 := fV_X7_keep P V F2
        let F4 := fF_X7_keep P V F2
        fR_X7_addStreet_L74 len pri 8 (9 + (8 * (ns P))) 0 P V3 F4
set_option maxHeartbeats 4000000 in
set_option maxRecDepth 100000 in
theorem c_X7_addStreet (l : Launch) (D : va_G) (o : Nat) (P S V T F : Nat → Int32) (h : Int64) (len : Int32) (pri : Int32) (hN : okN P) (hc : okC F) : Met l yX7_addStreet (wA yX7_addStreet cX7_addStreet 5 (some .int)) (rmL 2) (gPc D [.ref o, .int len, .int pri] (fun H => Md D o P S V T F h H)) (gQi (inM o) (fR_X7_addStreet P V F len pri) (fun H => Md D o (fP_X7_addStreet P V F len pri) S (fV_X7_addStreet P V F len pri) T (fF_X7_addStreet P V F len pri) h H)) 0 0 (inM o) := by
  refine Met.ofW (cc := cX7_addStreet) (maxL := 5) (ret := (some .int)) (by decide) rfl ?_
  intro p e s m args below meth c s₁ B hml hv
  obtain ⟨hav, hG, hK⟩ := hv
  have hx := B.exec
  have hb := B.bytes
  have hr := B.returns
  have hts0 := atoms_spec (ws := wA yX7_addStreet cX7_addStreet 5 (some .int)) B.pre
  have hts : ∀ w ∈ AW, w.before _ s = true := fun w h => hts0 w (List.mem_cons_of_mem _ h)
  have hown : s.vm.findClass RX7 = some m.cls := findClass_of_methodNamed B.named
  have hlocks := B.notSynchronized
  have hA : ∀ q, (inM o) q → (inM o) q := fun _ h => h
  have hS : va_S (inM o) s.heap s.heap [] := va_S.rf
  have hG : Md D o P S V T F h s.heap := hG
  have hl := lv_entry ([.ref o, .int len, .int pri]) (n := 5) (Nat.le_of_ble_eq_true rfl)
  refine W.eq (g2 := entryFrame m ([.ref o, .int len, .int pri] : List Value).toArray 5) (by rw [hav]) ?_
  rw [lg_entry_eq]
  generalize (lg_sl ([.ref o, .int len, .int pri]) ++ List.replicate (5 - (lg_sl ([.ref o, .int len, .int pri])).length) Slot.unset).toArray = ls at hl ⊢
  have hl : lv_has ls 5 [(0, .ref o), (1, .int len), (2, .int pri)] := hl
  have hn20 := hN.2.1
  have L74 : ∀ (k : Nat) (a : Nat) (j : Nat) (Pl : Nat → Int32) (Vl : Nat → Int32) (Fl : Nat → Int32) (H : Heap) (locs : List Loc) (ls : Array Slot) (ha : a + 8 ≤ 169) (hik : j + k = 8) (hfP : fP_X7_addStreet P V F len pri = fP_X7_addStreet_L74 len pri k a j Pl Vl Fl) (hfV : fV_X7_addStreet P V F len pri = fV_X7_addStreet_L74 len pri k a j Pl Vl Fl) (hfF : fF_X7_addStreet P V F len pri = fF_X7_addStreet_L74 len pri k a j Pl Vl Fl) (hfR : fR_X7_addStreet P V F len pri = fR_X7_addStreet_L74 len pri k a j Pl Vl Fl) (hG : Md D o Pl S Vl T Fl h H) (hS : va_S (inM o) s.heap H locs) (hl : lv_has ls 5 [(0, .ref o), (1, .int len), (2, .int pri), (3, .int (nI a)), (4, .int (nI j))]), W p l e (headSpec (wA yX7_addStreet cX7_addStreet 5 (some .int)) (rmL 2)).room s m args below meth c H locs 0 0 (MQ below (gQi (inM o) (fR_X7_addStreet P V F len pri) (fun H => Md D o (fP_X7_addStreet P V F len pri) S (fV_X7_addStreet P V F len pri) T (fF_X7_addStreet P V F len pri) h H)) args s 0 0 (inM o)) (F0 m 74 ls []) := by
    intro k
    induction k with
    | zero =>
      intro a j Pl Vl Fl H locs ls ha hik hfP hfV hfF hfR hG hS hl
      refine lv_iload hx hb dX7_addStreet_74 (lv_at hl 4 rfl) ?_
      refine lv_bipush (v := 8) hx hb dX7_addStreet_76 (by decide) ?_
      refine lv_icmp_ge (tgt := 127) hx hb dX7_addStreet_78 (by decide) (fun c78 => ?_) (fun c78 => ?_)
      · have c78 : 8 ≤ j := (nI_leI (a := 8) (b := j) (by omega) (by omega)).mp c78
        refine lv_aload_n hx hb dX7_addStreet_127 rfl (lv_at hl 0 rfl) ?_
        refine getMm hx hb hts hown hK hG qF_X7_7 dX7_addStreet_128 ?_
        refine lv_iconst (v := 1) hx hb dX7_addStreet_131 (by decide) ?_
        refine lv_dup2_11 hx hb dX7_addStreet_132 rfl rfl ?_
        refine aldMm (k := 1) hx hb hK hG (by omega) dX7_addStreet_133 ?_
        refine lv_iconst (v := 1) hx hb dX7_addStreet_134 (by decide) ?_
        refine lv_iadd hx hb dX7_addStreet_135 ?_
        refine lv_topi (fun x5 ex5 => ?_)
        refine astMm (k := 1) hx hb hK hG hS hA (by omega) dX7_addStreet_136 (fun H locs hG hS => ?_)
        generalize eP6 : upd Pl 1 x5 = P6 at hG
        refine lv_aload_n hx hb dX7_addStreet_137 rfl (lv_at hl 0 rfl) ?_
        refine getMm hx hb hts hown hK hG qF_X7_7 dX7_addStreet_138 ?_
        refine lv_iconst (v := 1) hx hb dX7_addStreet_141 (by decide) ?_
        refine aldMm (k := 1) hx hb hK hG (by omega) dX7_addStreet_142 ?_
        refine lv_iconst (v := 1) hx hb dX7_addStreet_143 (by decide) ?_
        refine lv_isub hx hb dX7_addStreet_144 ?_
        subst eP6
        subst ex5
        have hG9 : Md D o (fP_X7_addStreet P V F len pri) S (fV_X7_addStreet P V F len pri) T (fF_X7_addStreet P V F len pri) h H := by
          rw [hfP, fP_X7_addStreet_L74]; (try dsimp only)
          rw [hfV, fV_X7_addStreet_L74]; (try dsimp only)
          rw [hfF, fF_X7_addStreet_L74]; (try dsimp only)
          exact hG
        exact W.iret hx hb hr (fun t ht hW => gQi_of (by rw [hfR, fR_X7_addStreet_L74]; (try dsimp only); (try rfl)) hG9 hS ht) hS.2.2 dX7_addStreet_145
      · have c78 : ¬ 8 ≤ j := fun h => c78 ((nI_leI (a := 8) (b := j) (by omega) (by omega)).mpr h)
        exfalso; omega
    | succ k ih =>
      intro a j Pl Vl Fl H locs ls ha hik hfP hfV hfF hfR hG hS hl
      refine lv_iload hx hb dX7_addStreet_74 (lv_at hl 4 rfl) ?_
      refine lv_bipush (v := 8) hx hb dX7_addStreet_76 (by decide) ?_
      refine lv_icmp_ge (tgt := 127) hx hb dX7_addStreet_78 (by decide) (fun c78 => ?_) (fun c78 => ?_)
      · have c78 : 8 ≤ j := (nI_leI (a := 8) (b := j) (by omega) (by omega)).mp c78
        exfalso; omega
      · have c78 : ¬ 8 ≤ j := fun h => c78 ((nI_leI (a := 8) (b := j) (by omega) (by omega)).mpr h)
        refine lv_aload_n hx hb dX7_addStreet_81 rfl (lv_at hl 0 rfl) ?_
        refine getMm hx hb hts hown hK hG qF_X7_7 dX7_addStreet_82 ?_
        refine lv_iload_n hx hb dX7_addStreet_85 rfl (lv_at hl 3 rfl) ?_
        refine lv_iload hx hb dX7_addStreet_86 (lv_at hl 4 rfl) ?_
        refine iaddN (a := a) (b := j) hx hb dX7_addStreet_88 ?_
        refine lv_iload hx hb dX7_addStreet_89 (lv_at hl 4 rfl) ?_
        refine lv_if_ne (tgt := 98) hx hb dX7_addStreet_91 (by decide) (fun c91 => ?_) (fun c91 => ?_)
        · have c91 : ¬ j = 0 := fun h => c91 ((nI_eq (a := j) (b := 0) (by omega) (by omega)).mpr h)
          refine lv_iload hx hb dX7_addStreet_98 (lv_at hl 4 rfl) ?_
          refine lv_iconst (v := 1) hx hb dX7_addStreet_100 (by decide) ?_
          refine lv_icmp_ne (tgt := 108) hx hb dX7_addStreet_101 (by decide) (fun c101 => ?_) (fun c101 => ?_)
          · have c101 : ¬ j = 1 := fun h => c101 ((nI_eq (a := j) (b := 1) (by omega) (by omega)).mpr h)
            refine lv_iload hx hb dX7_addStreet_108 (lv_at hl 4 rfl) ?_
            refine lv_bipush (v := 7) hx hb dX7_addStreet_110 (by decide) ?_
            refine lv_icmp_ne (tgt := 119) hx hb dX7_addStreet_112 (by decide) (fun c112 => ?_) (fun c112 => ?_)
            · have c112 : ¬ j = 7 := fun h => c112 ((nI_eq (a := j) (b := 7) (by omega) (by omega)).mpr h)
              refine lv_iconst (v := 0) hx hb dX7_addStreet_119 (by decide) ?_
              refine astMm (k := a + j) hx hb hK hG hS hA (by omega) dX7_addStreet_120 (fun H locs hG hS => ?_)
              generalize eP7 : upd Pl (a + j) 0 = P7 at hG
              refine lv_iinc (v := nI (j + 1)) (lv' := [(4, .int (nI (j + 1))), (0, .ref o), (1, .int len), (2, .int pri), (3, .int (nI a))]) hx hb dX7_addStreet_121 hl (k := 4) rfl (nI_add j 1) (by decide) rfl (fun ls hl => ?_)
              refine lv_goto (tgt := 74) hx hb dX7_addStreet_124 (by decide) ?_
              subst eP7
              exact ih a (j + 1) _ _ _ _ _ _ ha (by first | assumption | omega) (by rw [hfP, fP_X7_addStreet_L74]; (try dsimp only); (try rw [if_neg c91, if_neg c101, if_neg c112]); (try rfl)) (by rw [hfV, fV_X7_addStreet_L74]; (try dsimp only); (try rw [if_neg c91, if_neg c101, if_neg c112]); (try rfl)) (by rw [hfF, fF_X7_addStreet_L74]; (try dsimp only); (try rw [if_neg c91, if_neg c101, if_neg c112]); (try rfl)) (by rw [hfR, fR_X7_addStreet_L74]; (try dsimp only); (try rw [if_neg c91, if_neg c101, if_neg c112]); (try rfl)) hG hS (lv_sub hl [1, 2, 3, 4, 0] rfl)
            · have c112 : j = 7 := (nI_eq (a := j) (b := 7) (by omega) (by omega)).mp c112
              refine lv_iconst (v := (-1)) hx hb dX7_addStreet_115 (by decide) ?_
              refine lv_goto (tgt := 120) hx hb dX7_addStreet_116 (by decide) ?_
              refine astMm (k := a + j) hx hb hK hG hS hA (by omega) dX7_addStreet_120 (fun H locs hG hS => ?_)
              generalize eP8 : upd Pl (a + j) (-1) = P8 at hG
              refine lv_iinc (v := nI (j + 1)) (lv' := [(4, .int (nI (j + 1))), (0, .ref o), (1, .int len), (2, .int pri), (3, .int (nI a))]) hx hb dX7_addStreet_121 hl (k := 4) rfl (nI_add j 1) (by decide) rfl (fun ls hl => ?_)
              refine lv_goto (tgt := 74) hx hb dX7_addStreet_124 (by decide) ?_
              subst eP8
              exact ih a (j + 1) _ _ _ _ _ _ ha (by first | assumption | omega) (by rw [hfP, fP_X7_addStreet_L74]; (try dsimp only); (try rw [if_neg c91, if_neg c101, if_pos c112]); (try rfl)) (by rw [hfV, fV_X7_addStreet_L74]; (try dsimp only); (try rw [if_neg c91, if_neg c101, if_pos c112]); (try rfl)) (by rw [hfF, fF_X7_addStreet_L74]; (try dsimp only); (try rw [if_neg c91, if_neg c101, if_pos c112]); (try rfl)) (by rw [hfR, fR_X7_addStreet_L74]; (try dsimp only); (try rw [if_neg c91, if_neg c101, if_pos c112]); (try rfl)) hG hS (lv_sub hl [1, 2, 3, 4, 0] rfl)
          · have c101 : j = 1 := (nI_eq (a := j) (b := 1) (by omega) (by omega)).mp c101
            refine lv_iload_n hx hb dX7_addStreet_104 rfl (lv_at hl 2 rfl) ?_
            refine lv_goto (tgt := 120) hx hb dX7_addStreet_105 (by decide) ?_
            refine astMm (k := a + j) hx hb hK hG hS hA (by omega) dX7_addStreet_120 (fun H locs hG hS => ?_)
            generalize eP9 : upd Pl (a + j) pri = P9 at hG
            refine lv_iinc (v := nI (j + 1)) (lv' := [(4, .int (nI (j + 1))), (0, .ref o), (1, .int len), (2, .int pri), (3, .int (nI a))]) hx hb dX7_addStreet_121 hl (k := 4) rfl (nI_add j 1) (by decide) rfl (fun ls hl => ?_)
            refine lv_goto (tgt := 74) hx hb dX7_addStreet_124 (by decide) ?_
            subst eP9
            exact ih a (j + 1) _ _ _ _ _ _ ha (by first | assumption | omega) (by rw [hfP, fP_X7_addStreet_L74]; (try dsimp only); (try rw [if_neg c91, if_pos c101]); (try rfl)) (by rw [hfV, fV_X7_addStreet_L74]; (try dsimp only); (try rw [if_neg c91, if_pos c101]); (try rfl)) (by rw [hfF, fF_X7_addStreet_L74]; (try dsimp only); (try rw [if_neg c91, if_pos c101]); (try rfl)) (by rw [hfR, fR_X7_addStreet_L74]; (try dsimp only); (try rw [if_neg c91, if_pos c101]); (try rfl)) hG hS (lv_sub hl [1, 2, 3, 4, 0] rfl)
        · have c91 : j = 0 := (nI_eq (a := j) (b := 0) (by omega) (by omega)).mp c91
          refine lv_iload_n hx hb dX7_addStreet_94 rfl (lv_at hl 1 rfl) ?_
          refine lv_goto (tgt := 120) hx hb dX7_addStreet_95 (by decide) ?_
          refine astMm (k := a + j) hx hb hK hG hS hA (by omega) dX7_addStreet_120 (fun H locs hG hS => ?_)
          generalize eP10 : upd Pl (a + j) len = P10 at hG
          refine lv_iinc (v := nI (j + 1)) (lv' := [(4, .int (nI (j + 1))), (0, .ref o), (1, .int len), (2, .int pri), (3, .int (nI a))]) hx hb dX7_addStreet_121 hl (k := 4) rfl (nI_add j 1) (by decide) rfl (fun ls hl => ?_)
          refine lv_goto (tgt := 74) hx hb dX7_addStreet_124 (by decide) ?_
          subst eP10
          exact ih a (j + 1) _ _ _ _ _ _ ha (by first | assumption | omega) (by rw [hfP, fP_X7_addStreet_L74]; (try dsimp only); (try rw [if_pos c91]); (try rfl)) (by rw [hfV, fV_X7_addStreet_L74]; (try dsimp only); (try rw [if_pos c91]); (try rfl)) (by rw [hfF, fF_X7_addStreet_L74]; (try dsimp only); (try rw [if_pos c91]); (try rfl)) (by rw [hfR, fR_X7_addStreet_L74]; (try dsimp only); (try rw [if_pos c91]); (try rfl)) hG hS (lv_sub hl [1, 2, 3, 4, 0] rfl)
  refine lv_aload_n hx hb dX7_addStreet_0 rfl (lv_at hl 0 rfl) ?_
  refine lv_iload_n hx hb dX7_addStreet_1 rfl (lv_at hl 1 rfl) ?_
  refine lv_bipush (v := 10) hx hb dX7_addStreet_2 (by decide) ?_
  refine lv_sipush (v := 2000) hx hb dX7_addStreet_4 (by decide) ?_
  refine gcSi (As := [.int len, .int 10, .int 2000]) (rest := [.ref o]) hx hb hml hown hts hl.1 hK (c_X7_in l D (fun H => Md D o P S V T F h H) len 10 2000) (gaS qM_X7_37 qT_X7_in qK_X7 qC_X7_in) hds_X7_in ⟨Nat.le_of_ble_eq_true rfl, Nat.le_of_ble_eq_true rfl⟩ hG rfl (Nat.le_of_ble_eq_true rfl) ⟨Nat.zero_le _, Nat.zero_le _⟩ dX7_addStreet_7 hS (fun _ (h : noA _) => False.elim h) (fun H locs hG _ _ hS => ?_)
  have hG : Md D o P S V T F h H := hG
  refine lv_if_eq (tgt := 22) hx hb dX7_addStreet_10 (by decide) (fun c10 => ?_) (fun c10 => ?_)
  · refine lv_iconst (v := 1) hx hb dX7_addStreet_22 (by decide) ?_
    refine lv_goto (tgt := 42) hx hb dX7_addStreet_23 (by decide) ?_
    refine putM 6 hx hb hts hown hK hG hS hA (by decide) qF_X7_26 rfl dX7_addStreet_42 (fun H locs hG hS => ?_)
    generalize eF1 : upd F 6 1 = F1 at hG
    refine lv_aload_n hx hb dX7_addStreet_45 rfl (lv_at hl 0 rfl) ?_
    refine getM 6 hx hb hts hown hK hG (by decide) qF_X7_26 rfl dX7_addStreet_46 ?_
    refine topE (y := 1) (by rw [← eF1, upd_s]) ?_
    refine lv_if_eq (tgt := 54) hx hb dX7_addStreet_49 (by decide) (fun c49 => ?_) (fun c49 => ?_)
    · exact absurd c49 (by decide)
    · refine lv_iconst (v := 0) hx hb dX7_addStreet_52 (by decide) ?_
      subst eF1
      have hG9 : Md D o (fP_X7_addStreet P V F len pri) S (fV_X7_addStreet P V F len pri) T (fF_X7_addStreet P V F len pri) h H := by
        unfold fP_X7_addStreet; (try dsimp only); (try rw [if_pos c10])
        unfold fV_X7_addStreet; (try dsimp only); (try rw [if_pos c10])
        unfold fF_X7_addStreet; (try dsimp only); (try rw [if_pos c10])
        exact hG
      exact W.iret hx hb hr (fun t ht hW => gQi_of (by unfold fR_X7_addStreet; (try dsimp only); (try rw [if_pos c10]); (try rfl)) hG9 hS ht) hS.2.2 dX7_addStreet_53
  · refine lv_iload_n hx hb dX7_addStreet_13 rfl (lv_at hl 2 rfl) ?_
    refine lv_iconst (v := 0) hx hb dX7_addStreet_14 (by decide) ?_
    refine lv_iconst (v := 2) hx hb dX7_addStreet_15 (by decide) ?_
    refine gcSi (As := [.int pri, .int 0, .int 2]) (rest := [.ref o]) hx hb hml hown hts hl.1 hK (c_X7_in l D (fun H => Md D o P S V T F h H) pri 0 2) (gaS qM_X7_37 qT_X7_in qK_X7 qC_X7_in) hds_X7_in ⟨Nat.le_of_ble_eq_true rfl, Nat.le_of_ble_eq_true rfl⟩ hG rfl (Nat.le_of_ble_eq_true rfl) ⟨Nat.zero_le _, Nat.zero_le _⟩ dX7_addStreet_16 hS (fun _ (h : noA _) => False.elim h) (fun H locs hG _ _ hS => ?_)
    have hG : Md D o P S V T F h H := hG
    refine lv_if_ne (tgt := 26) hx hb dX7_addStreet_19 (by decide) (fun c19 => ?_) (fun c19 => ?_)
    · refine lv_aload_n hx hb dX7_addStreet_26 rfl (lv_at hl 0 rfl) ?_
      refine getMm hx hb hts hown hK hG qF_X7_7 dX7_addStreet_27 ?_
      refine lv_iconst (v := 1) hx hb dX7_addStreet_30 (by decide) ?_
      refine aldMm (k := 1) hx hb hK hG (by omega) dX7_addStreet_31 ?_
      refine topN (n := (ns P)) hN.1 ?_
      refine lv_bipush (v := 20) hx hb dX7_addStreet_32 (by decide) ?_
      refine lv_icmp_ne (tgt := 41) hx hb dX7_addStreet_34 (by decide) (fun c34 => ?_) (fun c34 => ?_)
      · have c34 : ¬ (ns P) = 20 := fun h => c34 ((nI_eq (a := (ns P)) (b := 20) (by omega) (by omega)).mpr h)
        refine lv_iconst (v := 0) hx hb dX7_addStreet_41 (by decide) ?_
        refine putM 6 hx hb hts hown hK hG hS hA (by decide) qF_X7_26 rfl dX7_addStreet_42 (fun H locs hG hS => ?_)
        generalize eF2 : upd F 6 0 = F2 at hG
        refine lv_aload_n hx hb dX7_addStreet_45 rfl (lv_at hl 0 rfl) ?_
        refine getM 6 hx hb hts hown hK hG (by decide) qF_X7_26 rfl dX7_addStreet_46 ?_
        refine topE (y := 0) (by rw [← eF2, upd_s]) ?_
        refine lv_if_eq (tgt := 54) hx hb dX7_addStreet_49 (by decide) (fun c49 => ?_) (fun c49 => ?_)
        · refine lv_aload_n hx hb dX7_addStreet_54 rfl (lv_at hl 0 rfl) ?_
          refine gcVv (As := []) (rest := []) hx hb hml hown hts hl.1 hK (c_X7_keep l D o P S V T F2 h (by subst_vars; exact okC_6 hc)) (gaV qM_X7_48 qI_X7_keep qS_X7_keep qK_X7 qC_X7_keep) hdv_X7_keep ⟨Nat.le_of_ble_eq_true rfl, Nat.le_of_ble_eq_true rfl⟩ hG (hG.recv hK) rfl (Nat.le_of_ble_eq_true rfl) ⟨Nat.zero_le _, Nat.zero_le _⟩ dX7_addStreet_55 hS hA (fun H locs hG _ _ hS => ?_)
          have hG : Md D o P S (fV_X7_keep P V F2) T (fF_X7_keep P V F2) h H := hG
          generalize eV3 : fV_X7_keep P V F2 = V3 at hG
          generalize eF4 : fF_X7_keep P V F2 = F4 at hG
          refine lv_bipush (v := 9) hx hb dX7_addStreet_58 (by decide) ?_
          refine lv_bipush (v := 8) hx hb dX7_addStreet_60 (by decide) ?_
          refine lv_aload_n hx hb dX7_addStreet_62 rfl (lv_at hl 0 rfl) ?_
          refine getMm hx hb hts hown hK hG qF_X7_7 dX7_addStreet_63 ?_
          refine lv_iconst (v := 1) hx hb dX7_addStreet_66 (by decide) ?_
          refine aldMm (k := 1) hx hb hK hG (by omega) dX7_addStreet_67 ?_
          refine topN (n := (ns P)) hN.1 ?_
          refine imulN (a := 8) (b := (ns P)) hx hb dX7_addStreet_68 ?_
          refine iaddN (a := 9) (b := 8 * (ns P)) hx hb dX7_addStreet_69 ?_
          refine lv_istore_n (lv' := [(3, .int (nI (9 + (8 * (ns P))))), (0, .ref o), (1, .int len), (2, .int pri)]) hx hb dX7_addStreet_70 rfl hl (by decide) rfl (fun ls hl => ?_)
          refine lv_iconst (v := 0) hx hb dX7_addStreet_71 (by decide) ?_
          refine lv_istore (lv' := [(4, .int 0), (3, .int (nI (9 + (8 * (ns P))))), (0, .ref o), (1, .int len), (2, .int pri)]) hx hb dX7_addStreet_72 hl (by decide) rfl (fun ls hl => ?_)
          subst eF4
          subst eV3
          subst eF2
          exact L74 8 (9 + (8 * (ns P))) 0 _ _ _ _ _ _ (by first | assumption | omega) (by first | assumption | omega) (by unfold fP_X7_addStreet; (try dsimp only); (try rw [if_neg c10, if_neg c19, if_neg c34]); (try rfl)) (by unfold fV_X7_addStreet; (try dsimp only); (try rw [if_neg c10, if_neg c19, if_neg c34]); (try rfl)) (by unfold fF_X7_addStreet; (try dsimp only); (try rw [if_neg c10, if_neg c19, if_neg c34]); (try rfl)) (by unfold fR_X7_addStreet; (try dsimp only); (try rw [if_neg c10, if_neg c19, if_neg c34]); (try rfl)) hG hS (lv_sub hl [2, 3, 4, 1, 0] rfl)
        · exact absurd c49 (by decide)
      · have c34 : (ns P) = 20 := (nI_eq (a := (ns P)) (b := 20) (by omega) (by omega)).mp c34
        refine lv_iconst (v := 2) hx hb dX7_addStreet_37 (by decide) ?_
        refine lv_goto (tgt := 42) hx hb dX7_addStreet_38 (by decide) ?_
        refine putM 6 hx hb hts hown hK hG hS hA (by decide) qF_X7_26 rfl dX7_addStreet_42 (fun H locs hG hS => ?_)
        generalize eF11 : upd F 6 2 = F11 at hG
        refine lv_aload_n hx hb dX7_addStreet_45 rfl (lv_at hl 0 rfl) ?_
        refine getM 6 hx hb hts hown hK hG (by decide) qF_X7_26 rfl dX7_addStreet_46 ?_
        refine topE (y := 2) (by rw [← eF11, upd_s]) ?_
        refine lv_if_eq (tgt := 54) hx hb dX7_addStreet_49 (by decide) (fun c49 => ?_) (fun c49 => ?_)
        · exact absurd c49 (by decide)
        · refine lv_iconst (v := 0) hx hb dX7_addStreet_52 (by decide) ?_
          subst eF11
          have hG9 : Md D o (fP_X7_addStreet P V F len pri) S (fV_X7_addStreet P V F len pri) T (fF_X7_addStreet P V F len pri) h H := by
            unfold fP_X7_addStreet; (try dsimp only); (try rw [if_neg c10, if_neg c19, if_pos c34])
            unfold fV_X7_addStreet; (try dsimp only); (try rw [if_neg c10, if_neg c19, if_pos c34])
            unfold fF_X7_addStreet; (try dsimp only); (try rw [if_neg c10, if_neg c19, if_pos c34])
            exact hG
          exact W.iret hx hb hr (fun t ht hW => gQi_of (by unfold fR_X7_addStreet; (try dsimp only); (try rw [if_neg c10, if_neg c19, if_pos c34]); (try rfl)) hG9 hS ht) hS.2.2 dX7_addStreet_53
    · refine lv_iconst (v := 1) hx hb dX7_addStreet_22 (by decide) ?_
      refine lv_goto (tgt := 42) hx hb dX7_addStreet_23 (by decide) ?_
      refine putM 6 hx hb hts hown hK hG hS hA (by decide) qF_X7_26 rfl dX7_addStreet_42 (fun H locs hG hS => ?_)
      generalize eF12 : upd F 6 1 = F12 at hG
      refine lv_aload_n hx hb dX7_addStreet_45 rfl (lv_at hl 0 rfl) ?_
      refine getM 6 hx hb hts hown hK hG (by decide) qF_X7_26 rfl dX7_addStreet_46 ?_
      refine topE (y := 1) (by rw [← eF12, upd_s]) ?_
      refine lv_if_eq (tgt := 54) hx hb dX7_addStreet_49 (by decide) (fun c49 => ?_) (fun c49 => ?_)
      · exact absurd c49 (by decide)
      · refine lv_iconst (v := 0) hx hb dX7_addStreet_52 (by decide) ?_
        subst eF12
        have hG9 : Md D o (fP_X7_addStreet P V F len pri) S (fV_X7_addStreet P V F len pri) T (fF_X7_addStreet P V F len pri) h H := by
          unfold fP_X7_addStreet; (try dsimp only); (try rw [if_neg c10, if_pos c19])
          unfold fV_X7_addStreet; (try dsimp only); (try rw [if_neg c10, if_pos c19])
          unfold fF_X7_addStreet; (try dsimp only); (try rw [if_neg c10, if_pos c19])
          exact hG
        exact W.iret hx hb hr (fun t ht hW => gQi_of (by unfold fR_X7_addStreet; (try dsimp only); (try rw [if_neg c10, if_pos c19]); (try rfl)) hG9 hS ht) hS.2.2 dX7_addStreet_53
theorem hdv_X7_addPlow : yX7_addPlow.cls = RX7 ∧ yX7_addPlow.cls ≠ "java/lang/invoke/MethodHandle" ∧ yX7_addPlow.cls ≠ "java/lang/invoke/VarHandle" ∧ (parseMethodDescriptor yX7_addPlow.desc).map (fun d => d.parameters.length) = some 2 := by decide +kernel
def fP_X7_addPlow_L76 (spd : Int32) (cap : Int32) : Nat → Nat → Nat → (Nat → Int32) → (Nat → Int32) → (Nat → Int32) → Nat → Int32
  | 0, a, j, Pl, Vl, Fl =>
    let x5 := (Pl 2) + 1
    let P6 := upd Pl 2 x5
    P6
  | k + 1, a, j, Pl, Vl, Fl =>
    if j = 0 then
      let P9 := upd Pl (a + j) spd
      fP_X7_addPlow_L76 spd cap k a (j + 1) P9 Vl Fl
    else
      if j = 1 then
        let P8 := upd Pl (a + j) cap
        fP_X7_addPlow_L76 spd cap k a (j + 1) P8 Vl Fl
      else
        let P7 := upd Pl (a + j) 0
        fP_X7_addPlow_L76 spd cap k a (j + 1) P7 Vl Fl
def fV_X7_addPlow_L76 (spd : Int32) (cap : Int32) : Nat → Nat → Nat → (Nat → Int32) → (Nat → Int32) → (Nat → Int32) → Nat → Int32
  | 0, a, j, Pl, Vl, Fl =>
    Vl
  | k + 1, a, j, Pl, Vl, Fl =>
    if j = 0 then
      let P9 := upd Pl (a + j) spd
      fV_X7_addPlow_L76 spd cap k a (j + 1) P9 Vl Fl
    else
      if j = 1 then
        let P8 := upd Pl (a + j) cap
        fV_X7_addPlow_L76 spd cap k a (j + 1) P8 Vl Fl
      else
        let P7 := upd Pl (a + j) 0
        fV_X7_addPlow_L76 spd cap k a (j + 1) P7 Vl Fl
def fF_X7_addPlow_L76 (spd : Int32) (cap : Int32) : Nat → Nat → Nat → (Nat → Int32) → (Nat → Int32) → (Nat → Int32) → Nat → Int32
  | 0, a, j, Pl, Vl, Fl =>
    Fl
  | k + 1, a, j, Pl, Vl, Fl =>
    if j = 0 then
      let P9 := upd Pl (a + j) spd
      fF_X7_addPlow_L76 spd cap k a (j + 1) P9 Vl Fl
    else
      if j = 1 then
        let P8 := upd Pl (a + j) cap
        fF_X7_addPlow_L76 spd cap k a (j + 1) P8 Vl Fl
      else
        let P7 := upd Pl (a + j) 0
        fF_X7_addPlow_L76 spd cap k a (j + 1) P7 Vl Fl
def fR_X7_addPlow_L76 (spd : Int32) (cap : Int32) : Nat → Nat → Nat → (Nat → Int32) → (Nat → Int32) → (Nat → Int32) → Int32
  | 0, a, j, Pl, Vl, Fl =>
    let x5 := (Pl 2) + 1
    let P6 := upd Pl 2 x5
    (P6 2) - 1
  | k + 1, a, j, Pl, Vl, Fl =>
    if j = 0 then
      let P9 := upd Pl (a + j) spd
      fR_X7_addPlow_L76 spd cap k a (j + 1) P9 Vl Fl
    else
      if j = 1 then
        let P8 := upd Pl (a + j) cap
        fR_X7_addPlow_L76 spd cap k a (j + 1) P8 Vl Fl
      else
        let P7 := upd Pl (a + j) 0
        fR_X7_addPlow_L76 spd cap k a (j + 1) P7 Vl Fl
def fP_X7_addPlow (P : Nat → Int32) (V : Nat → Int32) (F : Nat → Int32) (spd : Int32) (cap : Int32) : Nat → Int32 :=
  if fR_X7_in spd 100 5000 = 0 then
    P
  else
    if fR_X7_in cap 0 5000 = 0 then
      P
    else
      if (np P) = 3 then
        P
      else
        let F2 := upd F 6 0
        let V3 := fV_X7_keep P V F2
        let F4 := fF_X7_keep P V F2
        fP_X7_addPlow_L76 spd cap 20 (169 + (20 * (np P))) 0 P V3 F4
def fV_X7_addPlow (P : Nat → Int32) (V : Nat → Int32) (F : Nat → Int32) (spd : Int32) (cap : Int32) : Nat → Int32 :=
  if fR_X7_in spd 100 5000 = 0 then
    V
  else
    if fR_X7_in cap 0 5000 = 0 then
      V
    else
      if (np P) = 3 then
        V
      else
        let F2 := upd F 6 0
        let V3 := fV_X7_keep P V F2
        let F4 := fF_X7_keep P V F2
        fV_X7_addPlow_L76 spd cap 20 (169 + (20 * (np P))) 0 P V3 F4
def fF_X7_addPlow (P : Nat → Int32) (V : Nat → Int32) (F : Nat → Int32) (spd : Int32) (cap : Int32) : Nat → Int32 :=
  if fR_X7_in spd 100 5000 = 0 then
    let F1 := upd F 6 1
    F1
  else
    if fR_X7_in cap 0 5000 = 0 then
      let F11 := upd F 6 1
      F11
    else
      if (np P) = 3 then
        let F10 := upd F 6 2
        F10
      else
        let F2 := upd F 6 0
        let V3 := fV_X7_keep P V F2
        let F4 := fF_X7_keep P V F2
        fF_X7_addPlow_L76 spd cap 20 (169 + (20 * (np P))) 0 P V3 F4
def fR_X7_addPlow (P : Nat → Int32) (V : Nat → Int32) (F : Nat → Int32) (spd : Int32) (cap : Int32) : Int32 :=
  if fR_X7_in spd 100 5000 = 0 then
    0
  else
    if fR_X7_in cap 0 5000 = 0 then
      0
    else
      if (np P) = 3 then
        0
      else
        let F2 := upd F 6 0
        let V3 := fV_X7_keep P V F2
        let F4 := fF_X7_keep P V F2
        fR_X7_addPlow_L76 spd cap 20 (169 + (20 * (np P))) 0 P V3 F4
set_option maxHeartbeats 4000000 in
set_option maxRecDepth 100000 in
theorem c_X7_addPlow (l : Launch) (D : va_G) (o : Nat) (P S V T F : Nat → Int32) (h : Int64) (spd : Int32) (cap : Int32) (hN : okN P) (hc : okC F) : Met l yX7_addPlow (wA yX7_addPlow cX7_addPlow 5 (some .int)) (rmL 2) (gPc D [.ref o, .int spd, .int cap] (fun H => Md D o P S V T F h H)) (gQi (inM o) (fR_X7_addPlow P V F spd cap) (fun H => Md D o (fP_X7_addPlow P V F spd cap) S (fV_X7_addPlow P V F spd cap) T (fF_X7_addPlow P V F spd cap) h H)) 0 0 (inM o) := by
  refine Met.ofW (cc := cX7_addPlow) (maxL := 5) (ret := (some .int)) (by decide) rfl ?_
  intro p e s m args below meth c s₁ B hml hv
  obtain ⟨hav, hG, hK⟩ := hv
  have hx := B.exec
  have hb := B.bytes
  have hr := B.returns
  have hts0 := atoms_spec (ws := wA yX7_addPlow cX7_addPlow 5 (some .int)) B.pre
  have hts : ∀ w ∈ AW, w.before _ s = true := fun w h => hts0 w (List.mem_cons_of_mem _ h)
  have hown : s.vm.findClass RX7 = some m.cls := findClass_of_methodNamed B.named
  have hlocks := B.notSynchronized
  have hA : ∀ q, (inM o) q → (inM o) q := fun _ h => h
  have hS : va_S (inM o) s.heap s.heap [] := va_S.rf
  have hG : Md D o P S V T F h s.heap := hG
  have hl := lv_entry ([.ref o, .int spd, .int cap]) (n := 5) (Nat.le_of_ble_eq_true rfl)
  refine W.eq (g2 := entryFrame m ([.ref o, .int spd, .int cap] : List Value).toArray 5) (by rw [hav]) ?_
  rw [lg_entry_eq]
  generalize (lg_sl ([.ref o, .int spd, .int cap]) ++ List.replicate (5 - (lg_sl ([.ref o, .int spd, .int cap])).length) Slot.unset).toArray = ls at hl ⊢
  have hl : lv_has ls 5 [(0, .ref o), (1, .int spd), (2, .int cap)] := hl
  have hn3 := hN.2.2.2
  have L76 : ∀ (k : Nat) (a : Nat) (j : Nat) (Pl : Nat → Int32) (Vl : Nat → Int32) (Fl : Nat → Int32) (H : Heap) (locs : List Loc) (ls : Array Slot) (ha : a + 20 ≤ 229) (hik : j + k = 20) (hfP : fP_X7_addPlow P V F spd cap = fP_X7_addPlow_L76 spd cap k a j Pl Vl Fl) (hfV : fV_X7_addPlow P V F spd cap = fV_X7_addPlow_L76 spd cap k a j Pl Vl Fl) (hfF : fF_X7_addPlow P V F spd cap = fF_X7_addPlow_L76 spd cap k a j Pl Vl Fl) (hfR : fR_X7_addPlow P V F spd cap = fR_X7_addPlow_L76 spd cap k a j Pl Vl Fl) (hG : Md D o Pl S Vl T Fl h H) (hS : va_S (inM o) s.heap H locs) (hl : lv_has ls 5 [(0, .ref o), (1, .int spd), (2, .int cap), (3, .int (nI a)), (4, .int (nI j))]), W p l e (headSpec (wA yX7_addPlow cX7_addPlow 5 (some .int)) (rmL 2)).room s m args below meth c H locs 0 0 (MQ below (gQi (inM o) (fR_X7_addPlow P V F spd cap) (fun H => Md D o (fP_X7_addPlow P V F spd cap) S (fV_X7_addPlow P V F spd cap) T (fF_X7_addPlow P V F spd cap) h H)) args s 0 0 (inM o)) (F0 m 76 ls []) := by
    intro k
    induction k with
    | zero =>
      intro a j Pl Vl Fl H locs ls ha hik hfP hfV hfF hfR hG hS hl
      refine lv_iload hx hb dX7_addPlow_76 (lv_at hl 4 rfl) ?_
      refine lv_bipush (v := 20) hx hb dX7_addPlow_78 (by decide) ?_
      refine lv_icmp_ge (tgt := 118) hx hb dX7_addPlow_80 (by decide) (fun c80 => ?_) (fun c80 => ?_)
      · have c80 : 20 ≤ j := (nI_leI (a := 20) (b := j) (by omega) (by omega)).mp c80
        refine lv_aload_n hx hb dX7_addPlow_118 rfl (lv_at hl 0 rfl) ?_
        refine getMm hx hb hts hown hK hG qF_X7_7 dX7_addPlow_119 ?_
        refine lv_iconst (v := 2) hx hb dX7_addPlow_122 (by decide) ?_
        refine lv_dup2_11 hx hb dX7_addPlow_123 rfl rfl ?_
        refine aldMm (k := 2) hx hb hK hG (by omega) dX7_addPlow_124 ?_
        refine lv_iconst (v := 1) hx hb dX7_addPlow_125 (by decide) ?_
        refine lv_iadd hx hb dX7_addPlow_126 ?_
        refine lv_topi (fun x5 ex5 => ?_)
        refine astMm (k := 2) hx hb hK hG hS hA (by omega) dX7_addPlow_127 (fun H locs hG hS => ?_)
        generalize eP6 : upd Pl 2 x5 = P6 at hG
        refine lv_aload_n hx hb dX7_addPlow_128 rfl (lv_at hl 0 rfl) ?_
        refine getMm hx hb hts hown hK hG qF_X7_7 dX7_addPlow_129 ?_
        refine lv_iconst (v := 2) hx hb dX7_addPlow_132 (by decide) ?_
        refine aldMm (k := 2) hx hb hK hG (by omega) dX7_addPlow_133 ?_
        refine lv_iconst (v := 1) hx hb dX7_addPlow_134 (by decide) ?_
        refine lv_isub hx hb dX7_addPlow_135 ?_
        subst eP6
        subst ex5
        have hG9 : Md D o (fP_X7_addPlow P V F spd cap) S (fV_X7_addPlow P V F spd cap) T (fF_X7_addPlow P V F spd cap) h H := by
          rw [hfP, fP_X7_addPlow_L76]; (try dsimp only)
          rw [hfV, fV_X7_addPlow_L76]; (try dsimp only)
          rw [hfF, fF_X7_addPlow_L76]; (try dsimp only)
          exact hG
        exact W.iret hx hb hr (fun t ht hW => gQi_of (by rw [hfR, fR_X7_addPlow_L76]; (try dsimp only); (try rfl)) hG9 hS ht) hS.2.2 dX7_addPlow_136
      · have c80 : ¬ 20 ≤ j := fun h => c80 ((nI_leI (a := 20) (b := j) (by omega) (by omega)).mpr h)
        exfalso; omega
    | succ k ih =>
      intro a j Pl Vl Fl H locs ls ha hik hfP hfV hfF hfR hG hS hl
      refine lv_iload hx hb dX7_addPlow_76 (lv_at hl 4 rfl) ?_
      refine lv_bipush (v := 20) hx hb dX7_addPlow_78 (by decide) ?_
      refine lv_icmp_ge (tgt := 118) hx hb dX7_addPlow_80 (by decide) (fun c80 => ?_) (fun c80 => ?_)
      · have c80 : 20 ≤ j := (nI_leI (a := 20) (b := j) (by omega) (by omega)).mp c80
        exfalso; omega
      · have c80 : ¬ 20 ≤ j := fun h => c80 ((nI_leI (a := 20) (b := j) (by omega) (by omega)).mpr h)
        refine lv_aload_n hx hb dX7_addPlow_83 rfl (lv_at hl 0 rfl) ?_
        refine getMm hx hb hts hown hK hG qF_X7_7 dX7_addPlow_84 ?_
        refine lv_iload_n hx hb dX7_addPlow_87 rfl (lv_at hl 3 rfl) ?_
        refine lv_iload hx hb dX7_addPlow_88 (lv_at hl 4 rfl) ?_
        refine iaddN (a := a) (b := j) hx hb dX7_addPlow_90 ?_
        refine lv_iload hx hb dX7_addPlow_91 (lv_at hl 4 rfl) ?_
        refine lv_if_ne (tgt := 100) hx hb dX7_addPlow_93 (by decide) (fun c93 => ?_) (fun c93 => ?_)
        · have c93 : ¬ j = 0 := fun h => c93 ((nI_eq (a := j) (b := 0) (by omega) (by omega)).mpr h)
          refine lv_iload hx hb dX7_addPlow_100 (lv_at hl 4 rfl) ?_
          refine lv_iconst (v := 1) hx hb dX7_addPlow_102 (by decide) ?_
          refine lv_icmp_ne (tgt := 110) hx hb dX7_addPlow_103 (by decide) (fun c103 => ?_) (fun c103 => ?_)
          · have c103 : ¬ j = 1 := fun h => c103 ((nI_eq (a := j) (b := 1) (by omega) (by omega)).mpr h)
            refine lv_iconst (v := 0) hx hb dX7_addPlow_110 (by decide) ?_
            refine astMm (k := a + j) hx hb hK hG hS hA (by omega) dX7_addPlow_111 (fun H locs hG hS => ?_)
            generalize eP7 : upd Pl (a + j) 0 = P7 at hG
            refine lv_iinc (v := nI (j + 1)) (lv' := [(4, .int (nI (j + 1))), (0, .ref o), (1, .int spd), (2, .int cap), (3, .int (nI a))]) hx hb dX7_addPlow_112 hl (k := 4) rfl (nI_add j 1) (by decide) rfl (fun ls hl => ?_)
            refine lv_goto (tgt := 76) hx hb dX7_addPlow_115 (by decide) ?_
            subst eP7
            exact ih a (j + 1) _ _ _ _ _ _ ha (by first | assumption | omega) (by rw [hfP, fP_X7_addPlow_L76]; (try dsimp only); (try rw [if_neg c93, if_neg c103]); (try rfl)) (by rw [hfV, fV_X7_addPlow_L76]; (try dsimp only); (try rw [if_neg c93, if_neg c103]); (try rfl)) (by rw [hfF, fF_X7_addPlow_L76]; (try dsimp only); (try rw [if_neg c93, if_neg c103]); (try rfl)) (by rw [hfR, fR_X7_addPlow_L76]; (try dsimp only); (try rw [if_neg c93, if_neg c103]); (try rfl)) hG hS (lv_sub hl [1, 2, 3, 4, 0] rfl)
          · have c103 : j = 1 := (nI_eq (a := j) (b := 1) (by omega) (by omega)).mp c103
            refine lv_iload_n hx hb dX7_addPlow_106 rfl (lv_at hl 2 rfl) ?_
            refine lv_goto (tgt := 111) hx hb dX7_addPlow_107 (by decide) ?_
            refine astMm (k := a + j) hx hb hK hG hS hA (by omega) dX7_addPlow_111 (fun H locs hG hS => ?_)
            generalize eP8 : upd Pl (a + j) cap = P8 at hG
            refine lv_iinc (v := nI (j + 1)) (lv' := [(4, .int (nI (j + 1))), (0, .ref o), (1, .int spd), (2, .int cap), (3, .int (nI a))]) hx hb dX7_addPlow_112 hl (k := 4) rfl (nI_add j 1) (by decide) rfl (fun ls hl => ?_)
            refine lv_goto (tgt := 76) hx hb dX7_addPlow_115 (by decide) ?_
            subst eP8
            exact ih a (j + 1) _ _ _ _ _ _ ha (by first | assumption | omega) (by rw [hfP, fP_X7_addPlow_L76]; (try dsimp only); (try rw [if_neg c93, if_pos c103]); (try rfl)) (by rw [hfV, fV_X7_addPlow_L76]; (try dsimp only); (try rw [if_neg c93, if_pos c103]); (try rfl)) (by rw [hfF, fF_X7_addPlow_L76]; (try dsimp only); (try rw [if_neg c93, if_pos c103]); (try rfl)) (by rw [hfR, fR_X7_addPlow_L76]; (try dsimp only); (try rw [if_neg c93, if_pos c103]); (try rfl)) hG hS (lv_sub hl [1, 2, 3, 4, 0] rfl)
        · have c93 : j = 0 := (nI_eq (a := j) (b := 0) (by omega) (by omega)).mp c93
          refine lv_iload_n hx hb dX7_addPlow_96 rfl (lv_at hl 1 rfl) ?_
          refine lv_goto (tgt := 111) hx hb dX7_addPlow_97 (by decide) ?_
          refine astMm (k := a + j) hx hb hK hG hS hA (by omega) dX7_addPlow_111 (fun H locs hG hS => ?_)
          generalize eP9 : upd Pl (a + j) spd = P9 at hG
          refine lv_iinc (v := nI (j + 1)) (lv' := [(4, .int (nI (j + 1))), (0, .ref o), (1, .int spd), (2, .int cap), (3, .int (nI a))]) hx hb dX7_addPlow_112 hl (k := 4) rfl (nI_add j 1) (by decide) rfl (fun ls hl => ?_)
          refine lv_goto (tgt := 76) hx hb dX7_addPlow_115 (by decide) ?_
          subst eP9
          exact ih a (j + 1) _ _ _ _ _ _ ha (by first | assumption | omega) (by rw [hfP, fP_X7_addPlow_L76]; (try dsimp only); (try rw [if_pos c93]); (try rfl)) (by rw [hfV, fV_X7_addPlow_L76]; (try dsimp only); (try rw [if_pos c93]); (try rfl)) (by rw [hfF, fF_X7_addPlow_L76]; (try dsimp only); (try rw [if_pos c93]); (try rfl)) (by rw [hfR, fR_X7_addPlow_L76]; (try dsimp only); (try rw [if_pos c93]); (try rfl)) hG hS (lv_sub hl [1, 2, 3, 4, 0] rfl)
  refine lv_aload_n hx hb dX7_addPlow_0 rfl (lv_at hl 0 rfl) ?_
  refine lv_iload_n hx hb dX7_addPlow_1 rfl (lv_at hl 1 rfl) ?_
  refine lv_bipush (v := 100) hx hb dX7_addPlow_2 (by decide) ?_
  refine lv_sipush (v := 5000) hx hb dX7_addPlow_4 (by decide) ?_
  refine gcSi (As := [.int spd, .int 100, .int 5000]) (rest := [.ref o]) hx hb hml hown hts hl.1 hK (c_X7_in l D (fun H => Md D o P S V T F h H) spd 100 5000) (gaS qM_X7_37 qT_X7_in qK_X7 qC_X7_in) hds_X7_in ⟨Nat.le_of_ble_eq_true rfl, Nat.le_of_ble_eq_true rfl⟩ hG rfl (Nat.le_of_ble_eq_true rfl) ⟨Nat.zero_le _, Nat.zero_le _⟩ dX7_addPlow_7 hS (fun _ (h : noA _) => False.elim h) (fun H locs hG _ _ hS => ?_)
  have hG : Md D o P S V T F h H := hG
  refine lv_if_eq (tgt := 24) hx hb dX7_addPlow_10 (by decide) (fun c10 => ?_) (fun c10 => ?_)
  · refine lv_iconst (v := 1) hx hb dX7_addPlow_24 (by decide) ?_
    refine lv_goto (tgt := 43) hx hb dX7_addPlow_25 (by decide) ?_
    refine putM 6 hx hb hts hown hK hG hS hA (by decide) qF_X7_26 rfl dX7_addPlow_43 (fun H locs hG hS => ?_)
    generalize eF1 : upd F 6 1 = F1 at hG
    refine lv_aload_n hx hb dX7_addPlow_46 rfl (lv_at hl 0 rfl) ?_
    refine getM 6 hx hb hts hown hK hG (by decide) qF_X7_26 rfl dX7_addPlow_47 ?_
    refine topE (y := 1) (by rw [← eF1, upd_s]) ?_
    refine lv_if_eq (tgt := 55) hx hb dX7_addPlow_50 (by decide) (fun c50 => ?_) (fun c50 => ?_)
    · exact absurd c50 (by decide)
    · refine lv_iconst (v := 0) hx hb dX7_addPlow_53 (by decide) ?_
      subst eF1
      have hG9 : Md D o (fP_X7_addPlow P V F spd cap) S (fV_X7_addPlow P V F spd cap) T (fF_X7_addPlow P V F spd cap) h H := by
        unfold fP_X7_addPlow; (try dsimp only); (try rw [if_pos c10])
        unfold fV_X7_addPlow; (try dsimp only); (try rw [if_pos c10])
        unfold fF_X7_addPlow; (try dsimp only); (try rw [if_pos c10])
        exact hG
      exact W.iret hx hb hr (fun t ht hW => gQi_of (by unfold fR_X7_addPlow; (try dsimp only); (try rw [if_pos c10]); (try rfl)) hG9 hS ht) hS.2.2 dX7_addPlow_54
  · refine lv_iload_n hx hb dX7_addPlow_13 rfl (lv_at hl 2 rfl) ?_
    refine lv_iconst (v := 0) hx hb dX7_addPlow_14 (by decide) ?_
    refine lv_sipush (v := 5000) hx hb dX7_addPlow_15 (by decide) ?_
    refine gcSi (As := [.int cap, .int 0, .int 5000]) (rest := [.ref o]) hx hb hml hown hts hl.1 hK (c_X7_in l D (fun H => Md D o P S V T F h H) cap 0 5000) (gaS qM_X7_37 qT_X7_in qK_X7 qC_X7_in) hds_X7_in ⟨Nat.le_of_ble_eq_true rfl, Nat.le_of_ble_eq_true rfl⟩ hG rfl (Nat.le_of_ble_eq_true rfl) ⟨Nat.zero_le _, Nat.zero_le _⟩ dX7_addPlow_18 hS (fun _ (h : noA _) => False.elim h) (fun H locs hG _ _ hS => ?_)
    have hG : Md D o P S V T F h H := hG
    refine lv_if_ne (tgt := 28) hx hb dX7_addPlow_21 (by decide) (fun c21 => ?_) (fun c21 => ?_)
    · refine lv_aload_n hx hb dX7_addPlow_28 rfl (lv_at hl 0 rfl) ?_
      refine getMm hx hb hts hown hK hG qF_X7_7 dX7_addPlow_29 ?_
      refine lv_iconst (v := 2) hx hb dX7_addPlow_32 (by decide) ?_
      refine aldMm (k := 2) hx hb hK hG (by omega) dX7_addPlow_33 ?_
      refine topN (n := (np P)) hN.2.2.1 ?_
      refine lv_iconst (v := 3) hx hb dX7_addPlow_34 (by decide) ?_
      refine lv_icmp_ne (tgt := 42) hx hb dX7_addPlow_35 (by decide) (fun c35 => ?_) (fun c35 => ?_)
      · have c35 : ¬ (np P) = 3 := fun h => c35 ((nI_eq (a := (np P)) (b := 3) (by omega) (by omega)).mpr h)
        refine lv_iconst (v := 0) hx hb dX7_addPlow_42 (by decide) ?_
        refine putM 6 hx hb hts hown hK hG hS hA (by decide) qF_X7_26 rfl dX7_addPlow_43 (fun H locs hG hS => ?_)
        generalize eF2 : upd F 6 0 = F2 at hG
        refine lv_aload_n hx hb dX7_addPlow_46 rfl (lv_at hl 0 rfl) ?_
        refine getM 6 hx hb hts hown hK hG (by decide) qF_X7_26 rfl dX7_addPlow_47 ?_
        refine topE (y := 0) (by rw [← eF2, upd_s]) ?_
        refine lv_if_eq (tgt := 55) hx hb dX7_addPlow_50 (by decide) (fun c50 => ?_) (fun c50 => ?_)
        · refine lv_aload_n hx hb dX7_addPlow_55 rfl (lv_at hl 0 rfl) ?_
          refine gcVv (As := []) (rest := []) hx hb hml hown hts hl.1 hK (c_X7_keep l D o P S V T F2 h (by subst_vars; exact okC_6 hc)) (gaV qM_X7_48 qI_X7_keep qS_X7_keep qK_X7 qC_X7_keep) hdv_X7_keep ⟨Nat.le_of_ble_eq_true rfl, Nat.le_of_ble_eq_true rfl⟩ hG (hG.recv hK) rfl (Nat.le_of_ble_eq_true rfl) ⟨Nat.zero_le _, Nat.zero_le _⟩ dX7_addPlow_56 hS hA (fun H locs hG _ _ hS => ?_)
          have hG : Md D o P S (fV_X7_keep P V F2) T (fF_X7_keep P V F2) h H := hG
          generalize eV3 : fV_X7_keep P V F2 = V3 at hG
          generalize eF4 : fF_X7_keep P V F2 = F4 at hG
          refine lv_sipush (v := 169) hx hb dX7_addPlow_59 (by decide) ?_
          refine lv_bipush (v := 20) hx hb dX7_addPlow_62 (by decide) ?_
          refine lv_aload_n hx hb dX7_addPlow_64 rfl (lv_at hl 0 rfl) ?_
          refine getMm hx hb hts hown hK hG qF_X7_7 dX7_addPlow_65 ?_
          refine lv_iconst (v := 2) hx hb dX7_addPlow_68 (by decide) ?_
          refine aldMm (k := 2) hx hb hK hG (by omega) dX7_addPlow_69 ?_
          refine topN (n := (np P)) hN.2.2.1 ?_
          refine imulN (a := 20) (b := (np P)) hx hb dX7_addPlow_70 ?_
          refine iaddN (a := 169) (b := 20 * (np P)) hx hb dX7_addPlow_71 ?_
          refine lv_istore_n (lv' := [(3, .int (nI (169 + (20 * (np P))))), (0, .ref o), (1, .int spd), (2, .int cap)]) hx hb dX7_addPlow_72 rfl hl (by decide) rfl (fun ls hl => ?_)
          refine lv_iconst (v := 0) hx hb dX7_addPlow_73 (by decide) ?_
          refine lv_istore (lv' := [(4, .int 0), (3, .int (nI (169 + (20 * (np P))))), (0, .ref o), (1, .int spd), (2, .int cap)]) hx hb dX7_addPlow_74 hl (by decide) rfl (fun ls hl => ?_)
          subst eF4
          subst eV3
          subst eF2
          exact L76 20 (169 + (20 * (np P))) 0 _ _ _ _ _ _ (by first | assumption | omega) (by first | assumption | omega) (by unfold fP_X7_addPlow; (try dsimp only); (try rw [if_neg c10, if_neg c21, if_neg c35]); (try rfl)) (by unfold fV_X7_addPlow; (try dsimp only); (try rw [if_neg c10, if_neg c21, if_neg c35]); (try rfl)) (by unfold fF_X7_addPlow; (try dsimp only); (try rw [if_neg c10, if_neg c21, if_neg c35]); (try rfl)) (by unfold fR_X7_addPlow; (try dsimp only); (try rw [if_neg c10, if_neg c21, if_neg c35]); (try rfl)) hG hS (lv_sub hl [2, 3, 4, 1, 0] rfl)
        · exact absurd c50 (by decide)
      · have c35 : (np P) = 3 := (nI_eq (a := (np P)) (b := 3) (by omega) (by omega)).mp c35
        refine lv_iconst (v := 2) hx hb dX7_addPlow_38 (by decide) ?_
        refine lv_goto (tgt := 43) hx hb dX7_addPlow_39 (by decide) ?_
        refine putM 6 hx hb hts hown hK hG hS hA (by decide) qF_X7_26 rfl dX7_addPlow_43 (fun H locs hG hS => ?_)
        generalize eF10 : upd F 6 2 = F10 at hG
        refine lv_aload_n hx hb dX7_addPlow_46 rfl (lv_at hl 0 rfl) ?_
        refine getM 6 hx hb hts hown hK hG (by decide) qF_X7_26 rfl dX7_addPlow_47 ?_
        refine topE (y := 2) (by rw [← eF10, upd_s]) ?_
        refine lv_if_eq (tgt := 55) hx hb dX7_addPlow_50 (by decide) (fun c50 => ?_) (fun c50 => ?_)
        · exact absurd c50 (by decide)
        · refine lv_iconst (v := 0) hx hb dX7_addPlow_53 (by decide) ?_
          subst eF10
          have hG9 : Md D o (fP_X7_addPlow P V F spd cap) S (fV_X7_addPlow P V F spd cap) T (fF_X7_addPlow P V F spd cap) h H := by
            unfold fP_X7_addPlow; (try dsimp only); (try rw [if_neg c10, if_neg c21, if_pos c35])
            unfold fV_X7_addPlow; (try dsimp only); (try rw [if_neg c10, if_neg c21, if_pos c35])
            unfold fF_X7_addPlow; (try dsimp only); (try rw [if_neg c10, if_neg c21, if_pos c35])
            exact hG
          exact W.iret hx hb hr (fun t ht hW => gQi_of (by unfold fR_X7_addPlow; (try dsimp only); (try rw [if_neg c10, if_neg c21, if_pos c35]); (try rfl)) hG9 hS ht) hS.2.2 dX7_addPlow_54
    · refine lv_iconst (v := 1) hx hb dX7_addPlow_24 (by decide) ?_
      refine lv_goto (tgt := 43) hx hb dX7_addPlow_25 (by decide) ?_
      refine putM 6 hx hb hts hown hK hG hS hA (by decide) qF_X7_26 rfl dX7_addPlow_43 (fun H locs hG hS => ?_)
      generalize eF11 : upd F 6 1 = F11 at hG
      refine lv_aload_n hx hb dX7_addPlow_46 rfl (lv_at hl 0 rfl) ?_
      refine getM 6 hx hb hts hown hK hG (by decide) qF_X7_26 rfl dX7_addPlow_47 ?_
      refine topE (y := 1) (by rw [← eF11, upd_s]) ?_
      refine lv_if_eq (tgt := 55) hx hb dX7_addPlow_50 (by decide) (fun c50 => ?_) (fun c50 => ?_)
      · exact absurd c50 (by decide)
      · refine lv_iconst (v := 0) hx hb dX7_addPlow_53 (by decide) ?_
        subst eF11
        have hG9 : Md D o (fP_X7_addPlow P V F spd cap) S (fV_X7_addPlow P V F spd cap) T (fF_X7_addPlow P V F spd cap) h H := by
          unfold fP_X7_addPlow; (try dsimp only); (try rw [if_neg c10, if_pos c21])
          unfold fV_X7_addPlow; (try dsimp only); (try rw [if_neg c10, if_pos c21])
          unfold fF_X7_addPlow; (try dsimp only); (try rw [if_neg c10, if_pos c21])
          exact hG
        exact W.iret hx hb hr (fun t ht hW => gQi_of (by unfold fR_X7_addPlow; (try dsimp only); (try rw [if_neg c10, if_pos c21]); (try rfl)) hG9 hS ht) hS.2.2 dX7_addPlow_54
theorem hdv_X7_addStop : yX7_addStop.cls = RX7 ∧ yX7_addStop.cls ≠ "java/lang/invoke/MethodHandle" ∧ yX7_addStop.cls ≠ "java/lang/invoke/VarHandle" ∧ (parseMethodDescriptor yX7_addStop.desc).map (fun d => d.parameters.length) = some 2 := by decide +kernel
def fP_X7_addStop (P : Nat → Int32) (V : Nat → Int32) (F : Nat → Int32) (pl : Int32) (str : Int32) : Nat → Int32 :=
  if fR_X7_isPlow P pl = 0 then
    P
  else
    if fR_X7_isStreet P str = 0 then
      P
    else
      if fR_X7_ofPlow P pl.toNatClampNeg 3 = 12 then
        P
      else
        let P5 := upd P (169 + 20 * pl.toNatClampNeg + 8 + (nc P pl.toNatClampNeg)) str
        let x6 := (P5 (169 + 20 * pl.toNatClampNeg + 3)) + 1
        let P7 := upd P5 (169 + 20 * pl.toNatClampNeg + 3) x6
        P7
def fV_X7_addStop (P : Nat → Int32) (V : Nat → Int32) (F : Nat → Int32) (pl : Int32) (str : Int32) : Nat → Int32 :=
  if fR_X7_isPlow P pl = 0 then
    V
  else
    if fR_X7_isStreet P str = 0 then
      V
    else
      if fR_X7_ofPlow P pl.toNatClampNeg 3 = 12 then
        V
      else
        let F2 := upd F 6 0
        let V3 := fV_X7_keep P V F2
        V3
def fF_X7_addStop (P : Nat → Int32) (V : Nat → Int32) (F : Nat → Int32) (pl : Int32) (str : Int32) : Nat → Int32 :=
  if fR_X7_isPlow P pl = 0 then
    let F1 := upd F 6 1
    F1
  else
    if fR_X7_isStreet P str = 0 then
      let F9 := upd F 6 1
      F9
    else
      if fR_X7_ofPlow P pl.toNatClampNeg 3 = 12 then
        let F8 := upd F 6 2
        F8
      else
        let F2 := upd F 6 0
        let F4 := fF_X7_keep P V F2
        F4
def fR_X7_addStop (P : Nat → Int32) (V : Nat → Int32) (F : Nat → Int32) (pl : Int32) (str : Int32) : Int32 :=
  if fR_X7_isPlow P pl = 0 then
    0
  else
    if fR_X7_isStreet P str = 0 then
      0
    else
      if fR_X7_ofPlow P pl.toNatClampNeg 3 = 12 then
        0
      else
        let P5 := upd P (169 + 20 * pl.toNatClampNeg + 8 + (nc P pl.toNatClampNeg)) str
        let x6 := (P5 (169 + 20 * pl.toNatClampNeg + 3)) + 1
        let P7 := upd P5 (169 + 20 * pl.toNatClampNeg + 3) x6
        P7 (169 + 20 * pl.toNatClampNeg + 3)
set_option maxHeartbeats 4000000 in
set_option maxRecDepth 100000 in
theorem c_X7_addStop (l : Launch) (D : va_G) (o : Nat) (P S V T F : Nat → Int32) (h : Int64) (pl : Int32) (str : Int32) (hN : okN P) (hc : okC F) (hQ : ∀ q, q < np P → okQ P q) : Met l yX7_addStop (wA yX7_addStop cX7_addStop 4 (some .int)) (rmL 2) (gPc D [.ref o, .int pl, .int str] (fun H => Md D o P S V T F h H)) (gQi (inM o) (fR_X7_addStop P V F pl str) (fun H => Md D o (fP_X7_addStop P V F pl str) S (fV_X7_addStop P V F pl str) T (fF_X7_addStop P V F pl str) h H)) 0 0 (inM o) := by
  refine Met.ofW (cc := cX7_addStop) (maxL := 4) (ret := (some .int)) (by decide) rfl ?_
  intro p e s m args below meth c s₁ B hml hv
  obtain ⟨hav, hG, hK⟩ := hv
  have hx := B.exec
  have hb := B.bytes
  have hr := B.returns
  have hts0 := atoms_spec (ws := wA yX7_addStop cX7_addStop 4 (some .int)) B.pre
  have hts : ∀ w ∈ AW, w.before _ s = true := fun w h => hts0 w (List.mem_cons_of_mem _ h)
  have hown : s.vm.findClass RX7 = some m.cls := findClass_of_methodNamed B.named
  have hlocks := B.notSynchronized
  have hA : ∀ q, (inM o) q → (inM o) q := fun _ h => h
  have hS : va_S (inM o) s.heap s.heap [] := va_S.rf
  have hG : Md D o P S V T F h s.heap := hG
  have hl := lv_entry ([.ref o, .int pl, .int str]) (n := 4) (Nat.le_of_ble_eq_true rfl)
  refine W.eq (g2 := entryFrame m ([.ref o, .int pl, .int str] : List Value).toArray 4) (by rw [hav]) ?_
  rw [lg_entry_eq]
  generalize (lg_sl ([.ref o, .int pl, .int str]) ++ List.replicate (4 - (lg_sl ([.ref o, .int pl, .int str])).length) Slot.unset).toArray = ls at hl ⊢
  have hl : lv_has ls 4 [(0, .ref o), (1, .int pl), (2, .int str)] := hl
  have hn3 := hN.2.2.2
  refine lv_aload_n hx hb dX7_addStop_0 rfl (lv_at hl 0 rfl) ?_
  refine lv_aload_n hx hb dX7_addStop_1 rfl (lv_at hl 0 rfl) ?_
  refine lv_iload_n hx hb dX7_addStop_2 rfl (lv_at hl 1 rfl) ?_
  refine gcVi (As := [.int pl]) (rest := [.ref o]) hx hb hml hown hts hl.1 hK (c_X7_isPlow l D o P S V T F h pl) (gaV qM_X7_51 qI_X7_isPlow qS_X7_isPlow qK_X7 qC_X7_isPlow) hdv_X7_isPlow ⟨Nat.le_of_ble_eq_true rfl, Nat.le_of_ble_eq_true rfl⟩ hG (hG.recv hK) rfl (Nat.le_of_ble_eq_true rfl) ⟨Nat.zero_le _, Nat.zero_le _⟩ dX7_addStop_3 hS hA (fun H locs hG _ _ hS => ?_)
  have hG : Md D o P S V T F h H := hG
  refine lv_if_eq (tgt := 17) hx hb dX7_addStop_6 (by decide) (fun c6 => ?_) (fun c6 => ?_)
  · refine lv_iconst (v := 1) hx hb dX7_addStop_17 (by decide) ?_
    refine lv_goto (tgt := 37) hx hb dX7_addStop_18 (by decide) ?_
    refine putM 6 hx hb hts hown hK hG hS hA (by decide) qF_X7_26 rfl dX7_addStop_37 (fun H locs hG hS => ?_)
    generalize eF1 : upd F 6 1 = F1 at hG
    refine lv_aload_n hx hb dX7_addStop_40 rfl (lv_at hl 0 rfl) ?_
    refine getM 6 hx hb hts hown hK hG (by decide) qF_X7_26 rfl dX7_addStop_41 ?_
    refine topE (y := 1) (by rw [← eF1, upd_s]) ?_
    refine lv_if_eq (tgt := 49) hx hb dX7_addStop_44 (by decide) (fun c44 => ?_) (fun c44 => ?_)
    · exact absurd c44 (by decide)
    · refine lv_iconst (v := 0) hx hb dX7_addStop_47 (by decide) ?_
      subst eF1
      have hG9 : Md D o (fP_X7_addStop P V F pl str) S (fV_X7_addStop P V F pl str) T (fF_X7_addStop P V F pl str) h H := by
        unfold fP_X7_addStop; (try dsimp only); (try rw [if_pos c6])
        unfold fV_X7_addStop; (try dsimp only); (try rw [if_pos c6])
        unfold fF_X7_addStop; (try dsimp only); (try rw [if_pos c6])
        exact hG
      exact W.iret hx hb hr (fun t ht hW => gQi_of (by unfold fR_X7_addStop; (try dsimp only); (try rw [if_pos c6]); (try rfl)) hG9 hS ht) hS.2.2 dX7_addStop_48
  · refine lv_aload_n hx hb dX7_addStop_9 rfl (lv_at hl 0 rfl) ?_
    refine lv_iload_n hx hb dX7_addStop_10 rfl (lv_at hl 2 rfl) ?_
    refine gcVi (As := [.int str]) (rest := [.ref o]) hx hb hml hown hts hl.1 hK (c_X7_isStreet l D o P S V T F h str) (gaV qM_X7_55 qI_X7_isStreet qS_X7_isStreet qK_X7 qC_X7_isStreet) hdv_X7_isStreet ⟨Nat.le_of_ble_eq_true rfl, Nat.le_of_ble_eq_true rfl⟩ hG (hG.recv hK) rfl (Nat.le_of_ble_eq_true rfl) ⟨Nat.zero_le _, Nat.zero_le _⟩ dX7_addStop_11 hS hA (fun H locs hG _ _ hS => ?_)
    have hG : Md D o P S V T F h H := hG
    refine lv_if_ne (tgt := 21) hx hb dX7_addStop_14 (by decide) (fun c14 => ?_) (fun c14 => ?_)
    · refine lv_aload_n hx hb dX7_addStop_21 rfl (lv_at hl 0 rfl) ?_
      refine lv_iload_n hx hb dX7_addStop_22 rfl (lv_at hl 1 rfl) ?_
      refine topN (n := pl.toNatClampNeg) (isPlow_n hN c6).1 ?_
      refine lv_iconst (v := 3) hx hb dX7_addStop_23 (by decide) ?_
      refine gcVi (As := [.int (nI pl.toNatClampNeg), .int 3]) (rest := [.ref o]) hx hb hml hown hts hl.1 hK (c_X7_ofPlow l D o P S V T F h pl.toNatClampNeg 3 (isPlow_3 hN c6) (by first | assumption | omega)) (gaV qM_X7_58 qI_X7_ofPlow qS_X7_ofPlow qK_X7 qC_X7_ofPlow) hdv_X7_ofPlow ⟨Nat.le_of_ble_eq_true rfl, Nat.le_of_ble_eq_true rfl⟩ hG (hG.recv hK) rfl (Nat.le_of_ble_eq_true rfl) ⟨Nat.zero_le _, Nat.zero_le _⟩ dX7_addStop_24 hS hA (fun H locs hG _ _ hS => ?_)
      have hG : Md D o P S V T F h H := hG
      refine lv_bipush (v := 12) hx hb dX7_addStop_27 (by decide) ?_
      refine lv_icmp_ne (tgt := 36) hx hb dX7_addStop_29 (by decide) (fun c29 => ?_) (fun c29 => ?_)
      · refine lv_iconst (v := 0) hx hb dX7_addStop_36 (by decide) ?_
        refine putM 6 hx hb hts hown hK hG hS hA (by decide) qF_X7_26 rfl dX7_addStop_37 (fun H locs hG hS => ?_)
        generalize eF2 : upd F 6 0 = F2 at hG
        refine lv_aload_n hx hb dX7_addStop_40 rfl (lv_at hl 0 rfl) ?_
        refine getM 6 hx hb hts hown hK hG (by decide) qF_X7_26 rfl dX7_addStop_41 ?_
        refine topE (y := 0) (by rw [← eF2, upd_s]) ?_
        refine lv_if_eq (tgt := 49) hx hb dX7_addStop_44 (by decide) (fun c44 => ?_) (fun c44 => ?_)
        · have hqn := (isPlow_n hN c6).2
          have hq3 := isPlow_3 hN c6
          have hc12 := (hQ _ hqn).2
          have hne := ne12 (hQ _ hqn).1 hc12 c29
          refine lv_aload_n hx hb dX7_addStop_49 rfl (lv_at hl 0 rfl) ?_
          refine gcVv (As := []) (rest := []) hx hb hml hown hts hl.1 hK (c_X7_keep l D o P S V T F2 h (by subst_vars; exact okC_6 hc)) (gaV qM_X7_48 qI_X7_keep qS_X7_keep qK_X7 qC_X7_keep) hdv_X7_keep ⟨Nat.le_of_ble_eq_true rfl, Nat.le_of_ble_eq_true rfl⟩ hG (hG.recv hK) rfl (Nat.le_of_ble_eq_true rfl) ⟨Nat.zero_le _, Nat.zero_le _⟩ dX7_addStop_50 hS hA (fun H locs hG _ _ hS => ?_)
          have hG : Md D o P S (fV_X7_keep P V F2) T (fF_X7_keep P V F2) h H := hG
          generalize eV3 : fV_X7_keep P V F2 = V3 at hG
          generalize eF4 : fF_X7_keep P V F2 = F4 at hG
          refine lv_sipush (v := 169) hx hb dX7_addStop_53 (by decide) ?_
          refine lv_bipush (v := 20) hx hb dX7_addStop_56 (by decide) ?_
          refine lv_iload_n hx hb dX7_addStop_58 rfl (lv_at hl 1 rfl) ?_
          refine topN (n := pl.toNatClampNeg) (isPlow_n hN c6).1 ?_
          refine imulN (a := 20) (b := pl.toNatClampNeg) hx hb dX7_addStop_59 ?_
          refine iaddN (a := 169) (b := 20 * pl.toNatClampNeg) hx hb dX7_addStop_60 ?_
          refine lv_istore_n (lv' := [(3, .int (nI (169 + 20 * pl.toNatClampNeg))), (0, .ref o), (1, .int pl), (2, .int str)]) hx hb dX7_addStop_61 rfl hl (by decide) rfl (fun ls hl => ?_)
          refine lv_aload_n hx hb dX7_addStop_62 rfl (lv_at hl 1 rfl) ?_
          refine getMm hx hb hts hown hK hG qF_X7_7 dX7_addStop_63 ?_
          refine lv_iload_n hx hb dX7_addStop_66 rfl (lv_at hl 0 rfl) ?_
          refine lv_bipush (v := 8) hx hb dX7_addStop_67 (by decide) ?_
          refine iaddN (a := 169 + 20 * pl.toNatClampNeg) (b := 8) hx hb dX7_addStop_69 ?_
          refine lv_aload_n hx hb dX7_addStop_70 rfl (lv_at hl 1 rfl) ?_
          refine getMm hx hb hts hown hK hG qF_X7_7 dX7_addStop_71 ?_
          refine lv_iload_n hx hb dX7_addStop_74 rfl (lv_at hl 0 rfl) ?_
          refine lv_iconst (v := 3) hx hb dX7_addStop_75 (by decide) ?_
          refine iaddN (a := 169 + 20 * pl.toNatClampNeg) (b := 3) hx hb dX7_addStop_76 ?_
          refine aldMm (k := 169 + 20 * pl.toNatClampNeg + 3) hx hb hK hG (by omega) dX7_addStop_77 ?_
          refine topN (n := (nc P pl.toNatClampNeg)) (hQ _ (isPlow_n hN c6).2).1 ?_
          refine iaddN (a := 169 + 20 * pl.toNatClampNeg + 8) (b := (nc P pl.toNatClampNeg)) hx hb dX7_addStop_78 ?_
          refine lv_iload_n hx hb dX7_addStop_79 rfl (lv_at hl 3 rfl) ?_
          refine astMm (k := 169 + 20 * pl.toNatClampNeg + 8 + (nc P pl.toNatClampNeg)) hx hb hK hG hS hA (by omega) dX7_addStop_80 (fun H locs hG hS => ?_)
          generalize eP5 : upd P (169 + 20 * pl.toNatClampNeg + 8 + (nc P pl.toNatClampNeg)) str = P5 at hG
          refine lv_aload_n hx hb dX7_addStop_81 rfl (lv_at hl 1 rfl) ?_
          refine getMm hx hb hts hown hK hG qF_X7_7 dX7_addStop_82 ?_
          refine lv_iload_n hx hb dX7_addStop_85 rfl (lv_at hl 0 rfl) ?_
          refine lv_iconst (v := 3) hx hb dX7_addStop_86 (by decide) ?_
          refine iaddN (a := 169 + 20 * pl.toNatClampNeg) (b := 3) hx hb dX7_addStop_87 ?_
          refine lv_dup2_11 hx hb dX7_addStop_88 rfl rfl ?_
          refine aldMm (k := 169 + 20 * pl.toNatClampNeg + 3) hx hb hK hG (by omega) dX7_addStop_89 ?_
          refine lv_iconst (v := 1) hx hb dX7_addStop_90 (by decide) ?_
          refine lv_iadd hx hb dX7_addStop_91 ?_
          refine lv_topi (fun x6 ex6 => ?_)
          refine astMm (k := 169 + 20 * pl.toNatClampNeg + 3) hx hb hK hG hS hA (by omega) dX7_addStop_92 (fun H locs hG hS => ?_)
          generalize eP7 : upd P5 (169 + 20 * pl.toNatClampNeg + 3) x6 = P7 at hG
          refine lv_aload_n hx hb dX7_addStop_93 rfl (lv_at hl 1 rfl) ?_
          refine getMm hx hb hts hown hK hG qF_X7_7 dX7_addStop_94 ?_
          refine lv_iload_n hx hb dX7_addStop_97 rfl (lv_at hl 0 rfl) ?_
          refine lv_iconst (v := 3) hx hb dX7_addStop_98 (by decide) ?_
          refine iaddN (a := 169 + 20 * pl.toNatClampNeg) (b := 3) hx hb dX7_addStop_99 ?_
          refine aldMm (k := 169 + 20 * pl.toNatClampNeg + 3) hx hb hK hG (by omega) dX7_addStop_100 ?_
          subst eP7
          subst ex6
          subst eP5
          subst eF4
          subst eV3
          subst eF2
          have hG9 : Md D o (fP_X7_addStop P V F pl str) S (fV_X7_addStop P V F pl str) T (fF_X7_addStop P V F pl str) h H := by
            unfold fP_X7_addStop; (try dsimp only); (try rw [if_neg c6, if_neg c14, if_neg c29])
            unfold fV_X7_addStop; (try dsimp only); (try rw [if_neg c6, if_neg c14, if_neg c29])
            unfold fF_X7_addStop; (try dsimp only); (try rw [if_neg c6, if_neg c14, if_neg c29])
            exact hG
          exact W.iret hx hb hr (fun t ht hW => gQi_of (by unfold fR_X7_addStop; (try dsimp only); (try rw [if_neg c6, if_neg c14, if_neg c29]); (try rfl)) hG9 hS ht) hS.2.2 dX7_addStop_101
        · exact absurd c44 (by decide)
      · refine lv_iconst (v := 2) hx hb dX7_addStop_32 (by decide) ?_
        refine lv_goto (tgt := 37) hx hb dX7_addStop_33 (by decide) ?_
        refine putM 6 hx hb hts hown hK hG hS hA (by decide) qF_X7_26 rfl dX7_addStop_37 (fun H locs hG hS => ?_)
        generalize eF8 : upd F 6 2 = F8 at hG
        refine lv_aload_n hx hb dX7_addStop_40 rfl (lv_at hl 0 rfl) ?_
        refine getM 6 hx hb hts hown hK hG (by decide) qF_X7_26 rfl dX7_addStop_41 ?_
        refine topE (y := 2) (by rw [← eF8, upd_s]) ?_
        refine lv_if_eq (tgt := 49) hx hb dX7_addStop_44 (by decide) (fun c44 => ?_) (fun c44 => ?_)
        · exact absurd c44 (by decide)
        · refine lv_iconst (v := 0) hx hb dX7_addStop_47 (by decide) ?_
          subst eF8
          have hG9 : Md D o (fP_X7_addStop P V F pl str) S (fV_X7_addStop P V F pl str) T (fF_X7_addStop P V F pl str) h H := by
            unfold fP_X7_addStop; (try dsimp only); (try rw [if_neg c6, if_neg c14, if_pos c29])
            unfold fV_X7_addStop; (try dsimp only); (try rw [if_neg c6, if_neg c14, if_pos c29])
            unfold fF_X7_addStop; (try dsimp only); (try rw [if_neg c6, if_neg c14, if_pos c29])
            exact hG
          exact W.iret hx hb hr (fun t ht hW => gQi_of (by unfold fR_X7_addStop; (try dsimp only); (try rw [if_neg c6, if_neg c14, if_pos c29]); (try rfl)) hG9 hS ht) hS.2.2 dX7_addStop_48
    · refine lv_iconst (v := 1) hx hb dX7_addStop_17 (by decide) ?_
      refine lv_goto (tgt := 37) hx hb dX7_addStop_18 (by decide) ?_
      refine putM 6 hx hb hts hown hK hG hS hA (by decide) qF_X7_26 rfl dX7_addStop_37 (fun H locs hG hS => ?_)
      generalize eF9 : upd F 6 1 = F9 at hG
      refine lv_aload_n hx hb dX7_addStop_40 rfl (lv_at hl 0 rfl) ?_
      refine getM 6 hx hb hts hown hK hG (by decide) qF_X7_26 rfl dX7_addStop_41 ?_
      refine topE (y := 1) (by rw [← eF9, upd_s]) ?_
      refine lv_if_eq (tgt := 49) hx hb dX7_addStop_44 (by decide) (fun c44 => ?_) (fun c44 => ?_)
      · exact absurd c44 (by decide)
      · refine lv_iconst (v := 0) hx hb dX7_addStop_47 (by decide) ?_
        subst eF9
        have hG9 : Md D o (fP_X7_addStop P V F pl str) S (fV_X7_addStop P V F pl str) T (fF_X7_addStop P V F pl str) h H := by
          unfold fP_X7_addStop; (try dsimp only); (try rw [if_neg c6, if_pos c14])
          unfold fV_X7_addStop; (try dsimp only); (try rw [if_neg c6, if_pos c14])
          unfold fF_X7_addStop; (try dsimp only); (try rw [if_neg c6, if_pos c14])
          exact hG
        exact W.iret hx hb hr (fun t ht hW => gQi_of (by unfold fR_X7_addStop; (try dsimp only); (try rw [if_neg c6, if_pos c14]); (try rfl)) hG9 hS ht) hS.2.2 dX7_addStop_48
theorem hdv_X7_clearRoute : yX7_clearRoute.cls = RX7 ∧ yX7_clearRoute.cls ≠ "java/lang/invoke/MethodHandle" ∧ yX7_clearRoute.cls ≠ "java/lang/invoke/VarHandle" ∧ (parseMethodDescriptor yX7_clearRoute.desc).map (fun d => d.parameters.length) = some 1 := by decide +kernel
def fP_X7_clearRoute (P : Nat → Int32) (V : Nat → Int32) (F : Nat → Int32) (pl : Int32) : Nat → Int32 :=
  if fR_X7_isPlow P pl = 0 then
    P
  else
    let P6 := upd P (169 + 20 * pl.toNatClampNeg + 3) 0
    let P7 := upd P6 (169 + 20 * pl.toNatClampNeg + 4) 0
    let P8 := upd P7 (169 + 20 * pl.toNatClampNeg + 5) 0
    P8
def fV_X7_clearRoute (P : Nat → Int32) (V : Nat → Int32) (F : Nat → Int32) (pl : Int32) : Nat → Int32 :=
  if fR_X7_isPlow P pl = 0 then
    V
  else
    let F2 := upd F 6 0
    let V3 := fV_X7_keep P V F2
    V3
def fF_X7_clearRoute (P : Nat → Int32) (V : Nat → Int32) (F : Nat → Int32) (pl : Int32) : Nat → Int32 :=
  if fR_X7_isPlow P pl = 0 then
    let F1 := upd F 6 1
    F1
  else
    let F2 := upd F 6 0
    let F4 := fF_X7_keep P V F2
    F4
def fR_X7_clearRoute (P : Nat → Int32) (V : Nat → Int32) (F : Nat → Int32) (pl : Int32) : Int32 :=
  if fR_X7_isPlow P pl = 0 then
    0
  else
    let x5 := P (169 + 20 * pl.toNatClampNeg + 3)
    x5
set_option maxHeartbeats 4000000 in
set_option maxRecDepth 100000 in
theorem c_X7_clearRoute (l : Launch) (D : va_G) (o : Nat) (P S V T F : Nat → Int32) (h : Int64) (pl : Int32) (hN : okN P) (hc : okC F) : Met l yX7_clearRoute (wA yX7_clearRoute cX7_clearRoute 4 (some .int)) (rmL 2) (gPc D [.ref o, .int pl] (fun H => Md D o P S V T F h H)) (gQi (inM o) (fR_X7_clearRoute P V F pl) (fun H => Md D o (fP_X7_clearRoute P V F pl) S (fV_X7_clearRoute P V F pl) T (fF_X7_clearRoute P V F pl) h H)) 0 0 (inM o) := by
  refine Met.ofW (cc := cX7_clearRoute) (maxL := 4) (ret := (some .int)) (by decide) rfl ?_
  intro p e s m args below meth c s₁ B hml hv
  obtain ⟨hav, hG, hK⟩ := hv
  have hx := B.exec
  have hb := B.bytes
  have hr := B.returns
  have hts0 := atoms_spec (ws := wA yX7_clearRoute cX7_clearRoute 4 (some .int)) B.pre
  have hts : ∀ w ∈ AW, w.before _ s = true := fun w h => hts0 w (List.mem_cons_of_mem _ h)
  have hown : s.vm.findClass RX7 = some m.cls := findClass_of_methodNamed B.named
  have hlocks := B.notSynchronized
  have hA : ∀ q, (inM o) q → (inM o) q := fun _ h => h
  have hS : va_S (inM o) s.heap s.heap [] := va_S.rf
  have hG : Md D o P S V T F h s.heap := hG
  have hl := lv_entry ([.ref o, .int pl]) (n := 4) (Nat.le_of_ble_eq_true rfl)
  refine W.eq (g2 := entryFrame m ([.ref o, .int pl] : List Value).toArray 4) (by rw [hav]) ?_
  rw [lg_entry_eq]
  generalize (lg_sl ([.ref o, .int pl]) ++ List.replicate (4 - (lg_sl ([.ref o, .int pl])).length) Slot.unset).toArray = ls at hl ⊢
  have hl : lv_has ls 4 [(0, .ref o), (1, .int pl)] := hl
  refine lv_aload_n hx hb dX7_clearRoute_0 rfl (lv_at hl 0 rfl) ?_
  refine lv_aload_n hx hb dX7_clearRoute_1 rfl (lv_at hl 0 rfl) ?_
  refine lv_iload_n hx hb dX7_clearRoute_2 rfl (lv_at hl 1 rfl) ?_
  refine gcVi (As := [.int pl]) (rest := [.ref o]) hx hb hml hown hts hl.1 hK (c_X7_isPlow l D o P S V T F h pl) (gaV qM_X7_51 qI_X7_isPlow qS_X7_isPlow qK_X7 qC_X7_isPlow) hdv_X7_isPlow ⟨Nat.le_of_ble_eq_true rfl, Nat.le_of_ble_eq_true rfl⟩ hG (hG.recv hK) rfl (Nat.le_of_ble_eq_true rfl) ⟨Nat.zero_le _, Nat.zero_le _⟩ dX7_clearRoute_3 hS hA (fun H locs hG _ _ hS => ?_)
  have hG : Md D o P S V T F h H := hG
  refine lv_if_eq (tgt := 13) hx hb dX7_clearRoute_6 (by decide) (fun c6 => ?_) (fun c6 => ?_)
  · refine lv_iconst (v := 1) hx hb dX7_clearRoute_13 (by decide) ?_
    refine putM 6 hx hb hts hown hK hG hS hA (by decide) qF_X7_26 rfl dX7_clearRoute_14 (fun H locs hG hS => ?_)
    generalize eF1 : upd F 6 1 = F1 at hG
    refine lv_aload_n hx hb dX7_clearRoute_17 rfl (lv_at hl 0 rfl) ?_
    refine getM 6 hx hb hts hown hK hG (by decide) qF_X7_26 rfl dX7_clearRoute_18 ?_
    refine topE (y := 1) (by rw [← eF1, upd_s]) ?_
    refine lv_if_eq (tgt := 26) hx hb dX7_clearRoute_21 (by decide) (fun c21 => ?_) (fun c21 => ?_)
    · exact absurd c21 (by decide)
    · refine lv_iconst (v := 0) hx hb dX7_clearRoute_24 (by decide) ?_
      subst eF1
      have hG9 : Md D o (fP_X7_clearRoute P V F pl) S (fV_X7_clearRoute P V F pl) T (fF_X7_clearRoute P V F pl) h H := by
        unfold fP_X7_clearRoute; (try dsimp only); (try rw [if_pos c6])
        unfold fV_X7_clearRoute; (try dsimp only); (try rw [if_pos c6])
        unfold fF_X7_clearRoute; (try dsimp only); (try rw [if_pos c6])
        exact hG
      exact W.iret hx hb hr (fun t ht hW => gQi_of (by unfold fR_X7_clearRoute; (try dsimp only); (try rw [if_pos c6]); (try rfl)) hG9 hS ht) hS.2.2 dX7_clearRoute_25
  · refine lv_iconst (v := 0) hx hb dX7_clearRoute_9 (by decide) ?_
    refine lv_goto (tgt := 14) hx hb dX7_clearRoute_10 (by decide) ?_
    refine putM 6 hx hb hts hown hK hG hS hA (by decide) qF_X7_26 rfl dX7_clearRoute_14 (fun H locs hG hS => ?_)
    generalize eF2 : upd F 6 0 = F2 at hG
    refine lv_aload_n hx hb dX7_clearRoute_17 rfl (lv_at hl 0 rfl) ?_
    refine getM 6 hx hb hts hown hK hG (by decide) qF_X7_26 rfl dX7_clearRoute_18 ?_
    refine topE (y := 0) (by rw [← eF2, upd_s]) ?_
    refine lv_if_eq (tgt := 26) hx hb dX7_clearRoute_21 (by decide) (fun c21 => ?_) (fun c21 => ?_)
    · have hq3 := isPlow_3 hN c6
      refine lv_aload_n hx hb dX7_clearRoute_26 rfl (lv_at hl 0 rfl) ?_
      refine gcVv (As := []) (rest := []) hx hb hml hown hts hl.1 hK (c_X7_keep l D o P S V T F2 h (by subst_vars; exact okC_6 hc)) (gaV qM_X7_48 qI_X7_keep qS_X7_keep qK_X7 qC_X7_keep) hdv_X7_keep ⟨Nat.le_of_ble_eq_true rfl, Nat.le_of_ble_eq_true rfl⟩ hG (hG.recv hK) rfl (Nat.le_of_ble_eq_true rfl) ⟨Nat.zero_le _, Nat.zero_le _⟩ dX7_clearRoute_27 hS hA (fun H locs hG _ _ hS => ?_)
      have hG : Md D o P S (fV_X7_keep P V F2) T (fF_X7_keep P V F2) h H := hG
      generalize eV3 : fV_X7_keep P V F2 = V3 at hG
      generalize eF4 : fF_X7_keep P V F2 = F4 at hG
      refine lv_sipush (v := 169) hx hb dX7_clearRoute_30 (by decide) ?_
      refine lv_bipush (v := 20) hx hb dX7_clearRoute_33 (by decide) ?_
      refine lv_iload_n hx hb dX7_clearRoute_35 rfl (lv_at hl 1 rfl) ?_
      refine topN (n := pl.toNatClampNeg) (isPlow_n hN c6).1 ?_
      refine imulN (a := 20) (b := pl.toNatClampNeg) hx hb dX7_clearRoute_36 ?_
      refine iaddN (a := 169) (b := 20 * pl.toNatClampNeg) hx hb dX7_clearRoute_37 ?_
      refine lv_istore_n (lv' := [(2, .int (nI (169 + 20 * pl.toNatClampNeg))), (0, .ref o), (1, .int pl)]) hx hb dX7_clearRoute_38 rfl hl (by decide) rfl (fun ls hl => ?_)
      refine lv_aload_n hx hb dX7_clearRoute_39 rfl (lv_at hl 1 rfl) ?_
      refine getMm hx hb hts hown hK hG qF_X7_7 dX7_clearRoute_40 ?_
      refine lv_iload_n hx hb dX7_clearRoute_43 rfl (lv_at hl 0 rfl) ?_
      refine lv_iconst (v := 3) hx hb dX7_clearRoute_44 (by decide) ?_
      refine iaddN (a := 169 + 20 * pl.toNatClampNeg) (b := 3) hx hb dX7_clearRoute_45 ?_
      refine aldMm (k := 169 + 20 * pl.toNatClampNeg + 3) hx hb hK hG (by omega) dX7_clearRoute_46 ?_
      refine lv_topi (fun x5 ex5 => ?_)
      refine lv_istore_n (lv' := [(3, .int x5), (2, .int (nI (169 + 20 * pl.toNatClampNeg))), (0, .ref o), (1, .int pl)]) hx hb dX7_clearRoute_47 rfl hl (by decide) rfl (fun ls hl => ?_)
      refine lv_aload_n hx hb dX7_clearRoute_48 rfl (lv_at hl 2 rfl) ?_
      refine getMm hx hb hts hown hK hG qF_X7_7 dX7_clearRoute_49 ?_
      refine lv_iload_n hx hb dX7_clearRoute_52 rfl (lv_at hl 1 rfl) ?_
      refine lv_iconst (v := 3) hx hb dX7_clearRoute_53 (by decide) ?_
      refine iaddN (a := 169 + 20 * pl.toNatClampNeg) (b := 3) hx hb dX7_clearRoute_54 ?_
      refine lv_iconst (v := 0) hx hb dX7_clearRoute_55 (by decide) ?_
      refine astMm (k := 169 + 20 * pl.toNatClampNeg + 3) hx hb hK hG hS hA (by omega) dX7_clearRoute_56 (fun H locs hG hS => ?_)
      generalize eP6 : upd P (169 + 20 * pl.toNatClampNeg + 3) 0 = P6 at hG
      refine lv_aload_n hx hb dX7_clearRoute_57 rfl (lv_at hl 2 rfl) ?_
      refine getMm hx hb hts hown hK hG qF_X7_7 dX7_clearRoute_58 ?_
      refine lv_iload_n hx hb dX7_clearRoute_61 rfl (lv_at hl 1 rfl) ?_
      refine lv_iconst (v := 4) hx hb dX7_clearRoute_62 (by decide) ?_
      refine iaddN (a := 169 + 20 * pl.toNatClampNeg) (b := 4) hx hb dX7_clearRoute_63 ?_
      refine lv_iconst (v := 0) hx hb dX7_clearRoute_64 (by decide) ?_
      refine astMm (k := 169 + 20 * pl.toNatClampNeg + 4) hx hb hK hG hS hA (by omega) dX7_clearRoute_65 (fun H locs hG hS => ?_)
      generalize eP7 : upd P6 (169 + 20 * pl.toNatClampNeg + 4) 0 = P7 at hG
      refine lv_aload_n hx hb dX7_clearRoute_66 rfl (lv_at hl 2 rfl) ?_
      refine getMm hx hb hts hown hK hG qF_X7_7 dX7_clearRoute_67 ?_
      refine lv_iload_n hx hb dX7_clearRoute_70 rfl (lv_at hl 1 rfl) ?_
      refine lv_iconst (v := 5) hx hb dX7_clearRoute_71 (by decide) ?_
      refine iaddN (a := 169 + 20 * pl.toNatClampNeg) (b := 5) hx hb dX7_clearRoute_72 ?_
      refine lv_iconst (v := 0) hx hb dX7_clearRoute_73 (by decide) ?_
      refine astMm (k := 169 + 20 * pl.toNatClampNeg + 5) hx hb hK hG hS hA (by omega) dX7_clearRoute_74 (fun H locs hG hS => ?_)
      generalize eP8 : upd P7 (169 + 20 * pl.toNatClampNeg + 5) 0 = P8 at hG
      refine lv_iload_n hx hb dX7_clearRoute_75 rfl (lv_at hl 0 rfl) ?_
      subst eP8
      subst eP7
      subst eP6
      subst ex5
      subst eF4
      subst eV3
      subst eF2
      have hG9 : Md D o (fP_X7_clearRoute P V F pl) S (fV_X7_clearRoute P V F pl) T (fF_X7_clearRoute P V F pl) h H := by
        unfold fP_X7_clearRoute; (try dsimp only); (try rw [if_neg c6])
        unfold fV_X7_clearRoute; (try dsimp only); (try rw [if_neg c6])
        unfold fF_X7_clearRoute; (try dsimp only); (try rw [if_neg c6])
        exact hG
      exact W.iret hx hb hr (fun t ht hW => gQi_of (by unfold fR_X7_clearRoute; (try dsimp only); (try rw [if_neg c6]); (try rfl)) hG9 hS ht) hS.2.2 dX7_clearRoute_76
    · exact absurd c21 (by decide)
theorem hdv_X7_exchange : yX7_exchange.cls = RX7 ∧ yX7_exchange.cls ≠ "java/lang/invoke/MethodHandle" ∧ yX7_exchange.cls ≠ "java/lang/invoke/VarHandle" ∧ (parseMethodDescriptor yX7_exchange.desc).map (fun d => d.parameters.length) = some 2 := by decide +kernel
def fP_X7_exchange (P : Nat → Int32) (V : Nat → Int32) (F : Nat → Int32) (pl : Int32) (x : Int32) : Nat → Int32 :=
  if fR_X7_isPlow P pl = 0 then
    P
  else
    if fR_X7_isPair P pl.toNatClampNeg x = 0 then
      P
    else
      if fR_X7_isBusy P pl.toNatClampNeg x = 0 then
        let P5 := fP_X7_exchanges P pl.toNatClampNeg x.toNatClampNeg
        P5
      else
        P
def fV_X7_exchange (P : Nat → Int32) (V : Nat → Int32) (F : Nat → Int32) (pl : Int32) (x : Int32) : Nat → Int32 :=
  if fR_X7_isPlow P pl = 0 then
    V
  else
    if fR_X7_isPair P pl.toNatClampNeg x = 0 then
      V
    else
      if fR_X7_isBusy P pl.toNatClampNeg x = 0 then
        let F2 := upd F 6 0
        let V3 := fV_X7_keep P V F2
        V3
      else
        V
def fF_X7_exchange (P : Nat → Int32) (V : Nat → Int32) (F : Nat → Int32) (pl : Int32) (x : Int32) : Nat → Int32 :=
  if fR_X7_isPlow P pl = 0 then
    let F1 := upd F 6 1
    F1
  else
    if fR_X7_isPair P pl.toNatClampNeg x = 0 then
      let F7 := upd F 6 1
      F7
    else
      if fR_X7_isBusy P pl.toNatClampNeg x = 0 then
        let F2 := upd F 6 0
        let F4 := fF_X7_keep P V F2
        F4
      else
        let F6 := upd F 6 2
        F6
def fR_X7_exchange (P : Nat → Int32) (V : Nat → Int32) (F : Nat → Int32) (pl : Int32) (x : Int32) : Int32 :=
  if fR_X7_isPlow P pl = 0 then
    0
  else
    if fR_X7_isPair P pl.toNatClampNeg x = 0 then
      0
    else
      if fR_X7_isBusy P pl.toNatClampNeg x = 0 then
        fR_X7_exchanges P pl.toNatClampNeg x.toNatClampNeg
      else
        0
set_option maxHeartbeats 4000000 in
set_option maxRecDepth 100000 in
theorem c_X7_exchange (l : Launch) (D : va_G) (o : Nat) (P S V T F : Nat → Int32) (h : Int64) (pl : Int32) (x : Int32) (hN : okN P) (hc : okC F) (hQ : ∀ q, q < np P → okQ P q) : Met l yX7_exchange (wA yX7_exchange cX7_exchange 3 (some .int)) (rmL 2) (gPc D [.ref o, .int pl, .int x] (fun H => Md D o P S V T F h H)) (gQi (inM o) (fR_X7_exchange P V F pl x) (fun H => Md D o (fP_X7_exchange P V F pl x) S (fV_X7_exchange P V F pl x) T (fF_X7_exchange P V F pl x) h H)) 0 0 (inM o) := by
  refine Met.ofW (cc := cX7_exchange) (maxL := 3) (ret := (some .int)) (by decide) rfl ?_
  intro p e s m args below meth c s₁ B hml hv
  obtain ⟨hav, hG, hK⟩ := hv
  have hx := B.exec
  have hb := B.bytes
  have hr := B.returns
  have hts0 := atoms_spec (ws := wA yX7_exchange cX7_exchange 3 (some .int)) B.pre
  have hts : ∀ w ∈ AW, w.before _ s = true := fun w h => hts0 w (List.mem_cons_of_mem _ h)
  have hown : s.vm.findClass RX7 = some m.cls := findClass_of_methodNamed B.named
  have hlocks := B.notSynchronized
  have hA : ∀ q, (inM o) q → (inM o) q := fun _ h => h
  have hS : va_S (inM o) s.heap s.heap [] := va_S.rf
  have hG : Md D o P S V T F h s.heap := hG
  have hl := lv_entry ([.ref o, .int pl, .int x]) (n := 3) (Nat.le_of_ble_eq_true rfl)
  refine W.eq (g2 := entryFrame m ([.ref o, .int pl, .int x] : List Value).toArray 3) (by rw [hav]) ?_
  rw [lg_entry_eq]
  generalize (lg_sl ([.ref o, .int pl, .int x]) ++ List.replicate (3 - (lg_sl ([.ref o, .int pl, .int x])).length) Slot.unset).toArray = ls at hl ⊢
  have hl : lv_has ls 3 [(0, .ref o), (1, .int pl), (2, .int x)] := hl
  refine lv_aload_n hx hb dX7_exchange_0 rfl (lv_at hl 0 rfl) ?_
  refine lv_aload_n hx hb dX7_exchange_1 rfl (lv_at hl 0 rfl) ?_
  refine lv_iload_n hx hb dX7_exchange_2 rfl (lv_at hl 1 rfl) ?_
  refine gcVi (As := [.int pl]) (rest := [.ref o]) hx hb hml hown hts hl.1 hK (c_X7_isPlow l D o P S V T F h pl) (gaV qM_X7_51 qI_X7_isPlow qS_X7_isPlow qK_X7 qC_X7_isPlow) hdv_X7_isPlow ⟨Nat.le_of_ble_eq_true rfl, Nat.le_of_ble_eq_true rfl⟩ hG (hG.recv hK) rfl (Nat.le_of_ble_eq_true rfl) ⟨Nat.zero_le _, Nat.zero_le _⟩ dX7_exchange_3 hS hA (fun H locs hG _ _ hS => ?_)
  have hG : Md D o P S V T F h H := hG
  refine lv_if_eq (tgt := 18) hx hb dX7_exchange_6 (by decide) (fun c6 => ?_) (fun c6 => ?_)
  · refine lv_iconst (v := 1) hx hb dX7_exchange_18 (by decide) ?_
    refine lv_goto (tgt := 36) hx hb dX7_exchange_19 (by decide) ?_
    refine putM 6 hx hb hts hown hK hG hS hA (by decide) qF_X7_26 rfl dX7_exchange_36 (fun H locs hG hS => ?_)
    generalize eF1 : upd F 6 1 = F1 at hG
    refine lv_aload_n hx hb dX7_exchange_39 rfl (lv_at hl 0 rfl) ?_
    refine getM 6 hx hb hts hown hK hG (by decide) qF_X7_26 rfl dX7_exchange_40 ?_
    refine topE (y := 1) (by rw [← eF1, upd_s]) ?_
    refine lv_if_eq (tgt := 48) hx hb dX7_exchange_43 (by decide) (fun c43 => ?_) (fun c43 => ?_)
    · exact absurd c43 (by decide)
    · refine lv_iconst (v := 0) hx hb dX7_exchange_46 (by decide) ?_
      subst eF1
      have hG9 : Md D o (fP_X7_exchange P V F pl x) S (fV_X7_exchange P V F pl x) T (fF_X7_exchange P V F pl x) h H := by
        unfold fP_X7_exchange; (try dsimp only); (try rw [if_pos c6])
        unfold fV_X7_exchange; (try dsimp only); (try rw [if_pos c6])
        unfold fF_X7_exchange; (try dsimp only); (try rw [if_pos c6])
        exact hG
      exact W.iret hx hb hr (fun t ht hW => gQi_of (by unfold fR_X7_exchange; (try dsimp only); (try rw [if_pos c6]); (try rfl)) hG9 hS ht) hS.2.2 dX7_exchange_47
  · refine lv_aload_n hx hb dX7_exchange_9 rfl (lv_at hl 0 rfl) ?_
    refine lv_iload_n hx hb dX7_exchange_10 rfl (lv_at hl 1 rfl) ?_
    refine topN (n := pl.toNatClampNeg) (isPlow_n hN c6).1 ?_
    refine lv_iload_n hx hb dX7_exchange_11 rfl (lv_at hl 2 rfl) ?_
    refine gcVi (As := [.int (nI pl.toNatClampNeg), .int x]) (rest := [.ref o]) hx hb hml hown hts hl.1 hK (c_X7_isPair l D o P S V T F h pl.toNatClampNeg x (isPlow_3 hN c6)) (gaV qM_X7_61 qI_X7_isPair qS_X7_isPair qK_X7 qC_X7_isPair) hdv_X7_isPair ⟨Nat.le_of_ble_eq_true rfl, Nat.le_of_ble_eq_true rfl⟩ hG (hG.recv hK) rfl (Nat.le_of_ble_eq_true rfl) ⟨Nat.zero_le _, Nat.zero_le _⟩ dX7_exchange_12 hS hA (fun H locs hG _ _ hS => ?_)
    have hG : Md D o P S V T F h H := hG
    refine lv_if_ne (tgt := 22) hx hb dX7_exchange_15 (by decide) (fun c15 => ?_) (fun c15 => ?_)
    · refine lv_aload_n hx hb dX7_exchange_22 rfl (lv_at hl 0 rfl) ?_
      refine lv_iload_n hx hb dX7_exchange_23 rfl (lv_at hl 1 rfl) ?_
      refine topN (n := pl.toNatClampNeg) (isPlow_n hN c6).1 ?_
      refine lv_iload_n hx hb dX7_exchange_24 rfl (lv_at hl 2 rfl) ?_
      refine gcVi (As := [.int (nI pl.toNatClampNeg), .int x]) (rest := [.ref o]) hx hb hml hown hts hl.1 hK (c_X7_isBusy l D o P S V T F h pl.toNatClampNeg x (isPlow_3 hN c6)) (gaV qM_X7_65 qI_X7_isBusy qS_X7_isBusy qK_X7 qC_X7_isBusy) hdv_X7_isBusy ⟨Nat.le_of_ble_eq_true rfl, Nat.le_of_ble_eq_true rfl⟩ hG (hG.recv hK) rfl (Nat.le_of_ble_eq_true rfl) ⟨Nat.zero_le _, Nat.zero_le _⟩ dX7_exchange_25 hS hA (fun H locs hG _ _ hS => ?_)
      have hG : Md D o P S V T F h H := hG
      refine lv_if_eq (tgt := 35) hx hb dX7_exchange_28 (by decide) (fun c28 => ?_) (fun c28 => ?_)
      · refine lv_iconst (v := 0) hx hb dX7_exchange_35 (by decide) ?_
        refine putM 6 hx hb hts hown hK hG hS hA (by decide) qF_X7_26 rfl dX7_exchange_36 (fun H locs hG hS => ?_)
        generalize eF2 : upd F 6 0 = F2 at hG
        refine lv_aload_n hx hb dX7_exchange_39 rfl (lv_at hl 0 rfl) ?_
        refine getM 6 hx hb hts hown hK hG (by decide) qF_X7_26 rfl dX7_exchange_40 ?_
        refine topE (y := 0) (by rw [← eF2, upd_s]) ?_
        refine lv_if_eq (tgt := 48) hx hb dX7_exchange_43 (by decide) (fun c43 => ?_) (fun c43 => ?_)
        · refine lv_aload_n hx hb dX7_exchange_48 rfl (lv_at hl 0 rfl) ?_
          refine gcVv (As := []) (rest := []) hx hb hml hown hts hl.1 hK (c_X7_keep l D o P S V T F2 h (by subst_vars; exact okC_6 hc)) (gaV qM_X7_48 qI_X7_keep qS_X7_keep qK_X7 qC_X7_keep) hdv_X7_keep ⟨Nat.le_of_ble_eq_true rfl, Nat.le_of_ble_eq_true rfl⟩ hG (hG.recv hK) rfl (Nat.le_of_ble_eq_true rfl) ⟨Nat.zero_le _, Nat.zero_le _⟩ dX7_exchange_49 hS hA (fun H locs hG _ _ hS => ?_)
          have hG : Md D o P S (fV_X7_keep P V F2) T (fF_X7_keep P V F2) h H := hG
          generalize eV3 : fV_X7_keep P V F2 = V3 at hG
          generalize eF4 : fF_X7_keep P V F2 = F4 at hG
          refine lv_aload_n hx hb dX7_exchange_52 rfl (lv_at hl 0 rfl) ?_
          refine lv_iload_n hx hb dX7_exchange_53 rfl (lv_at hl 1 rfl) ?_
          refine topN (n := pl.toNatClampNeg) (isPlow_n hN c6).1 ?_
          refine lv_iload_n hx hb dX7_exchange_54 rfl (lv_at hl 2 rfl) ?_
          refine topN (n := x.toNatClampNeg) (isPair_n (hQ _ (isPlow_n hN c6).2) c15).1 ?_
          refine gcVi (As := [.int (nI pl.toNatClampNeg), .int (nI x.toNatClampNeg)]) (rest := []) hx hb hml hown hts hl.1 hK (c_X7_exchanges l D o P S V3 T F4 h pl.toNatClampNeg x.toNatClampNeg (isPlow_3 hN c6) (isPair_n (hQ _ (isPlow_n hN c6).2) c15).2.2) (gaV qM_X7_68 qI_X7_exchanges qS_X7_exchanges qK_X7 qC_X7_exchanges) hdv_X7_exchanges ⟨Nat.le_of_ble_eq_true rfl, Nat.le_of_ble_eq_true rfl⟩ hG (hG.recv hK) rfl (Nat.le_of_ble_eq_true rfl) ⟨Nat.zero_le _, Nat.zero_le _⟩ dX7_exchange_55 hS hA (fun H locs hG _ _ hS => ?_)
          have hG : Md D o (fP_X7_exchanges P pl.toNatClampNeg x.toNatClampNeg) S V3 T F4 h H := hG
          generalize eP5 : fP_X7_exchanges P pl.toNatClampNeg x.toNatClampNeg = P5 at hG
          subst eP5
          subst eF4
          subst eV3
          subst eF2
          have hG9 : Md D o (fP_X7_exchange P V F pl x) S (fV_X7_exchange P V F pl x) T (fF_X7_exchange P V F pl x) h H := by
            unfold fP_X7_exchange; (try dsimp only); (try rw [if_neg c6, if_neg c15, if_pos c28])
            unfold fV_X7_exchange; (try dsimp only); (try rw [if_neg c6, if_neg c15, if_pos c28])
            unfold fF_X7_exchange; (try dsimp only); (try rw [if_neg c6, if_neg c15, if_pos c28])
            exact hG
          exact W.iret hx hb hr (fun t ht hW => gQi_of (by unfold fR_X7_exchange; (try dsimp only); (try rw [if_neg c6, if_neg c15, if_pos c28]); (try rfl)) hG9 hS ht) hS.2.2 dX7_exchange_58
        · exact absurd c43 (by decide)
      · refine lv_iconst (v := 2) hx hb dX7_exchange_31 (by decide) ?_
        refine lv_goto (tgt := 36) hx hb dX7_exchange_32 (by decide) ?_
        refine putM 6 hx hb hts hown hK hG hS hA (by decide) qF_X7_26 rfl dX7_exchange_36 (fun H locs hG hS => ?_)
        generalize eF6 : upd F 6 2 = F6 at hG
        refine lv_aload_n hx hb dX7_exchange_39 rfl (lv_at hl 0 rfl) ?_
        refine getM 6 hx hb hts hown hK hG (by decide) qF_X7_26 rfl dX7_exchange_40 ?_
        refine topE (y := 2) (by rw [← eF6, upd_s]) ?_
        refine lv_if_eq (tgt := 48) hx hb dX7_exchange_43 (by decide) (fun c43 => ?_) (fun c43 => ?_)
        · exact absurd c43 (by decide)
        · refine lv_iconst (v := 0) hx hb dX7_exchange_46 (by decide) ?_
          subst eF6
          have hG9 : Md D o (fP_X7_exchange P V F pl x) S (fV_X7_exchange P V F pl x) T (fF_X7_exchange P V F pl x) h H := by
            unfold fP_X7_exchange; (try dsimp only); (try rw [if_neg c6, if_neg c15, if_neg c28])
            unfold fV_X7_exchange; (try dsimp only); (try rw [if_neg c6, if_neg c15, if_neg c28])
            unfold fF_X7_exchange; (try dsimp only); (try rw [if_neg c6, if_neg c15, if_neg c28])
            exact hG
          exact W.iret hx hb hr (fun t ht hW => gQi_of (by unfold fR_X7_exchange; (try dsimp only); (try rw [if_neg c6, if_neg c15, if_neg c28]); (try rfl)) hG9 hS ht) hS.2.2 dX7_exchange_47
    · refine lv_iconst (v := 1) hx hb dX7_exchange_18 (by decide) ?_
      refine lv_goto (tgt := 36) hx hb dX7_exchange_19 (by decide) ?_
      refine putM 6 hx hb hts hown hK hG hS hA (by decide) qF_X7_26 rfl dX7_exchange_36 (fun H locs hG hS => ?_)
      generalize eF7 : upd F 6 1 = F7 at hG
      refine lv_aload_n hx hb dX7_exchange_39 rfl (lv_at hl 0 rfl) ?_
      refine getM 6 hx hb hts hown hK hG (by decide) qF_X7_26 rfl dX7_exchange_40 ?_
      refine topE (y := 1) (by rw [← eF7, upd_s]) ?_
      refine lv_if_eq (tgt := 48) hx hb dX7_exchange_43 (by decide) (fun c43 => ?_) (fun c43 => ?_)
      · exact absurd c43 (by decide)
      · refine lv_iconst (v := 0) hx hb dX7_exchange_46 (by decide) ?_
        subst eF7
        have hG9 : Md D o (fP_X7_exchange P V F pl x) S (fV_X7_exchange P V F pl x) T (fF_X7_exchange P V F pl x) h H := by
          unfold fP_X7_exchange; (try dsimp only); (try rw [if_neg c6, if_pos c15])
          unfold fV_X7_exchange; (try dsimp only); (try rw [if_neg c6, if_pos c15])
          unfold fF_X7_exchange; (try dsimp only); (try rw [if_neg c6, if_pos c15])
          exact hG
        exact W.iret hx hb hr (fun t ht hW => gQi_of (by unfold fR_X7_exchange; (try dsimp only); (try rw [if_neg c6, if_pos c15]); (try rfl)) hG9 hS ht) hS.2.2 dX7_exchange_47
theorem hdv_X7_setTerms : yX7_setTerms.cls = RX7 ∧ yX7_setTerms.cls ≠ "java/lang/invoke/MethodHandle" ∧ yX7_setTerms.cls ≠ "java/lang/invoke/VarHandle" ∧ (parseMethodDescriptor yX7_setTerms.desc).map (fun d => d.parameters.length) = some 4 := by decide +kernel
def fP_X7_setTerms (P : Nat → Int32) (V : Nat → Int32) (F : Nat → Int32) (pri : Int32) (tr : Int32) (li : Int32) (cr : Int32) : Nat → Int32 :=
  if fR_X7_in pri 0 2 = 0 then
    P
  else
    if fR_X7_in tr 1 200 = 0 then
      P
    else
      if fR_X7_in li 1 48 = 0 then
        P
      else
        if fR_X7_in cr 0 1000 = 0 then
          P
        else
          let P7 := fP_X7_layTerms P pri.toNatClampNeg tr li cr
          P7
def fV_X7_setTerms (P : Nat → Int32) (V : Nat → Int32) (F : Nat → Int32) (pri : Int32) (tr : Int32) (li : Int32) (cr : Int32) : Nat → Int32 :=
  if fR_X7_in pri 0 2 = 0 then
    V
  else
    if fR_X7_in tr 1 200 = 0 then
      V
    else
      if fR_X7_in li 1 48 = 0 then
        V
      else
        if fR_X7_in cr 0 1000 = 0 then
          V
        else
          let F3 := upd F 6 0
          let V4 := fV_X7_keep P V F3
          V4
def fF_X7_setTerms (P : Nat → Int32) (V : Nat → Int32) (F : Nat → Int32) (pri : Int32) (tr : Int32) (li : Int32) (cr : Int32) : Nat → Int32 :=
  if fR_X7_in pri 0 2 = 0 then
    let F9 := upd F 6 1
    F9
  else
    if fR_X7_in tr 1 200 = 0 then
      let F1 := upd F 6 2
      F1
    else
      if fR_X7_in li 1 48 = 0 then
        let F2 := upd F 6 2
        F2
      else
        if fR_X7_in cr 0 1000 = 0 then
          let F8 := upd F 6 2
          F8
        else
          let F3 := upd F 6 0
          let F5 := fF_X7_keep P V F3
          F5
def fR_X7_setTerms (P : Nat → Int32) (V : Nat → Int32) (F : Nat → Int32) (pri : Int32) (tr : Int32) (li : Int32) (cr : Int32) : Int32 :=
  if fR_X7_in pri 0 2 = 0 then
    0
  else
    if fR_X7_in tr 1 200 = 0 then
      0
    else
      if fR_X7_in li 1 48 = 0 then
        0
      else
        if fR_X7_in cr 0 1000 = 0 then
          0
        else
          let x6 := P (229 + 4 * pri.toNatClampNeg + 0)
          x6
set_option maxHeartbeats 4000000 in
set_option maxRecDepth 100000 in
theorem c_X7_setTerms (l : Launch) (D : va_G) (o : Nat) (P S V T F : Nat → Int32) (h : Int64) (pri : Int32) (tr : Int32) (li : Int32) (cr : Int32) (hc : okC F) : Met l yX7_setTerms (wA yX7_setTerms cX7_setTerms 6 (some .int)) (rmL 2) (gPc D [.ref o, .int pri, .int tr, .int li, .int cr] (fun H => Md D o P S V T F h H)) (gQi (inM o) (fR_X7_setTerms P V F pri tr li cr) (fun H => Md D o (fP_X7_setTerms P V F pri tr li cr) S (fV_X7_setTerms P V F pri tr li cr) T (fF_X7_setTerms P V F pri tr li cr) h H)) 0 0 (inM o) := by
  refine Met.ofW (cc := cX7_setTerms) (maxL := 6) (ret := (some .int)) (by decide) rfl ?_
  intro p e s m args below meth c s₁ B hml hv
  obtain ⟨hav, hG, hK⟩ := hv
  have hx := B.exec
  have hb := B.bytes
  have hr := B.returns
  have hts0 := atoms_spec (ws := wA yX7_setTerms cX7_setTerms 6 (some .int)) B.pre
  have hts : ∀ w ∈ AW, w.before _ s = true := fun w h => hts0 w (List.mem_cons_of_mem _ h)
  have hown : s.vm.findClass RX7 = some m.cls := findClass_of_methodNamed B.named
  have hlocks := B.notSynchronized
  have hA : ∀ q, (inM o) q → (inM o) q := fun _ h => h
  have hS : va_S (inM o) s.heap s.heap [] := va_S.rf
  have hG : Md D o P S V T F h s.heap := hG
  have hl := lv_entry ([.ref o, .int pri, .int tr, .int li, .int cr]) (n := 6) (Nat.le_of_ble_eq_true rfl)
  refine W.eq (g2 := entryFrame m ([.ref o, .int pri, .int tr, .int li, .int cr] : List Value).toArray 6) (by rw [hav]) ?_
  rw [lg_entry_eq]
  generalize (lg_sl ([.ref o, .int pri, .int tr, .int li, .int cr]) ++ List.replicate (6 - (lg_sl ([.ref o, .int pri, .int tr, .int li, .int cr])).length) Slot.unset).toArray = ls at hl ⊢
  have hl : lv_has ls 6 [(0, .ref o), (1, .int pri), (2, .int tr), (3, .int li), (4, .int cr)] := hl
  refine lv_aload_n hx hb dX7_setTerms_0 rfl (lv_at hl 0 rfl) ?_
  refine lv_iload_n hx hb dX7_setTerms_1 rfl (lv_at hl 1 rfl) ?_
  refine lv_iconst (v := 0) hx hb dX7_setTerms_2 (by decide) ?_
  refine lv_iconst (v := 2) hx hb dX7_setTerms_3 (by decide) ?_
  refine gcSi (As := [.int pri, .int 0, .int 2]) (rest := [.ref o]) hx hb hml hown hts hl.1 hK (c_X7_in l D (fun H => Md D o P S V T F h H) pri 0 2) (gaS qM_X7_37 qT_X7_in qK_X7 qC_X7_in) hds_X7_in ⟨Nat.le_of_ble_eq_true rfl, Nat.le_of_ble_eq_true rfl⟩ hG rfl (Nat.le_of_ble_eq_true rfl) ⟨Nat.zero_le _, Nat.zero_le _⟩ dX7_setTerms_4 hS (fun _ (h : noA _) => False.elim h) (fun H locs hG _ _ hS => ?_)
  have hG : Md D o P S V T F h H := hG
  refine lv_if_ne (tgt := 14) hx hb dX7_setTerms_7 (by decide) (fun c7 => ?_) (fun c7 => ?_)
  · refine lv_iload_n hx hb dX7_setTerms_14 rfl (lv_at hl 2 rfl) ?_
    refine lv_iconst (v := 1) hx hb dX7_setTerms_15 (by decide) ?_
    refine lv_sipush (v := 200) hx hb dX7_setTerms_16 (by decide) ?_
    refine gcSi (As := [.int tr, .int 1, .int 200]) (rest := [.ref o]) hx hb hml hown hts hl.1 hK (c_X7_in l D (fun H => Md D o P S V T F h H) tr 1 200) (gaS qM_X7_37 qT_X7_in qK_X7 qC_X7_in) hds_X7_in ⟨Nat.le_of_ble_eq_true rfl, Nat.le_of_ble_eq_true rfl⟩ hG rfl (Nat.le_of_ble_eq_true rfl) ⟨Nat.zero_le _, Nat.zero_le _⟩ dX7_setTerms_19 hS (fun _ (h : noA _) => False.elim h) (fun H locs hG _ _ hS => ?_)
    have hG : Md D o P S V T F h H := hG
    refine lv_if_eq (tgt := 47) hx hb dX7_setTerms_22 (by decide) (fun c22 => ?_) (fun c22 => ?_)
    · refine lv_iconst (v := 2) hx hb dX7_setTerms_47 (by decide) ?_
      refine lv_goto (tgt := 52) hx hb dX7_setTerms_48 (by decide) ?_
      refine putM 6 hx hb hts hown hK hG hS hA (by decide) qF_X7_26 rfl dX7_setTerms_52 (fun H locs hG hS => ?_)
      generalize eF1 : upd F 6 2 = F1 at hG
      refine lv_aload_n hx hb dX7_setTerms_55 rfl (lv_at hl 0 rfl) ?_
      refine getM 6 hx hb hts hown hK hG (by decide) qF_X7_26 rfl dX7_setTerms_56 ?_
      refine topE (y := 2) (by rw [← eF1, upd_s]) ?_
      refine lv_if_eq (tgt := 64) hx hb dX7_setTerms_59 (by decide) (fun c59 => ?_) (fun c59 => ?_)
      · exact absurd c59 (by decide)
      · refine lv_iconst (v := 0) hx hb dX7_setTerms_62 (by decide) ?_
        subst eF1
        have hG9 : Md D o (fP_X7_setTerms P V F pri tr li cr) S (fV_X7_setTerms P V F pri tr li cr) T (fF_X7_setTerms P V F pri tr li cr) h H := by
          unfold fP_X7_setTerms; (try dsimp only); (try rw [if_neg c7, if_pos c22])
          unfold fV_X7_setTerms; (try dsimp only); (try rw [if_neg c7, if_pos c22])
          unfold fF_X7_setTerms; (try dsimp only); (try rw [if_neg c7, if_pos c22])
          exact hG
        exact W.iret hx hb hr (fun t ht hW => gQi_of (by unfold fR_X7_setTerms; (try dsimp only); (try rw [if_neg c7, if_pos c22]); (try rfl)) hG9 hS ht) hS.2.2 dX7_setTerms_63
    · refine lv_iload_n hx hb dX7_setTerms_25 rfl (lv_at hl 3 rfl) ?_
      refine lv_iconst (v := 1) hx hb dX7_setTerms_26 (by decide) ?_
      refine lv_bipush (v := 48) hx hb dX7_setTerms_27 (by decide) ?_
      refine gcSi (As := [.int li, .int 1, .int 48]) (rest := [.ref o]) hx hb hml hown hts hl.1 hK (c_X7_in l D (fun H => Md D o P S V T F h H) li 1 48) (gaS qM_X7_37 qT_X7_in qK_X7 qC_X7_in) hds_X7_in ⟨Nat.le_of_ble_eq_true rfl, Nat.le_of_ble_eq_true rfl⟩ hG rfl (Nat.le_of_ble_eq_true rfl) ⟨Nat.zero_le _, Nat.zero_le _⟩ dX7_setTerms_29 hS (fun _ (h : noA _) => False.elim h) (fun H locs hG _ _ hS => ?_)
      have hG : Md D o P S V T F h H := hG
      refine lv_if_eq (tgt := 47) hx hb dX7_setTerms_32 (by decide) (fun c32 => ?_) (fun c32 => ?_)
      · refine lv_iconst (v := 2) hx hb dX7_setTerms_47 (by decide) ?_
        refine lv_goto (tgt := 52) hx hb dX7_setTerms_48 (by decide) ?_
        refine putM 6 hx hb hts hown hK hG hS hA (by decide) qF_X7_26 rfl dX7_setTerms_52 (fun H locs hG hS => ?_)
        generalize eF2 : upd F 6 2 = F2 at hG
        refine lv_aload_n hx hb dX7_setTerms_55 rfl (lv_at hl 0 rfl) ?_
        refine getM 6 hx hb hts hown hK hG (by decide) qF_X7_26 rfl dX7_setTerms_56 ?_
        refine topE (y := 2) (by rw [← eF2, upd_s]) ?_
        refine lv_if_eq (tgt := 64) hx hb dX7_setTerms_59 (by decide) (fun c59 => ?_) (fun c59 => ?_)
        · exact absurd c59 (by decide)
        · refine lv_iconst (v := 0) hx hb dX7_setTerms_62 (by decide) ?_
          subst eF2
          have hG9 : Md D o (fP_X7_setTerms P V F pri tr li cr) S (fV_X7_setTerms P V F pri tr li cr) T (fF_X7_setTerms P V F pri tr li cr) h H := by
            unfold fP_X7_setTerms; (try dsimp only); (try rw [if_neg c7, if_neg c22, if_pos c32])
            unfold fV_X7_setTerms; (try dsimp only); (try rw [if_neg c7, if_neg c22, if_pos c32])
            unfold fF_X7_setTerms; (try dsimp only); (try rw [if_neg c7, if_neg c22, if_pos c32])
            exact hG
          exact W.iret hx hb hr (fun t ht hW => gQi_of (by unfold fR_X7_setTerms; (try dsimp only); (try rw [if_neg c7, if_neg c22, if_pos c32]); (try rfl)) hG9 hS ht) hS.2.2 dX7_setTerms_63
      · refine lv_iload hx hb dX7_setTerms_35 (lv_at hl 4 rfl) ?_
        refine lv_iconst (v := 0) hx hb dX7_setTerms_37 (by decide) ?_
        refine lv_sipush (v := 1000) hx hb dX7_setTerms_38 (by decide) ?_
        refine gcSi (As := [.int cr, .int 0, .int 1000]) (rest := [.ref o]) hx hb hml hown hts hl.1 hK (c_X7_in l D (fun H => Md D o P S V T F h H) cr 0 1000) (gaS qM_X7_37 qT_X7_in qK_X7 qC_X7_in) hds_X7_in ⟨Nat.le_of_ble_eq_true rfl, Nat.le_of_ble_eq_true rfl⟩ hG rfl (Nat.le_of_ble_eq_true rfl) ⟨Nat.zero_le _, Nat.zero_le _⟩ dX7_setTerms_41 hS (fun _ (h : noA _) => False.elim h) (fun H locs hG _ _ hS => ?_)
        have hG : Md D o P S V T F h H := hG
        refine lv_if_ne (tgt := 51) hx hb dX7_setTerms_44 (by decide) (fun c44 => ?_) (fun c44 => ?_)
        · refine lv_iconst (v := 0) hx hb dX7_setTerms_51 (by decide) ?_
          refine putM 6 hx hb hts hown hK hG hS hA (by decide) qF_X7_26 rfl dX7_setTerms_52 (fun H locs hG hS => ?_)
          generalize eF3 : upd F 6 0 = F3 at hG
          refine lv_aload_n hx hb dX7_setTerms_55 rfl (lv_at hl 0 rfl) ?_
          refine getM 6 hx hb hts hown hK hG (by decide) qF_X7_26 rfl dX7_setTerms_56 ?_
          refine topE (y := 0) (by rw [← eF3, upd_s]) ?_
          refine lv_if_eq (tgt := 64) hx hb dX7_setTerms_59 (by decide) (fun c59 => ?_) (fun c59 => ?_)
          · refine lv_aload_n hx hb dX7_setTerms_64 rfl (lv_at hl 0 rfl) ?_
            refine gcVv (As := []) (rest := []) hx hb hml hown hts hl.1 hK (c_X7_keep l D o P S V T F3 h (by subst_vars; exact okC_6 hc)) (gaV qM_X7_48 qI_X7_keep qS_X7_keep qK_X7 qC_X7_keep) hdv_X7_keep ⟨Nat.le_of_ble_eq_true rfl, Nat.le_of_ble_eq_true rfl⟩ hG (hG.recv hK) rfl (Nat.le_of_ble_eq_true rfl) ⟨Nat.zero_le _, Nat.zero_le _⟩ dX7_setTerms_65 hS hA (fun H locs hG _ _ hS => ?_)
            have hG : Md D o P S (fV_X7_keep P V F3) T (fF_X7_keep P V F3) h H := hG
            generalize eV4 : fV_X7_keep P V F3 = V4 at hG
            generalize eF5 : fF_X7_keep P V F3 = F5 at hG
            refine lv_aload_n hx hb dX7_setTerms_68 rfl (lv_at hl 0 rfl) ?_
            refine getMm hx hb hts hown hK hG qF_X7_7 dX7_setTerms_69 ?_
            refine lv_sipush (v := 229) hx hb dX7_setTerms_72 (by decide) ?_
            refine lv_iconst (v := 4) hx hb dX7_setTerms_75 (by decide) ?_
            refine lv_iload_n hx hb dX7_setTerms_76 rfl (lv_at hl 1 rfl) ?_
            refine topN (n := pri.toNatClampNeg) (in_n (n := 2) (by decide) c7).1 ?_
            refine imulN (a := 4) (b := pri.toNatClampNeg) hx hb dX7_setTerms_77 ?_
            refine iaddN (a := 229) (b := 4 * pri.toNatClampNeg) hx hb dX7_setTerms_78 ?_
            refine lv_iconst (v := 0) hx hb dX7_setTerms_79 (by decide) ?_
            refine iaddN (a := 229 + 4 * pri.toNatClampNeg) (b := 0) hx hb dX7_setTerms_80 ?_
            refine aldMm (k := 229 + 4 * pri.toNatClampNeg + 0) hx hb hK hG (by have := (in_n (n := 2) (by decide) c7).2; omega) dX7_setTerms_81 ?_
            refine lv_topi (fun x6 ex6 => ?_)
            refine lv_istore (lv' := [(5, .int x6), (0, .ref o), (1, .int pri), (2, .int tr), (3, .int li), (4, .int cr)]) hx hb dX7_setTerms_82 hl (by decide) rfl (fun ls hl => ?_)
            refine lv_aload_n hx hb dX7_setTerms_84 rfl (lv_at hl 1 rfl) ?_
            refine lv_iload_n hx hb dX7_setTerms_85 rfl (lv_at hl 2 rfl) ?_
            refine topN (n := pri.toNatClampNeg) (in_n (n := 2) (by decide) c7).1 ?_
            refine lv_iload_n hx hb dX7_setTerms_86 rfl (lv_at hl 3 rfl) ?_
            refine lv_iload_n hx hb dX7_setTerms_87 rfl (lv_at hl 4 rfl) ?_
            refine lv_iload hx hb dX7_setTerms_88 (lv_at hl 5 rfl) ?_
            refine gcVv (As := [.int (nI pri.toNatClampNeg), .int tr, .int li, .int cr]) (rest := []) hx hb hml hown hts hl.1 hK (c_X7_layTerms l D o P S V4 T F5 h pri.toNatClampNeg tr li cr (by have := (in_n (n := 2) (by decide) c7).2; omega)) (gaV qM_X7_22 qI_X7_layTerms qS_X7_layTerms qK_X7 qC_X7_layTerms) hdv_X7_layTerms ⟨Nat.le_of_ble_eq_true rfl, Nat.le_of_ble_eq_true rfl⟩ hG (hG.recv hK) rfl (Nat.le_of_ble_eq_true rfl) ⟨Nat.zero_le _, Nat.zero_le _⟩ dX7_setTerms_90 hS hA (fun H locs hG _ _ hS => ?_)
            have hG : Md D o (fP_X7_layTerms P pri.toNatClampNeg tr li cr) S V4 T F5 h H := hG
            generalize eP7 : fP_X7_layTerms P pri.toNatClampNeg tr li cr = P7 at hG
            refine lv_iload hx hb dX7_setTerms_93 (lv_at hl 0 rfl) ?_
            subst eP7
            subst ex6
            subst eF5
            subst eV4
            subst eF3
            have hG9 : Md D o (fP_X7_setTerms P V F pri tr li cr) S (fV_X7_setTerms P V F pri tr li cr) T (fF_X7_setTerms P V F pri tr li cr) h H := by
              unfold fP_X7_setTerms; (try dsimp only); (try rw [if_neg c7, if_neg c22, if_neg c32, if_neg c44])
              unfold fV_X7_setTerms; (try dsimp only); (try rw [if_neg c7, if_neg c22, if_neg c32, if_neg c44])
              unfold fF_X7_setTerms; (try dsimp only); (try rw [if_neg c7, if_neg c22, if_neg c32, if_neg c44])
              exact hG
            exact W.iret hx hb hr (fun t ht hW => gQi_of (by unfold fR_X7_setTerms; (try dsimp only); (try rw [if_neg c7, if_neg c22, if_neg c32, if_neg c44]); (try rfl)) hG9 hS ht) hS.2.2 dX7_setTerms_95
          · exact absurd c59 (by decide)
        · refine lv_iconst (v := 2) hx hb dX7_setTerms_47 (by decide) ?_
          refine lv_goto (tgt := 52) hx hb dX7_setTerms_48 (by decide) ?_
          refine putM 6 hx hb hts hown hK hG hS hA (by decide) qF_X7_26 rfl dX7_setTerms_52 (fun H locs hG hS => ?_)
          generalize eF8 : upd F 6 2 = F8 at hG
          refine lv_aload_n hx hb dX7_setTerms_55 rfl (lv_at hl 0 rfl) ?_
          refine getM 6 hx hb hts hown hK hG (by decide) qF_X7_26 rfl dX7_setTerms_56 ?_
          refine topE (y := 2) (by rw [← eF8, upd_s]) ?_
          refine lv_if_eq (tgt := 64) hx hb dX7_setTerms_59 (by decide) (fun c59 => ?_) (fun c59 => ?_)
          · exact absurd c59 (by decide)
          · refine lv_iconst (v := 0) hx hb dX7_setTerms_62 (by decide) ?_
            subst eF8
            have hG9 : Md D o (fP_X7_setTerms P V F pri tr li cr) S (fV_X7_setTerms P V F pri tr li cr) T (fF_X7_setTerms P V F pri tr li cr) h H := by
              unfold fP_X7_setTerms; (try dsimp only); (try rw [if_neg c7, if_neg c22, if_neg c32, if_pos c44])
              unfold fV_X7_setTerms; (try dsimp only); (try rw [if_neg c7, if_neg c22, if_neg c32, if_pos c44])
              unfold fF_X7_setTerms; (try dsimp only); (try rw [if_neg c7, if_neg c22, if_neg c32, if_pos c44])
              exact hG
            exact W.iret hx hb hr (fun t ht hW => gQi_of (by unfold fR_X7_setTerms; (try dsimp only); (try rw [if_neg c7, if_neg c22, if_neg c32, if_pos c44]); (try rfl)) hG9 hS ht) hS.2.2 dX7_setTerms_63
  · refine lv_iconst (v := 1) hx hb dX7_setTerms_10 (by decide) ?_
    refine lv_goto (tgt := 52) hx hb dX7_setTerms_11 (by decide) ?_
    refine putM 6 hx hb hts hown hK hG hS hA (by decide) qF_X7_26 rfl dX7_setTerms_52 (fun H locs hG hS => ?_)
    generalize eF9 : upd F 6 1 = F9 at hG
    refine lv_aload_n hx hb dX7_setTerms_55 rfl (lv_at hl 0 rfl) ?_
    refine getM 6 hx hb hts hown hK hG (by decide) qF_X7_26 rfl dX7_setTerms_56 ?_
    refine topE (y := 1) (by rw [← eF9, upd_s]) ?_
    refine lv_if_eq (tgt := 64) hx hb dX7_setTerms_59 (by decide) (fun c59 => ?_) (fun c59 => ?_)
    · exact absurd c59 (by decide)
    · refine lv_iconst (v := 0) hx hb dX7_setTerms_62 (by decide) ?_
      subst eF9
      have hG9 : Md D o (fP_X7_setTerms P V F pri tr li cr) S (fV_X7_setTerms P V F pri tr li cr) T (fF_X7_setTerms P V F pri tr li cr) h H := by
        unfold fP_X7_setTerms; (try dsimp only); (try rw [if_pos c7])
        unfold fV_X7_setTerms; (try dsimp only); (try rw [if_pos c7])
        unfold fF_X7_setTerms; (try dsimp only); (try rw [if_pos c7])
        exact hG
      exact W.iret hx hb hr (fun t ht hW => gQi_of (by unfold fR_X7_setTerms; (try dsimp only); (try rw [if_pos c7]); (try rfl)) hG9 hS ht) hS.2.2 dX7_setTerms_63
theorem hdv_X7_setSpread : yX7_setSpread.cls = RX7 ∧ yX7_setSpread.cls ≠ "java/lang/invoke/MethodHandle" ∧ yX7_setSpread.cls ≠ "java/lang/invoke/VarHandle" ∧ (parseMethodDescriptor yX7_setSpread.desc).map (fun d => d.parameters.length) = some 1 := by decide +kernel
def fP_X7_setSpread (P : Nat → Int32) (V : Nat → Int32) (F : Nat → Int32) (sp : Int32) : Nat → Int32 :=
  if fR_X7_in sp 0 50 = 0 then
    P
  else
    let P6 := upd P 4 sp
    P6
def fV_X7_setSpread (P : Nat → Int32) (V : Nat → Int32) (F : Nat → Int32) (sp : Int32) : Nat → Int32 :=
  if fR_X7_in sp 0 50 = 0 then
    V
  else
    let F2 := upd F 6 0
    let V3 := fV_X7_keep P V F2
    V3
def fF_X7_setSpread (P : Nat → Int32) (V : Nat → Int32) (F : Nat → Int32) (sp : Int32) : Nat → Int32 :=
  if fR_X7_in sp 0 50 = 0 then
    let F1 := upd F 6 1
    F1
  else
    let F2 := upd F 6 0
    let F4 := fF_X7_keep P V F2
    F4
def fR_X7_setSpread (P : Nat → Int32) (V : Nat → Int32) (F : Nat → Int32) (sp : Int32) : Int32 :=
  if fR_X7_in sp 0 50 = 0 then
    0
  else
    let x5 := P 4
    x5
set_option maxHeartbeats 4000000 in
set_option maxRecDepth 100000 in
theorem c_X7_setSpread (l : Launch) (D : va_G) (o : Nat) (P S V T F : Nat → Int32) (h : Int64) (sp : Int32) (hc : okC F) : Met l yX7_setSpread (wA yX7_setSpread cX7_setSpread 3 (some .int)) (rmL 2) (gPc D [.ref o, .int sp] (fun H => Md D o P S V T F h H)) (gQi (inM o) (fR_X7_setSpread P V F sp) (fun H => Md D o (fP_X7_setSpread P V F sp) S (fV_X7_setSpread P V F sp) T (fF_X7_setSpread P V F sp) h H)) 0 0 (inM o) := by
  refine Met.ofW (cc := cX7_setSpread) (maxL := 3) (ret := (some .int)) (by decide) rfl ?_
  intro p e s m args below meth c s₁ B hml hv
  obtain ⟨hav, hG, hK⟩ := hv
  have hx := B.exec
  have hb := B.bytes
  have hr := B.returns
  have hts0 := atoms_spec (ws := wA yX7_setSpread cX7_setSpread 3 (some .int)) B.pre
  have hts : ∀ w ∈ AW, w.before _ s = true := fun w h => hts0 w (List.mem_cons_of_mem _ h)
  have hown : s.vm.findClass RX7 = some m.cls := findClass_of_methodNamed B.named
  have hlocks := B.notSynchronized
  have hA : ∀ q, (inM o) q → (inM o) q := fun _ h => h
  have hS : va_S (inM o) s.heap s.heap [] := va_S.rf
  have hG : Md D o P S V T F h s.heap := hG
  have hl := lv_entry ([.ref o, .int sp]) (n := 3) (Nat.le_of_ble_eq_true rfl)
  refine W.eq (g2 := entryFrame m ([.ref o, .int sp] : List Value).toArray 3) (by rw [hav]) ?_
  rw [lg_entry_eq]
  generalize (lg_sl ([.ref o, .int sp]) ++ List.replicate (3 - (lg_sl ([.ref o, .int sp])).length) Slot.unset).toArray = ls at hl ⊢
  have hl : lv_has ls 3 [(0, .ref o), (1, .int sp)] := hl
  refine lv_aload_n hx hb dX7_setSpread_0 rfl (lv_at hl 0 rfl) ?_
  refine lv_iload_n hx hb dX7_setSpread_1 rfl (lv_at hl 1 rfl) ?_
  refine lv_iconst (v := 0) hx hb dX7_setSpread_2 (by decide) ?_
  refine lv_bipush (v := 50) hx hb dX7_setSpread_3 (by decide) ?_
  refine gcSi (As := [.int sp, .int 0, .int 50]) (rest := [.ref o]) hx hb hml hown hts hl.1 hK (c_X7_in l D (fun H => Md D o P S V T F h H) sp 0 50) (gaS qM_X7_37 qT_X7_in qK_X7 qC_X7_in) hds_X7_in ⟨Nat.le_of_ble_eq_true rfl, Nat.le_of_ble_eq_true rfl⟩ hG rfl (Nat.le_of_ble_eq_true rfl) ⟨Nat.zero_le _, Nat.zero_le _⟩ dX7_setSpread_5 hS (fun _ (h : noA _) => False.elim h) (fun H locs hG _ _ hS => ?_)
  have hG : Md D o P S V T F h H := hG
  refine lv_if_eq (tgt := 15) hx hb dX7_setSpread_8 (by decide) (fun c8 => ?_) (fun c8 => ?_)
  · refine lv_iconst (v := 1) hx hb dX7_setSpread_15 (by decide) ?_
    refine putM 6 hx hb hts hown hK hG hS hA (by decide) qF_X7_26 rfl dX7_setSpread_16 (fun H locs hG hS => ?_)
    generalize eF1 : upd F 6 1 = F1 at hG
    refine lv_aload_n hx hb dX7_setSpread_19 rfl (lv_at hl 0 rfl) ?_
    refine getM 6 hx hb hts hown hK hG (by decide) qF_X7_26 rfl dX7_setSpread_20 ?_
    refine topE (y := 1) (by rw [← eF1, upd_s]) ?_
    refine lv_if_eq (tgt := 28) hx hb dX7_setSpread_23 (by decide) (fun c23 => ?_) (fun c23 => ?_)
    · exact absurd c23 (by decide)
    · refine lv_iconst (v := 0) hx hb dX7_setSpread_26 (by decide) ?_
      subst eF1
      have hG9 : Md D o (fP_X7_setSpread P V F sp) S (fV_X7_setSpread P V F sp) T (fF_X7_setSpread P V F sp) h H := by
        unfold fP_X7_setSpread; (try dsimp only); (try rw [if_pos c8])
        unfold fV_X7_setSpread; (try dsimp only); (try rw [if_pos c8])
        unfold fF_X7_setSpread; (try dsimp only); (try rw [if_pos c8])
        exact hG
      exact W.iret hx hb hr (fun t ht hW => gQi_of (by unfold fR_X7_setSpread; (try dsimp only); (try rw [if_pos c8]); (try rfl)) hG9 hS ht) hS.2.2 dX7_setSpread_27
  · refine lv_iconst (v := 0) hx hb dX7_setSpread_11 (by decide) ?_
    refine lv_goto (tgt := 16) hx hb dX7_setSpread_12 (by decide) ?_
    refine putM 6 hx hb hts hown hK hG hS hA (by decide) qF_X7_26 rfl dX7_setSpread_16 (fun H locs hG hS => ?_)
    generalize eF2 : upd F 6 0 = F2 at hG
    refine lv_aload_n hx hb dX7_setSpread_19 rfl (lv_at hl 0 rfl) ?_
    refine getM 6 hx hb hts hown hK hG (by decide) qF_X7_26 rfl dX7_setSpread_20 ?_
    refine topE (y := 0) (by rw [← eF2, upd_s]) ?_
    refine lv_if_eq (tgt := 28) hx hb dX7_setSpread_23 (by decide) (fun c23 => ?_) (fun c23 => ?_)
    · refine lv_aload_n hx hb dX7_setSpread_28 rfl (lv_at hl 0 rfl) ?_
      refine gcVv (As := []) (rest := []) hx hb hml hown hts hl.1 hK (c_X7_keep l D o P S V T F2 h (by subst_vars; exact okC_6 hc)) (gaV qM_X7_48 qI_X7_keep qS_X7_keep qK_X7 qC_X7_keep) hdv_X7_keep ⟨Nat.le_of_ble_eq_true rfl, Nat.le_of_ble_eq_true rfl⟩ hG (hG.recv hK) rfl (Nat.le_of_ble_eq_true rfl) ⟨Nat.zero_le _, Nat.zero_le _⟩ dX7_setSpread_29 hS hA (fun H locs hG _ _ hS => ?_)
      have hG : Md D o P S (fV_X7_keep P V F2) T (fF_X7_keep P V F2) h H := hG
      generalize eV3 : fV_X7_keep P V F2 = V3 at hG
      generalize eF4 : fF_X7_keep P V F2 = F4 at hG
      refine lv_aload_n hx hb dX7_setSpread_32 rfl (lv_at hl 0 rfl) ?_
      refine getMm hx hb hts hown hK hG qF_X7_7 dX7_setSpread_33 ?_
      refine lv_iconst (v := 4) hx hb dX7_setSpread_36 (by decide) ?_
      refine aldMm (k := 4) hx hb hK hG (by omega) dX7_setSpread_37 ?_
      refine lv_topi (fun x5 ex5 => ?_)
      refine lv_istore_n (lv' := [(2, .int x5), (0, .ref o), (1, .int sp)]) hx hb dX7_setSpread_38 rfl hl (by decide) rfl (fun ls hl => ?_)
      refine lv_aload_n hx hb dX7_setSpread_39 rfl (lv_at hl 1 rfl) ?_
      refine getMm hx hb hts hown hK hG qF_X7_7 dX7_setSpread_40 ?_
      refine lv_iconst (v := 4) hx hb dX7_setSpread_43 (by decide) ?_
      refine lv_iload_n hx hb dX7_setSpread_44 rfl (lv_at hl 2 rfl) ?_
      refine astMm (k := 4) hx hb hK hG hS hA (by omega) dX7_setSpread_45 (fun H locs hG hS => ?_)
      generalize eP6 : upd P 4 sp = P6 at hG
      refine lv_iload_n hx hb dX7_setSpread_46 rfl (lv_at hl 0 rfl) ?_
      subst eP6
      subst ex5
      subst eF4
      subst eV3
      subst eF2
      have hG9 : Md D o (fP_X7_setSpread P V F sp) S (fV_X7_setSpread P V F sp) T (fF_X7_setSpread P V F sp) h H := by
        unfold fP_X7_setSpread; (try dsimp only); (try rw [if_neg c8])
        unfold fV_X7_setSpread; (try dsimp only); (try rw [if_neg c8])
        unfold fF_X7_setSpread; (try dsimp only); (try rw [if_neg c8])
        exact hG
      exact W.iret hx hb hr (fun t ht hW => gQi_of (by unfold fR_X7_setSpread; (try dsimp only); (try rw [if_neg c8]); (try rfl)) hG9 hS ht) hS.2.2 dX7_setSpread_47
    · exact absurd c23 (by decide)
theorem hdv_X7_deliver : yX7_deliver.cls = RX7 ∧ yX7_deliver.cls ≠ "java/lang/invoke/MethodHandle" ∧ yX7_deliver.cls ≠ "java/lang/invoke/VarHandle" ∧ (parseMethodDescriptor yX7_deliver.desc).map (fun d => d.parameters.length) = some 1 := by decide +kernel
def fP_X7_deliver (P : Nat → Int32) (V : Nat → Int32) (F : Nat → Int32) (kg : Int32) : Nat → Int32 :=
  if fR_X7_in kg 0 100000 = 0 then
    P
  else
    if (P 3) + kg ≤ 100000 then
      let x4 := (P 3) + kg
      let P5 := upd P 3 x4
      let x6 := (P5 7) + kg
      let P7 := upd P5 7 x6
      P7
    else
      P
def fV_X7_deliver (P : Nat → Int32) (V : Nat → Int32) (F : Nat → Int32) (kg : Int32) : Nat → Int32 :=
  if fR_X7_in kg 0 100000 = 0 then
    V
  else
    if (P 3) + kg ≤ 100000 then
      let F1 := upd F 6 0
      let V2 := fV_X7_keep P V F1
      V2
    else
      V
def fF_X7_deliver (P : Nat → Int32) (V : Nat → Int32) (F : Nat → Int32) (kg : Int32) : Nat → Int32 :=
  if fR_X7_in kg 0 100000 = 0 then
    let F9 := upd F 6 1
    F9
  else
    if (P 3) + kg ≤ 100000 then
      let F1 := upd F 6 0
      let F3 := fF_X7_keep P V F1
      F3
    else
      let F8 := upd F 6 2
      F8
def fR_X7_deliver (P : Nat → Int32) (V : Nat → Int32) (F : Nat → Int32) (kg : Int32) : Int32 :=
  if fR_X7_in kg 0 100000 = 0 then
    0
  else
    if (P 3) + kg ≤ 100000 then
      let x4 := (P 3) + kg
      let P5 := upd P 3 x4
      let x6 := (P5 7) + kg
      let P7 := upd P5 7 x6
      P7 3
    else
      0
set_option maxHeartbeats 4000000 in
set_option maxRecDepth 100000 in
theorem c_X7_deliver (l : Launch) (D : va_G) (o : Nat) (P S V T F : Nat → Int32) (h : Int64) (kg : Int32) (hc : okC F) : Met l yX7_deliver (wA yX7_deliver cX7_deliver 2 (some .int)) (rmL 2) (gPc D [.ref o, .int kg] (fun H => Md D o P S V T F h H)) (gQi (inM o) (fR_X7_deliver P V F kg) (fun H => Md D o (fP_X7_deliver P V F kg) S (fV_X7_deliver P V F kg) T (fF_X7_deliver P V F kg) h H)) 0 0 (inM o) := by
  refine Met.ofW (cc := cX7_deliver) (maxL := 2) (ret := (some .int)) (by decide) rfl ?_
  intro p e s m args below meth c s₁ B hml hv
  obtain ⟨hav, hG, hK⟩ := hv
  have hx := B.exec
  have hb := B.bytes
  have hr := B.returns
  have hts0 := atoms_spec (ws := wA yX7_deliver cX7_deliver 2 (some .int)) B.pre
  have hts : ∀ w ∈ AW, w.before _ s = true := fun w h => hts0 w (List.mem_cons_of_mem _ h)
  have hown : s.vm.findClass RX7 = some m.cls := findClass_of_methodNamed B.named
  have hlocks := B.notSynchronized
  have hA : ∀ q, (inM o) q → (inM o) q := fun _ h => h
  have hS : va_S (inM o) s.heap s.heap [] := va_S.rf
  have hG : Md D o P S V T F h s.heap := hG
  have hl := lv_entry ([.ref o, .int kg]) (n := 2) (Nat.le_of_ble_eq_true rfl)
  refine W.eq (g2 := entryFrame m ([.ref o, .int kg] : List Value).toArray 2) (by rw [hav]) ?_
  rw [lg_entry_eq]
  generalize (lg_sl ([.ref o, .int kg]) ++ List.replicate (2 - (lg_sl ([.ref o, .int kg])).length) Slot.unset).toArray = ls at hl ⊢
  have hl : lv_has ls 2 [(0, .ref o), (1, .int kg)] := hl
  refine lv_aload_n hx hb dX7_deliver_0 rfl (lv_at hl 0 rfl) ?_
  refine lv_iload_n hx hb dX7_deliver_1 rfl (lv_at hl 1 rfl) ?_
  refine lv_iconst (v := 0) hx hb dX7_deliver_2 (by decide) ?_
  refine lv_ldc hx hb hown (hts _ qV_X7_71) dX7_deliver_3 ?_
  refine gcSi (As := [.int kg, .int 0, .int 100000]) (rest := [.ref o]) hx hb hml hown hts hl.1 hK (c_X7_in l D (fun H => Md D o P S V T F h H) kg 0 100000) (gaS qM_X7_37 qT_X7_in qK_X7 qC_X7_in) hds_X7_in ⟨Nat.le_of_ble_eq_true rfl, Nat.le_of_ble_eq_true rfl⟩ hG rfl (Nat.le_of_ble_eq_true rfl) ⟨Nat.zero_le _, Nat.zero_le _⟩ dX7_deliver_5 hS (fun _ (h : noA _) => False.elim h) (fun H locs hG _ _ hS => ?_)
  have hG : Md D o P S V T F h H := hG
  refine lv_if_ne (tgt := 15) hx hb dX7_deliver_8 (by decide) (fun c8 => ?_) (fun c8 => ?_)
  · refine lv_aload_n hx hb dX7_deliver_15 rfl (lv_at hl 0 rfl) ?_
    refine getMm hx hb hts hown hK hG qF_X7_7 dX7_deliver_16 ?_
    refine lv_iconst (v := 3) hx hb dX7_deliver_19 (by decide) ?_
    refine aldMm (k := 3) hx hb hK hG (by omega) dX7_deliver_20 ?_
    refine lv_iload_n hx hb dX7_deliver_21 rfl (lv_at hl 1 rfl) ?_
    refine lv_iadd hx hb dX7_deliver_22 ?_
    refine lv_ldc hx hb hown (hts _ qV_X7_71) dX7_deliver_23 ?_
    refine lv_icmp_le (tgt := 32) hx hb dX7_deliver_25 (by decide) (fun c25 => ?_) (fun c25 => ?_)
    · refine lv_iconst (v := 0) hx hb dX7_deliver_32 (by decide) ?_
      refine putM 6 hx hb hts hown hK hG hS hA (by decide) qF_X7_26 rfl dX7_deliver_33 (fun H locs hG hS => ?_)
      generalize eF1 : upd F 6 0 = F1 at hG
      refine lv_aload_n hx hb dX7_deliver_36 rfl (lv_at hl 0 rfl) ?_
      refine getM 6 hx hb hts hown hK hG (by decide) qF_X7_26 rfl dX7_deliver_37 ?_
      refine topE (y := 0) (by rw [← eF1, upd_s]) ?_
      refine lv_if_eq (tgt := 45) hx hb dX7_deliver_40 (by decide) (fun c40 => ?_) (fun c40 => ?_)
      · refine lv_aload_n hx hb dX7_deliver_45 rfl (lv_at hl 0 rfl) ?_
        refine gcVv (As := []) (rest := []) hx hb hml hown hts hl.1 hK (c_X7_keep l D o P S V T F1 h (by subst_vars; exact okC_6 hc)) (gaV qM_X7_48 qI_X7_keep qS_X7_keep qK_X7 qC_X7_keep) hdv_X7_keep ⟨Nat.le_of_ble_eq_true rfl, Nat.le_of_ble_eq_true rfl⟩ hG (hG.recv hK) rfl (Nat.le_of_ble_eq_true rfl) ⟨Nat.zero_le _, Nat.zero_le _⟩ dX7_deliver_46 hS hA (fun H locs hG _ _ hS => ?_)
        have hG : Md D o P S (fV_X7_keep P V F1) T (fF_X7_keep P V F1) h H := hG
        generalize eV2 : fV_X7_keep P V F1 = V2 at hG
        generalize eF3 : fF_X7_keep P V F1 = F3 at hG
        refine lv_aload_n hx hb dX7_deliver_49 rfl (lv_at hl 0 rfl) ?_
        refine getMm hx hb hts hown hK hG qF_X7_7 dX7_deliver_50 ?_
        refine lv_iconst (v := 3) hx hb dX7_deliver_53 (by decide) ?_
        refine lv_dup2_11 hx hb dX7_deliver_54 rfl rfl ?_
        refine aldMm (k := 3) hx hb hK hG (by omega) dX7_deliver_55 ?_
        refine lv_iload_n hx hb dX7_deliver_56 rfl (lv_at hl 1 rfl) ?_
        refine lv_iadd hx hb dX7_deliver_57 ?_
        refine lv_topi (fun x4 ex4 => ?_)
        refine astMm (k := 3) hx hb hK hG hS hA (by omega) dX7_deliver_58 (fun H locs hG hS => ?_)
        generalize eP5 : upd P 3 x4 = P5 at hG
        refine lv_aload_n hx hb dX7_deliver_59 rfl (lv_at hl 0 rfl) ?_
        refine getMm hx hb hts hown hK hG qF_X7_7 dX7_deliver_60 ?_
        refine lv_bipush (v := 7) hx hb dX7_deliver_63 (by decide) ?_
        refine lv_dup2_11 hx hb dX7_deliver_65 rfl rfl ?_
        refine aldMm (k := 7) hx hb hK hG (by omega) dX7_deliver_66 ?_
        refine lv_iload_n hx hb dX7_deliver_67 rfl (lv_at hl 1 rfl) ?_
        refine lv_iadd hx hb dX7_deliver_68 ?_
        refine lv_topi (fun x6 ex6 => ?_)
        refine astMm (k := 7) hx hb hK hG hS hA (by omega) dX7_deliver_69 (fun H locs hG hS => ?_)
        generalize eP7 : upd P5 7 x6 = P7 at hG
        refine lv_aload_n hx hb dX7_deliver_70 rfl (lv_at hl 0 rfl) ?_
        refine getMm hx hb hts hown hK hG qF_X7_7 dX7_deliver_71 ?_
        refine lv_iconst (v := 3) hx hb dX7_deliver_74 (by decide) ?_
        refine aldMm (k := 3) hx hb hK hG (by omega) dX7_deliver_75 ?_
        subst eP7
        subst ex6
        subst eP5
        subst ex4
        subst eF3
        subst eV2
        subst eF1
        have hG9 : Md D o (fP_X7_deliver P V F kg) S (fV_X7_deliver P V F kg) T (fF_X7_deliver P V F kg) h H := by
          unfold fP_X7_deliver; (try dsimp only); (try rw [if_neg c8, if_pos c25])
          unfold fV_X7_deliver; (try dsimp only); (try rw [if_neg c8, if_pos c25])
          unfold fF_X7_deliver; (try dsimp only); (try rw [if_neg c8, if_pos c25])
          exact hG
        exact W.iret hx hb hr (fun t ht hW => gQi_of (by unfold fR_X7_deliver; (try dsimp only); (try rw [if_neg c8, if_pos c25]); (try rfl)) hG9 hS ht) hS.2.2 dX7_deliver_76
      · exact absurd c40 (by decide)
    · refine lv_iconst (v := 2) hx hb dX7_deliver_28 (by decide) ?_
      refine lv_goto (tgt := 33) hx hb dX7_deliver_29 (by decide) ?_
      refine putM 6 hx hb hts hown hK hG hS hA (by decide) qF_X7_26 rfl dX7_deliver_33 (fun H locs hG hS => ?_)
      generalize eF8 : upd F 6 2 = F8 at hG
      refine lv_aload_n hx hb dX7_deliver_36 rfl (lv_at hl 0 rfl) ?_
      refine getM 6 hx hb hts hown hK hG (by decide) qF_X7_26 rfl dX7_deliver_37 ?_
      refine topE (y := 2) (by rw [← eF8, upd_s]) ?_
      refine lv_if_eq (tgt := 45) hx hb dX7_deliver_40 (by decide) (fun c40 => ?_) (fun c40 => ?_)
      · exact absurd c40 (by decide)
      · refine lv_iconst (v := 0) hx hb dX7_deliver_43 (by decide) ?_
        subst eF8
        have hG9 : Md D o (fP_X7_deliver P V F kg) S (fV_X7_deliver P V F kg) T (fF_X7_deliver P V F kg) h H := by
          unfold fP_X7_deliver; (try dsimp only); (try rw [if_neg c8, if_neg c25])
          unfold fV_X7_deliver; (try dsimp only); (try rw [if_neg c8, if_neg c25])
          unfold fF_X7_deliver; (try dsimp only); (try rw [if_neg c8, if_neg c25])
          exact hG
        exact W.iret hx hb hr (fun t ht hW => gQi_of (by unfold fR_X7_deliver; (try dsimp only); (try rw [if_neg c8, if_neg c25]); (try rfl)) hG9 hS ht) hS.2.2 dX7_deliver_44
  · refine lv_iconst (v := 1) hx hb dX7_deliver_11 (by decide) ?_
    refine lv_goto (tgt := 33) hx hb dX7_deliver_12 (by decide) ?_
    refine putM 6 hx hb hts hown hK hG hS hA (by decide) qF_X7_26 rfl dX7_deliver_33 (fun H locs hG hS => ?_)
    generalize eF9 : upd F 6 1 = F9 at hG
    refine lv_aload_n hx hb dX7_deliver_36 rfl (lv_at hl 0 rfl) ?_
    refine getM 6 hx hb hts hown hK hG (by decide) qF_X7_26 rfl dX7_deliver_37 ?_
    refine topE (y := 1) (by rw [← eF9, upd_s]) ?_
    refine lv_if_eq (tgt := 45) hx hb dX7_deliver_40 (by decide) (fun c40 => ?_) (fun c40 => ?_)
    · exact absurd c40 (by decide)
    · refine lv_iconst (v := 0) hx hb dX7_deliver_43 (by decide) ?_
      subst eF9
      have hG9 : Md D o (fP_X7_deliver P V F kg) S (fV_X7_deliver P V F kg) T (fF_X7_deliver P V F kg) h H := by
        unfold fP_X7_deliver; (try dsimp only); (try rw [if_pos c8])
        unfold fV_X7_deliver; (try dsimp only); (try rw [if_pos c8])
        unfold fF_X7_deliver; (try dsimp only); (try rw [if_pos c8])
        exact hG
      exact W.iret hx hb hr (fun t ht hW => gQi_of (by unfold fR_X7_deliver; (try dsimp only); (try rw [if_pos c8]); (try rfl)) hG9 hS ht) hS.2.2 dX7_deliver_44
theorem hdv_X7_run : yX7_run.cls = RX7 ∧ yX7_run.cls ≠ "java/lang/invoke/MethodHandle" ∧ yX7_run.cls ≠ "java/lang/invoke/VarHandle" ∧ (parseMethodDescriptor yX7_run.desc).map (fun d => d.parameters.length) = some 3 := by decide +kernel
def fP_X7_run (P : Nat → Int32) (V : Nat → Int32) (F : Nat → Int32) (tmp : Int32) (sn : Int32) (hrs : Int32) : Nat → Int32 :=
  if fR_X7_isWeather tmp sn = 0 then
    P
  else
    if fR_X7_in hrs 0 100 = 0 then
      P
    else
      if (P 0) + hrs ≤ 2000 then
        let P5 := fP_X7_hours P tmp sn hrs.toNatClampNeg
        P5
      else
        P
def fV_X7_run (P : Nat → Int32) (V : Nat → Int32) (F : Nat → Int32) (tmp : Int32) (sn : Int32) (hrs : Int32) : Nat → Int32 :=
  if fR_X7_isWeather tmp sn = 0 then
    V
  else
    if fR_X7_in hrs 0 100 = 0 then
      V
    else
      if (P 0) + hrs ≤ 2000 then
        let F2 := upd F 6 0
        let V3 := fV_X7_keep P V F2
        V3
      else
        V
def fF_X7_run (P : Nat → Int32) (V : Nat → Int32) (F : Nat → Int32) (tmp : Int32) (sn : Int32) (hrs : Int32) : Nat → Int32 :=
  if fR_X7_isWeather tmp sn = 0 then
    let F1 := upd F 6 1
    F1
  else
    if fR_X7_in hrs 0 100 = 0 then
      let F7 := upd F 6 1
      F7
    else
      if (P 0) + hrs ≤ 2000 then
        let F2 := upd F 6 0
        let F4 := fF_X7_keep P V F2
        F4
      else
        let F6 := upd F 6 2
        F6
def fR_X7_run (P : Nat → Int32) (V : Nat → Int32) (F : Nat → Int32) (tmp : Int32) (sn : Int32) (hrs : Int32) : Int32 :=
  if fR_X7_isWeather tmp sn = 0 then
    0
  else
    if fR_X7_in hrs 0 100 = 0 then
      0
    else
      if (P 0) + hrs ≤ 2000 then
        fR_X7_hours P tmp sn hrs.toNatClampNeg
      else
        0
set_option maxHeartbeats 4000000 in
set_option maxRecDepth 100000 in
theorem c_X7_run (l : Launch) (D : va_G) (o : Nat) (P S V T F : Nat → Int32) (h : Int64) (tmp : Int32) (sn : Int32) (hrs : Int32) (hc : okC F) (hw : WF P) : Met l yX7_run (wA yX7_run cX7_run 4 (some .int)) (rmL 6) (gPc D [.ref o, .int tmp, .int sn, .int hrs] (fun H => Md D o P S V T F h H)) (gQi (inM o) (fR_X7_run P V F tmp sn hrs) (fun H => Md D o (fP_X7_run P V F tmp sn hrs) S (fV_X7_run P V F tmp sn hrs) T (fF_X7_run P V F tmp sn hrs) h H)) 0 0 (inM o) := by
  refine Met.ofW (cc := cX7_run) (maxL := 4) (ret := (some .int)) (by decide) rfl ?_
  intro p e s m args below meth c s₁ B hml hv
  obtain ⟨hav, hG, hK⟩ := hv
  have hx := B.exec
  have hb := B.bytes
  have hr := B.returns
  have hts0 := atoms_spec (ws := wA yX7_run cX7_run 4 (some .int)) B.pre
  have hts : ∀ w ∈ AW, w.before _ s = true := fun w h => hts0 w (List.mem_cons_of_mem _ h)
  have hown : s.vm.findClass RX7 = some m.cls := findClass_of_methodNamed B.named
  have hlocks := B.notSynchronized
  have hA : ∀ q, (inM o) q → (inM o) q := fun _ h => h
  have hS : va_S (inM o) s.heap s.heap [] := va_S.rf
  have hG : Md D o P S V T F h s.heap := hG
  have hl := lv_entry ([.ref o, .int tmp, .int sn, .int hrs]) (n := 4) (Nat.le_of_ble_eq_true rfl)
  refine W.eq (g2 := entryFrame m ([.ref o, .int tmp, .int sn, .int hrs] : List Value).toArray 4) (by rw [hav]) ?_
  rw [lg_entry_eq]
  generalize (lg_sl ([.ref o, .int tmp, .int sn, .int hrs]) ++ List.replicate (4 - (lg_sl ([.ref o, .int tmp, .int sn, .int hrs])).length) Slot.unset).toArray = ls at hl ⊢
  have hl : lv_has ls 4 [(0, .ref o), (1, .int tmp), (2, .int sn), (3, .int hrs)] := hl
  refine lv_aload_n hx hb dX7_run_0 rfl (lv_at hl 0 rfl) ?_
  refine lv_iload_n hx hb dX7_run_1 rfl (lv_at hl 1 rfl) ?_
  refine lv_iload_n hx hb dX7_run_2 rfl (lv_at hl 2 rfl) ?_
  refine gcSi (As := [.int tmp, .int sn]) (rest := [.ref o]) hx hb hml hown hts hl.1 hK (c_X7_isWeather l D (fun H => Md D o P S V T F h H) tmp sn) (gaS qM_X7_100 qT_X7_isWeather qK_X7 qC_X7_isWeather) hds_X7_isWeather ⟨Nat.le_of_ble_eq_true rfl, Nat.le_of_ble_eq_true rfl⟩ hG rfl (Nat.le_of_ble_eq_true rfl) ⟨Nat.zero_le _, Nat.zero_le _⟩ dX7_run_3 hS (fun _ (h : noA _) => False.elim h) (fun H locs hG _ _ hS => ?_)
  have hG : Md D o P S V T F h H := hG
  refine lv_if_eq (tgt := 19) hx hb dX7_run_6 (by decide) (fun c6 => ?_) (fun c6 => ?_)
  · refine lv_iconst (v := 1) hx hb dX7_run_19 (by decide) ?_
    refine lv_goto (tgt := 42) hx hb dX7_run_20 (by decide) ?_
    refine putM 6 hx hb hts hown hK hG hS hA (by decide) qF_X7_26 rfl dX7_run_42 (fun H locs hG hS => ?_)
    generalize eF1 : upd F 6 1 = F1 at hG
    refine lv_aload_n hx hb dX7_run_45 rfl (lv_at hl 0 rfl) ?_
    refine getM 6 hx hb hts hown hK hG (by decide) qF_X7_26 rfl dX7_run_46 ?_
    refine topE (y := 1) (by rw [← eF1, upd_s]) ?_
    refine lv_if_eq (tgt := 54) hx hb dX7_run_49 (by decide) (fun c49 => ?_) (fun c49 => ?_)
    · exact absurd c49 (by decide)
    · refine lv_iconst (v := 0) hx hb dX7_run_52 (by decide) ?_
      subst eF1
      have hG9 : Md D o (fP_X7_run P V F tmp sn hrs) S (fV_X7_run P V F tmp sn hrs) T (fF_X7_run P V F tmp sn hrs) h H := by
        unfold fP_X7_run; (try dsimp only); (try rw [if_pos c6])
        unfold fV_X7_run; (try dsimp only); (try rw [if_pos c6])
        unfold fF_X7_run; (try dsimp only); (try rw [if_pos c6])
        exact hG
      exact W.iret hx hb hr (fun t ht hW => gQi_of (by unfold fR_X7_run; (try dsimp only); (try rw [if_pos c6]); (try rfl)) hG9 hS ht) hS.2.2 dX7_run_53
  · refine lv_iload_n hx hb dX7_run_9 rfl (lv_at hl 3 rfl) ?_
    refine lv_iconst (v := 0) hx hb dX7_run_10 (by decide) ?_
    refine lv_bipush (v := 100) hx hb dX7_run_11 (by decide) ?_
    refine gcSi (As := [.int hrs, .int 0, .int 100]) (rest := [.ref o]) hx hb hml hown hts hl.1 hK (c_X7_in l D (fun H => Md D o P S V T F h H) hrs 0 100) (gaS qM_X7_37 qT_X7_in qK_X7 qC_X7_in) hds_X7_in ⟨Nat.le_of_ble_eq_true rfl, Nat.le_of_ble_eq_true rfl⟩ hG rfl (Nat.le_of_ble_eq_true rfl) ⟨Nat.zero_le _, Nat.zero_le _⟩ dX7_run_13 hS (fun _ (h : noA _) => False.elim h) (fun H locs hG _ _ hS => ?_)
    have hG : Md D o P S V T F h H := hG
    refine lv_if_ne (tgt := 23) hx hb dX7_run_16 (by decide) (fun c16 => ?_) (fun c16 => ?_)
    · refine lv_aload_n hx hb dX7_run_23 rfl (lv_at hl 0 rfl) ?_
      refine getMm hx hb hts hown hK hG qF_X7_7 dX7_run_24 ?_
      refine lv_iconst (v := 0) hx hb dX7_run_27 (by decide) ?_
      refine aldMm (k := 0) hx hb hK hG (by omega) dX7_run_28 ?_
      refine lv_iload_n hx hb dX7_run_29 rfl (lv_at hl 3 rfl) ?_
      refine lv_iadd hx hb dX7_run_30 ?_
      refine lv_sipush (v := 2000) hx hb dX7_run_31 (by decide) ?_
      refine lv_icmp_le (tgt := 41) hx hb dX7_run_34 (by decide) (fun c34 => ?_) (fun c34 => ?_)
      · refine lv_iconst (v := 0) hx hb dX7_run_41 (by decide) ?_
        refine putM 6 hx hb hts hown hK hG hS hA (by decide) qF_X7_26 rfl dX7_run_42 (fun H locs hG hS => ?_)
        generalize eF2 : upd F 6 0 = F2 at hG
        refine lv_aload_n hx hb dX7_run_45 rfl (lv_at hl 0 rfl) ?_
        refine getM 6 hx hb hts hown hK hG (by decide) qF_X7_26 rfl dX7_run_46 ?_
        refine topE (y := 0) (by rw [← eF2, upd_s]) ?_
        refine lv_if_eq (tgt := 54) hx hb dX7_run_49 (by decide) (fun c49 => ?_) (fun c49 => ?_)
        · refine lv_aload_n hx hb dX7_run_54 rfl (lv_at hl 0 rfl) ?_
          refine gcVv (As := []) (rest := []) hx hb hml hown hts hl.1 hK (c_X7_keep l D o P S V T F2 h (by subst_vars; exact okC_6 hc)) (gaV qM_X7_48 qI_X7_keep qS_X7_keep qK_X7 qC_X7_keep) hdv_X7_keep ⟨Nat.le_of_ble_eq_true rfl, Nat.le_of_ble_eq_true rfl⟩ hG (hG.recv hK) rfl (Nat.le_of_ble_eq_true rfl) ⟨Nat.zero_le _, Nat.zero_le _⟩ dX7_run_55 hS hA (fun H locs hG _ _ hS => ?_)
          have hG : Md D o P S (fV_X7_keep P V F2) T (fF_X7_keep P V F2) h H := hG
          generalize eV3 : fV_X7_keep P V F2 = V3 at hG
          generalize eF4 : fF_X7_keep P V F2 = F4 at hG
          refine lv_aload_n hx hb dX7_run_58 rfl (lv_at hl 0 rfl) ?_
          refine lv_iload_n hx hb dX7_run_59 rfl (lv_at hl 1 rfl) ?_
          refine lv_iload_n hx hb dX7_run_60 rfl (lv_at hl 2 rfl) ?_
          refine lv_iload_n hx hb dX7_run_61 rfl (lv_at hl 3 rfl) ?_
          refine topN (n := hrs.toNatClampNeg) (in_n (n := 100) (by decide) c16).1 ?_
          refine gcVi (As := [.int tmp, .int sn, .int (nI hrs.toNatClampNeg)]) (rest := []) hx hb hml hown hts hl.1 hK (c_X7_hours l D o P S V3 T F4 h tmp sn hrs.toNatClampNeg hw (by have := (in_n (n := 100) (by decide) c16).2; omega)) (gaV qM_X7_103 qI_X7_hours qS_X7_hours qK_X7 qC_X7_hours) hdv_X7_hours ⟨Nat.le_of_ble_eq_true rfl, Nat.le_of_ble_eq_true rfl⟩ hG (hG.recv hK) rfl (Nat.le_of_ble_eq_true rfl) ⟨Nat.zero_le _, Nat.zero_le _⟩ dX7_run_62 hS hA (fun H locs hG _ _ hS => ?_)
          have hG : Md D o (fP_X7_hours P tmp sn hrs.toNatClampNeg) S V3 T F4 h H := hG
          generalize eP5 : fP_X7_hours P tmp sn hrs.toNatClampNeg = P5 at hG
          subst eP5
          subst eF4
          subst eV3
          subst eF2
          have hG9 : Md D o (fP_X7_run P V F tmp sn hrs) S (fV_X7_run P V F tmp sn hrs) T (fF_X7_run P V F tmp sn hrs) h H := by
            unfold fP_X7_run; (try dsimp only); (try rw [if_neg c6, if_neg c16, if_pos c34])
            unfold fV_X7_run; (try dsimp only); (try rw [if_neg c6, if_neg c16, if_pos c34])
            unfold fF_X7_run; (try dsimp only); (try rw [if_neg c6, if_neg c16, if_pos c34])
            exact hG
          exact W.iret hx hb hr (fun t ht hW => gQi_of (by unfold fR_X7_run; (try dsimp only); (try rw [if_neg c6, if_neg c16, if_pos c34]); (try rfl)) hG9 hS ht) hS.2.2 dX7_run_65
        · exact absurd c49 (by decide)
      · refine lv_iconst (v := 2) hx hb dX7_run_37 (by decide) ?_
        refine lv_goto (tgt := 42) hx hb dX7_run_38 (by decide) ?_
        refine putM 6 hx hb hts hown hK hG hS hA (by decide) qF_X7_26 rfl dX7_run_42 (fun H locs hG hS => ?_)
        generalize eF6 : upd F 6 2 = F6 at hG
        refine lv_aload_n hx hb dX7_run_45 rfl (lv_at hl 0 rfl) ?_
        refine getM 6 hx hb hts hown hK hG (by decide) qF_X7_26 rfl dX7_run_46 ?_
        refine topE (y := 2) (by rw [← eF6, upd_s]) ?_
        refine lv_if_eq (tgt := 54) hx hb dX7_run_49 (by decide) (fun c49 => ?_) (fun c49 => ?_)
        · exact absurd c49 (by decide)
        · refine lv_iconst (v := 0) hx hb dX7_run_52 (by decide) ?_
          subst eF6
          have hG9 : Md D o (fP_X7_run P V F tmp sn hrs) S (fV_X7_run P V F tmp sn hrs) T (fF_X7_run P V F tmp sn hrs) h H := by
            unfold fP_X7_run; (try dsimp only); (try rw [if_neg c6, if_neg c16, if_neg c34])
            unfold fV_X7_run; (try dsimp only); (try rw [if_neg c6, if_neg c16, if_neg c34])
            unfold fF_X7_run; (try dsimp only); (try rw [if_neg c6, if_neg c16, if_neg c34])
            exact hG
          exact W.iret hx hb hr (fun t ht hW => gQi_of (by unfold fR_X7_run; (try dsimp only); (try rw [if_neg c6, if_neg c16, if_neg c34]); (try rfl)) hG9 hS ht) hS.2.2 dX7_run_53
    · refine lv_iconst (v := 1) hx hb dX7_run_19 (by decide) ?_
      refine lv_goto (tgt := 42) hx hb dX7_run_20 (by decide) ?_
      refine putM 6 hx hb hts hown hK hG hS hA (by decide) qF_X7_26 rfl dX7_run_42 (fun H locs hG hS => ?_)
      generalize eF7 : upd F 6 1 = F7 at hG
      refine lv_aload_n hx hb dX7_run_45 rfl (lv_at hl 0 rfl) ?_
      refine getM 6 hx hb hts hown hK hG (by decide) qF_X7_26 rfl dX7_run_46 ?_
      refine topE (y := 1) (by rw [← eF7, upd_s]) ?_
      refine lv_if_eq (tgt := 54) hx hb dX7_run_49 (by decide) (fun c49 => ?_) (fun c49 => ?_)
      · exact absurd c49 (by decide)
      · refine lv_iconst (v := 0) hx hb dX7_run_52 (by decide) ?_
        subst eF7
        have hG9 : Md D o (fP_X7_run P V F tmp sn hrs) S (fV_X7_run P V F tmp sn hrs) T (fF_X7_run P V F tmp sn hrs) h H := by
          unfold fP_X7_run; (try dsimp only); (try rw [if_neg c6, if_pos c16])
          unfold fV_X7_run; (try dsimp only); (try rw [if_neg c6, if_pos c16])
          unfold fF_X7_run; (try dsimp only); (try rw [if_neg c6, if_pos c16])
          exact hG
        exact W.iret hx hb hr (fun t ht hW => gQi_of (by unfold fR_X7_run; (try dsimp only); (try rw [if_neg c6, if_pos c16]); (try rfl)) hG9 hS ht) hS.2.2 dX7_run_53
