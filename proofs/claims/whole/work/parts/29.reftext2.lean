theorem hdv_X7_readNumber : yX7_readNumber.cls = RX7 ∧ yX7_readNumber.cls ≠ "java/lang/invoke/MethodHandle" ∧ yX7_readNumber.cls ≠ "java/lang/invoke/VarHandle" ∧ (parseMethodDescriptor yX7_readNumber.desc).map (fun d => d.parameters.length) = some 3 := by decide +kernel
def fF_X7_readNumber_L11 (T : Nat → Int32) (d : Nat) (lo : Int32) (hi : Int32) : Nat → Nat → (Nat → Int32) → Nat → Int32
  | 0, fr, Fl =>
    if (ta Fl) = fr then
      Fl
    else
      if fR_X7_isDigit T Fl = 0 then
        if fR_X7_in (Fl 8) lo hi = 0 then
          let F2 := upd Fl 7 (nI fr)
          F2
        else
          Fl
      else
        Fl
  | k + 1, fr, Fl =>
    if fR_X7_isDigit T Fl = 0 then
      if (ta Fl) = fr then
        Fl
      else
        if fR_X7_in (Fl 8) lo hi = 0 then
          let F3 := upd Fl 7 (nI fr)
          F3
        else
          Fl
    else
      let x4 := ((10 * (Fl 8)) + (fR_X7_here T Fl)) - 48
      let F5 := upd Fl 8 x4
      let F6 := upd F5 7 (nI ((ta Fl) + 1))
      fF_X7_readNumber_L11 T d lo hi k fr F6
def fR_X7_readNumber_L11 (T : Nat → Int32) (d : Nat) (lo : Int32) (hi : Int32) : Nat → Nat → (Nat → Int32) → Int32
  | 0, fr, Fl =>
    if (ta Fl) = fr then
      0
    else
      if fR_X7_isDigit T Fl = 0 then
        if fR_X7_in (Fl 8) lo hi = 0 then
          0
        else
          1
      else
        0
  | k + 1, fr, Fl =>
    if fR_X7_isDigit T Fl = 0 then
      if (ta Fl) = fr then
        0
      else
        if fR_X7_in (Fl 8) lo hi = 0 then
          0
        else
          1
    else
      let x4 := ((10 * (Fl 8)) + (fR_X7_here T Fl)) - 48
      let F5 := upd Fl 8 x4
      let F6 := upd F5 7 (nI ((ta Fl) + 1))
      fR_X7_readNumber_L11 T d lo hi k fr F6
def fF_X7_readNumber (T : Nat → Int32) (F : Nat → Int32) (d : Nat) (lo : Int32) (hi : Int32) : Nat → Int32 :=
  let F1 := upd F 8 0
  fF_X7_readNumber_L11 T d lo hi d (ta F) F1
def fR_X7_readNumber (T : Nat → Int32) (F : Nat → Int32) (d : Nat) (lo : Int32) (hi : Int32) : Int32 :=
  let F1 := upd F 8 0
  fR_X7_readNumber_L11 T d lo hi d (ta F) F1
set_option maxHeartbeats 4000000 in
set_option maxRecDepth 100000 in
theorem c_X7_readNumber (l : Launch) (D : va_G) (o : Nat) (P S V T F : Nat → Int32) (h : Int64) (d : Nat) (lo : Int32) (hi : Int32) (hX0 : okX F) (hd : d < 10) : Met l yX7_readNumber (wA yX7_readNumber cX7_readNumber 5 (some .boolean)) (rmL 2) (gPc D [.ref o, .int (nI d), .int lo, .int hi] (fun H => Md D o P S V T F h H)) (gQi (inM o) (fR_X7_readNumber T F d lo hi) (fun H => Md D o P S V T (fF_X7_readNumber T F d lo hi) h H)) 0 0 (inM o) := by
  refine Met.ofW (cc := cX7_readNumber) (maxL := 5) (ret := (some .boolean)) (by decide) rfl ?_
  intro p e s m args below meth c s₁ B hml hv
  obtain ⟨hav, hG, hK⟩ := hv
  have hx := B.exec
  have hb := B.bytes
  have hr := B.returns
  have hts0 := atoms_spec (ws := wA yX7_readNumber cX7_readNumber 5 (some .boolean)) B.pre
  have hts : ∀ w ∈ AW, w.before _ s = true := fun w h => hts0 w (List.mem_cons_of_mem _ h)
  have hown : s.vm.findClass RX7 = some m.cls := findClass_of_methodNamed B.named
  have hlocks := B.notSynchronized
  have hA : ∀ q, (inM o) q → (inM o) q := fun _ h => h
  have hS : va_S (inM o) s.heap s.heap [] := va_S.rf
  have hG : Md D o P S V T F h s.heap := hG
  have hl := lv_entry ([.ref o, .int (nI d), .int lo, .int hi]) (n := 5) (Nat.le_of_ble_eq_true rfl)
  refine W.eq (g2 := entryFrame m ([.ref o, .int (nI d), .int lo, .int hi] : List Value).toArray 5) (by rw [hav]) ?_
  rw [lg_entry_eq]
  generalize (lg_sl ([.ref o, .int (nI d), .int lo, .int hi]) ++ List.replicate (5 - (lg_sl ([.ref o, .int (nI d), .int lo, .int hi])).length) Slot.unset).toArray = ls at hl ⊢
  have hl : lv_has ls 5 [(0, .ref o), (1, .int (nI d)), (2, .int lo), (3, .int hi)] := hl
  have hX2 := hX0.1.2
  have hX3 := hX0.2.2
  have L11 : ∀ (k : Nat) (fr : Nat) (Fl : Nat → Int32) (H : Heap) (locs : List Loc) (ls : Array Slot) (hX : okX Fl) (hk : ta Fl + k = fr + d) (hfr : fr ≤ 150) (hfF : fF_X7_readNumber T F d lo hi = fF_X7_readNumber_L11 T d lo hi k fr Fl) (hfR : fR_X7_readNumber T F d lo hi = fR_X7_readNumber_L11 T d lo hi k fr Fl) (hG : Md D o P S V T Fl h H) (hS : va_S (inM o) s.heap H locs) (hl : lv_has ls 5 [(0, .ref o), (1, .int (nI d)), (2, .int lo), (3, .int hi), (4, .int (nI fr))]), W p l e (headSpec (wA yX7_readNumber cX7_readNumber 5 (some .boolean)) (rmL 2)).room s m args below meth c H locs 0 0 (MQ below (gQi (inM o) (fR_X7_readNumber T F d lo hi) (fun H => Md D o P S V T (fF_X7_readNumber T F d lo hi) h H)) args s 0 0 (inM o)) (F0 m 11 ls []) := by
    intro k
    induction k with
    | zero =>
      intro fr Fl H locs ls hX hk hfr hfF hfR hG hS hl
      refine lv_aload_n hx hb dX7_readNumber_11 rfl (lv_at hl 0 rfl) ?_
      have hX2 := hX.1.2
      have hX3 := hX.2.2
      refine getM 7 hx hb hts hown hK hG (by decide) qF_X7_127 rfl dX7_readNumber_12 ?_
      refine topN (n := (ta Fl)) hX.2.1 ?_
      refine lv_iload hx hb dX7_readNumber_15 (lv_at hl 4 rfl) ?_
      refine lv_iload_n hx hb dX7_readNumber_17 rfl (lv_at hl 1 rfl) ?_
      refine iaddN (a := fr) (b := d) hx hb dX7_readNumber_18 ?_
      refine lv_icmp_ge (tgt := 61) hx hb dX7_readNumber_19 (by decide) (fun c19 => ?_) (fun c19 => ?_)
      · have c19 : fr + d ≤ (ta Fl) := (nI_leI (a := fr + d) (b := (ta Fl)) (by omega) (by omega)).mp c19
        refine lv_aload_n hx hb dX7_readNumber_61 rfl (lv_at hl 0 rfl) ?_
        refine getM 7 hx hb hts hown hK hG (by decide) qF_X7_127 rfl dX7_readNumber_62 ?_
        refine topN (n := (ta Fl)) hX.2.1 ?_
        refine lv_iload hx hb dX7_readNumber_65 (lv_at hl 4 rfl) ?_
        refine lv_icmp_eq (tgt := 77) hx hb dX7_readNumber_67 (by decide) (fun c67 => ?_) (fun c67 => ?_)
        · have c67 : (ta Fl) = fr := (nI_eq (a := (ta Fl)) (b := fr) (by omega) (by omega)).mp c67
          refine lv_iconst (v := 0) hx hb dX7_readNumber_77 (by decide) ?_
          have hG9 : Md D o P S V T (fF_X7_readNumber T F d lo hi) h H := by
            rw [hfF, fF_X7_readNumber_L11]; (try dsimp only); (try rw [if_pos c67])
            exact hG
          exact W.zret hx hb hr (by first | rfl | exact nb_of in_b) (fun t ht hW => gQi_of (by rw [hfR, fR_X7_readNumber_L11]; (try dsimp only); (try rw [if_pos c67]); (try rfl)) hG9 hS ht) hS.2.2 dX7_readNumber_78
        · have c67 : ¬ (ta Fl) = fr := fun h => c67 ((nI_eq (a := (ta Fl)) (b := fr) (by omega) (by omega)).mpr h)
          refine lv_aload_n hx hb dX7_readNumber_70 rfl (lv_at hl 0 rfl) ?_
          refine gcVi (As := []) (rest := []) hx hb hml hown hts hl.1 hK (c_X7_isDigit l D o P S V T Fl h hX) (gaV qM_X7_136 qI_X7_isDigit qS_X7_isDigit qK_X7 qC_X7_isDigit) hdv_X7_isDigit ⟨Nat.le_of_ble_eq_true rfl, Nat.le_of_ble_eq_true rfl⟩ hG (hG.recv hK) rfl (Nat.le_of_ble_eq_true rfl) ⟨Nat.zero_le _, Nat.zero_le _⟩ dX7_readNumber_71 hS hA (fun H locs hG _ _ hS => ?_)
          have hG : Md D o P S V T Fl h H := hG
          refine lv_if_eq (tgt := 79) hx hb dX7_readNumber_74 (by decide) (fun c74 => ?_) (fun c74 => ?_)
          · refine lv_aload_n hx hb dX7_readNumber_79 rfl (lv_at hl 0 rfl) ?_
            refine getM 8 hx hb hts hown hK hG (by decide) qF_X7_133 rfl dX7_readNumber_80 ?_
            refine lv_iload_n hx hb dX7_readNumber_83 rfl (lv_at hl 2 rfl) ?_
            refine lv_iload_n hx hb dX7_readNumber_84 rfl (lv_at hl 3 rfl) ?_
            refine gcSi (As := [.int (Fl 8), .int lo, .int hi]) (rest := []) hx hb hml hown hts hl.1 hK (c_X7_in l D (fun H => Md D o P S V T Fl h H) (Fl 8) lo hi) (gaS qM_X7_37 qT_X7_in qK_X7 qC_X7_in) hds_X7_in ⟨Nat.le_of_ble_eq_true rfl, Nat.le_of_ble_eq_true rfl⟩ hG rfl (Nat.le_of_ble_eq_true rfl) ⟨Nat.zero_le _, Nat.zero_le _⟩ dX7_readNumber_85 hS (fun _ (h : noA _) => False.elim h) (fun H locs hG _ _ hS => ?_)
            have hG : Md D o P S V T Fl h H := hG
            refine lv_if_ne (tgt := 99) hx hb dX7_readNumber_88 (by decide) (fun c88 => ?_) (fun c88 => ?_)
            · refine lv_iconst (v := 1) hx hb dX7_readNumber_99 (by decide) ?_
              have hG9 : Md D o P S V T (fF_X7_readNumber T F d lo hi) h H := by
                rw [hfF, fF_X7_readNumber_L11]; (try dsimp only); (try rw [if_neg c67, if_pos c74, if_neg c88])
                exact hG
              exact W.zret hx hb hr (by first | rfl | exact nb_of in_b) (fun t ht hW => gQi_of (by rw [hfR, fR_X7_readNumber_L11]; (try dsimp only); (try rw [if_neg c67, if_pos c74, if_neg c88]); (try rfl)) hG9 hS ht) hS.2.2 dX7_readNumber_100
            · refine lv_aload_n hx hb dX7_readNumber_91 rfl (lv_at hl 0 rfl) ?_
              refine lv_iload hx hb dX7_readNumber_92 (lv_at hl 4 rfl) ?_
              refine putM 7 hx hb hts hown hK hG hS hA (by decide) qF_X7_127 rfl dX7_readNumber_94 (fun H locs hG hS => ?_)
              generalize eF2 : upd Fl 7 (nI fr) = F2 at hG
              refine lv_iconst (v := 0) hx hb dX7_readNumber_97 (by decide) ?_
              subst eF2
              have hG9 : Md D o P S V T (fF_X7_readNumber T F d lo hi) h H := by
                rw [hfF, fF_X7_readNumber_L11]; (try dsimp only); (try rw [if_neg c67, if_pos c74, if_pos c88])
                exact hG
              exact W.zret hx hb hr (by first | rfl | exact nb_of in_b) (fun t ht hW => gQi_of (by rw [hfR, fR_X7_readNumber_L11]; (try dsimp only); (try rw [if_neg c67, if_pos c74, if_pos c88]); (try rfl)) hG9 hS ht) hS.2.2 dX7_readNumber_98
          · refine lv_iconst (v := 0) hx hb dX7_readNumber_77 (by decide) ?_
            have hG9 : Md D o P S V T (fF_X7_readNumber T F d lo hi) h H := by
              rw [hfF, fF_X7_readNumber_L11]; (try dsimp only); (try rw [if_neg c67, if_neg c74])
              exact hG
            exact W.zret hx hb hr (by first | rfl | exact nb_of in_b) (fun t ht hW => gQi_of (by rw [hfR, fR_X7_readNumber_L11]; (try dsimp only); (try rw [if_neg c67, if_neg c74]); (try rfl)) hG9 hS ht) hS.2.2 dX7_readNumber_78
      · have c19 : ¬ fr + d ≤ (ta Fl) := fun h => c19 ((nI_leI (a := fr + d) (b := (ta Fl)) (by omega) (by omega)).mpr h)
        exfalso; omega
    | succ k ih =>
      intro fr Fl H locs ls hX hk hfr hfF hfR hG hS hl
      refine lv_aload_n hx hb dX7_readNumber_11 rfl (lv_at hl 0 rfl) ?_
      have hX2 := hX.1.2
      have hX3 := hX.2.2
      refine getM 7 hx hb hts hown hK hG (by decide) qF_X7_127 rfl dX7_readNumber_12 ?_
      refine topN (n := (ta Fl)) hX.2.1 ?_
      refine lv_iload hx hb dX7_readNumber_15 (lv_at hl 4 rfl) ?_
      refine lv_iload_n hx hb dX7_readNumber_17 rfl (lv_at hl 1 rfl) ?_
      refine iaddN (a := fr) (b := d) hx hb dX7_readNumber_18 ?_
      refine lv_icmp_ge (tgt := 61) hx hb dX7_readNumber_19 (by decide) (fun c19 => ?_) (fun c19 => ?_)
      · have c19 : fr + d ≤ (ta Fl) := (nI_leI (a := fr + d) (b := (ta Fl)) (by omega) (by omega)).mp c19
        exfalso; omega
      · have c19 : ¬ fr + d ≤ (ta Fl) := fun h => c19 ((nI_leI (a := fr + d) (b := (ta Fl)) (by omega) (by omega)).mpr h)
        refine lv_aload_n hx hb dX7_readNumber_22 rfl (lv_at hl 0 rfl) ?_
        refine gcVi (As := []) (rest := []) hx hb hml hown hts hl.1 hK (c_X7_isDigit l D o P S V T Fl h hX) (gaV qM_X7_136 qI_X7_isDigit qS_X7_isDigit qK_X7 qC_X7_isDigit) hdv_X7_isDigit ⟨Nat.le_of_ble_eq_true rfl, Nat.le_of_ble_eq_true rfl⟩ hG (hG.recv hK) rfl (Nat.le_of_ble_eq_true rfl) ⟨Nat.zero_le _, Nat.zero_le _⟩ dX7_readNumber_23 hS hA (fun H locs hG _ _ hS => ?_)
        have hG : Md D o P S V T Fl h H := hG
        refine lv_if_eq (tgt := 61) hx hb dX7_readNumber_26 (by decide) (fun c26 => ?_) (fun c26 => ?_)
        · refine lv_aload_n hx hb dX7_readNumber_61 rfl (lv_at hl 0 rfl) ?_
          refine getM 7 hx hb hts hown hK hG (by decide) qF_X7_127 rfl dX7_readNumber_62 ?_
          refine topN (n := (ta Fl)) hX.2.1 ?_
          refine lv_iload hx hb dX7_readNumber_65 (lv_at hl 4 rfl) ?_
          refine lv_icmp_eq (tgt := 77) hx hb dX7_readNumber_67 (by decide) (fun c67 => ?_) (fun c67 => ?_)
          · have c67 : (ta Fl) = fr := (nI_eq (a := (ta Fl)) (b := fr) (by omega) (by omega)).mp c67
            refine lv_iconst (v := 0) hx hb dX7_readNumber_77 (by decide) ?_
            have hG9 : Md D o P S V T (fF_X7_readNumber T F d lo hi) h H := by
              rw [hfF, fF_X7_readNumber_L11]; (try dsimp only); (try rw [if_pos c26, if_pos c67])
              exact hG
            exact W.zret hx hb hr (by first | rfl | exact nb_of in_b) (fun t ht hW => gQi_of (by rw [hfR, fR_X7_readNumber_L11]; (try dsimp only); (try rw [if_pos c26, if_pos c67]); (try rfl)) hG9 hS ht) hS.2.2 dX7_readNumber_78
          · have c67 : ¬ (ta Fl) = fr := fun h => c67 ((nI_eq (a := (ta Fl)) (b := fr) (by omega) (by omega)).mpr h)
            refine lv_aload_n hx hb dX7_readNumber_70 rfl (lv_at hl 0 rfl) ?_
            refine gcVi (As := []) (rest := []) hx hb hml hown hts hl.1 hK (c_X7_isDigit l D o P S V T Fl h hX) (gaV qM_X7_136 qI_X7_isDigit qS_X7_isDigit qK_X7 qC_X7_isDigit) hdv_X7_isDigit ⟨Nat.le_of_ble_eq_true rfl, Nat.le_of_ble_eq_true rfl⟩ hG (hG.recv hK) rfl (Nat.le_of_ble_eq_true rfl) ⟨Nat.zero_le _, Nat.zero_le _⟩ dX7_readNumber_71 hS hA (fun H locs hG _ _ hS => ?_)
            have hG : Md D o P S V T Fl h H := hG
            refine lv_if_eq (tgt := 79) hx hb dX7_readNumber_74 (by decide) (fun c74 => ?_) (fun c74 => ?_)
            · refine lv_aload_n hx hb dX7_readNumber_79 rfl (lv_at hl 0 rfl) ?_
              refine getM 8 hx hb hts hown hK hG (by decide) qF_X7_133 rfl dX7_readNumber_80 ?_
              refine lv_iload_n hx hb dX7_readNumber_83 rfl (lv_at hl 2 rfl) ?_
              refine lv_iload_n hx hb dX7_readNumber_84 rfl (lv_at hl 3 rfl) ?_
              refine gcSi (As := [.int (Fl 8), .int lo, .int hi]) (rest := []) hx hb hml hown hts hl.1 hK (c_X7_in l D (fun H => Md D o P S V T Fl h H) (Fl 8) lo hi) (gaS qM_X7_37 qT_X7_in qK_X7 qC_X7_in) hds_X7_in ⟨Nat.le_of_ble_eq_true rfl, Nat.le_of_ble_eq_true rfl⟩ hG rfl (Nat.le_of_ble_eq_true rfl) ⟨Nat.zero_le _, Nat.zero_le _⟩ dX7_readNumber_85 hS (fun _ (h : noA _) => False.elim h) (fun H locs hG _ _ hS => ?_)
              have hG : Md D o P S V T Fl h H := hG
              refine lv_if_ne (tgt := 99) hx hb dX7_readNumber_88 (by decide) (fun c88 => ?_) (fun c88 => ?_)
              · refine lv_iconst (v := 1) hx hb dX7_readNumber_99 (by decide) ?_
                have hG9 : Md D o P S V T (fF_X7_readNumber T F d lo hi) h H := by
                  rw [hfF, fF_X7_readNumber_L11]; (try dsimp only); (try rw [if_pos c26, if_neg c67, if_neg c88])
                  exact hG
                exact W.zret hx hb hr (by first | rfl | exact nb_of in_b) (fun t ht hW => gQi_of (by rw [hfR, fR_X7_readNumber_L11]; (try dsimp only); (try rw [if_pos c26, if_neg c67, if_neg c88]); (try rfl)) hG9 hS ht) hS.2.2 dX7_readNumber_100
              · refine lv_aload_n hx hb dX7_readNumber_91 rfl (lv_at hl 0 rfl) ?_
                refine lv_iload hx hb dX7_readNumber_92 (lv_at hl 4 rfl) ?_
                refine putM 7 hx hb hts hown hK hG hS hA (by decide) qF_X7_127 rfl dX7_readNumber_94 (fun H locs hG hS => ?_)
                generalize eF3 : upd Fl 7 (nI fr) = F3 at hG
                refine lv_iconst (v := 0) hx hb dX7_readNumber_97 (by decide) ?_
                subst eF3
                have hG9 : Md D o P S V T (fF_X7_readNumber T F d lo hi) h H := by
                  rw [hfF, fF_X7_readNumber_L11]; (try dsimp only); (try rw [if_pos c26, if_neg c67, if_pos c88])
                  exact hG
                exact W.zret hx hb hr (by first | rfl | exact nb_of in_b) (fun t ht hW => gQi_of (by rw [hfR, fR_X7_readNumber_L11]; (try dsimp only); (try rw [if_pos c26, if_neg c67, if_pos c88]); (try rfl)) hG9 hS ht) hS.2.2 dX7_readNumber_98
            · exact absurd c26 c74
        · refine lv_aload_n hx hb dX7_readNumber_29 rfl (lv_at hl 0 rfl) ?_
          refine lv_bipush (v := 10) hx hb dX7_readNumber_30 (by decide) ?_
          refine lv_aload_n hx hb dX7_readNumber_32 rfl (lv_at hl 0 rfl) ?_
          refine getM 8 hx hb hts hown hK hG (by decide) qF_X7_133 rfl dX7_readNumber_33 ?_
          refine lv_imul hx hb dX7_readNumber_36 ?_
          refine lv_aload_n hx hb dX7_readNumber_37 rfl (lv_at hl 0 rfl) ?_
          refine gcVi (As := []) (rest := [.int (10 * (Fl 8)), .ref o]) hx hb hml hown hts hl.1 hK (c_X7_here l D o P S V T Fl h hX) (gaV qM_X7_130 qI_X7_here qS_X7_here qK_X7 qC_X7_here) hdv_X7_here ⟨Nat.le_of_ble_eq_true rfl, Nat.le_of_ble_eq_true rfl⟩ hG (hG.recv hK) rfl (Nat.le_of_ble_eq_true rfl) ⟨Nat.zero_le _, Nat.zero_le _⟩ dX7_readNumber_38 hS hA (fun H locs hG _ _ hS => ?_)
          have hG : Md D o P S V T Fl h H := hG
          refine lv_iadd hx hb dX7_readNumber_41 ?_
          refine lv_bipush (v := 48) hx hb dX7_readNumber_42 (by decide) ?_
          refine lv_isub hx hb dX7_readNumber_44 ?_
          refine lv_topi (fun x4 ex4 => ?_)
          refine putM 8 hx hb hts hown hK hG hS hA (by decide) qF_X7_133 rfl dX7_readNumber_45 (fun H locs hG hS => ?_)
          generalize eF5 : upd Fl 8 x4 = F5 at hG
          refine lv_aload_n hx hb dX7_readNumber_48 rfl (lv_at hl 0 rfl) ?_
          refine lv_dup hx hb dX7_readNumber_49 rfl ?_
          refine getM 7 hx hb hts hown hK hG (by decide) qF_X7_127 rfl dX7_readNumber_50 ?_
          refine topN (n := (ta Fl)) (by subst_vars; rw [upd_n (by decide)]; exact hX.2.1) ?_
          refine lv_iconst (v := 1) hx hb dX7_readNumber_53 (by decide) ?_
          refine iaddN (a := (ta Fl)) (b := 1) hx hb dX7_readNumber_54 ?_
          refine putM 7 hx hb hts hown hK hG hS hA (by decide) qF_X7_127 rfl dX7_readNumber_55 (fun H locs hG hS => ?_)
          generalize eF6 : upd F5 7 (nI ((ta Fl) + 1)) = F6 at hG
          refine lv_goto (tgt := 11) hx hb dX7_readNumber_58 (by decide) ?_
          subst eF6
          subst eF5
          subst ex4
          exact ih fr _ _ _ _ (okX_d (digit_lt c26) hX).1 (by rw [(okX_d (digit_lt c26) hX).2.1]; omega) (by first | assumption | omega) (by rw [hfF, fF_X7_readNumber_L11]; (try dsimp only); (try rw [if_neg c26]); (try rfl)) (by rw [hfR, fR_X7_readNumber_L11]; (try dsimp only); (try rw [if_neg c26]); (try rfl)) hG hS (lv_sub hl [0, 1, 2, 3, 4] rfl)
  refine lv_aload_n hx hb dX7_readNumber_0 rfl (lv_at hl 0 rfl) ?_
  refine getM 7 hx hb hts hown hK hG (by decide) qF_X7_127 rfl dX7_readNumber_1 ?_
  refine topN (n := (ta F)) hX0.2.1 ?_
  refine lv_istore (lv' := [(4, .int (nI (ta F))), (0, .ref o), (1, .int (nI d)), (2, .int lo), (3, .int hi)]) hx hb dX7_readNumber_4 hl (by decide) rfl (fun ls hl => ?_)
  refine lv_aload_n hx hb dX7_readNumber_6 rfl (lv_at hl 1 rfl) ?_
  refine lv_iconst (v := 0) hx hb dX7_readNumber_7 (by decide) ?_
  refine putM 8 hx hb hts hown hK hG hS hA (by decide) qF_X7_133 rfl dX7_readNumber_8 (fun H locs hG hS => ?_)
  generalize eF1 : upd F 8 0 = F1 at hG
  subst eF1
  exact L11 d (ta F) _ _ _ _ (okX_u (by decide) hX0) (by rw [ta_c (upd_n (by decide))]) (by first | assumption | omega) (by unfold fF_X7_readNumber; (try dsimp only); (try rfl)) (by unfold fR_X7_readNumber; (try dsimp only); (try rfl)) hG hS (lv_sub hl [1, 2, 3, 4, 0] rfl)
