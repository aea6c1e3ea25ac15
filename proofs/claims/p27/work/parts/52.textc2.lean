theorem hdv_X5_readNumber : yX5_readNumber.cls = RX5 ∧ yX5_readNumber.cls ≠ "java/lang/invoke/MethodHandle" ∧ yX5_readNumber.cls ≠ "java/lang/invoke/VarHandle" ∧ (parseMethodDescriptor yX5_readNumber.desc).map (fun d => d.parameters.length) = some 3 := by decide +kernel
def fF_X5_readNumber_L12 (Y : Nat → Int32) (d : Nat) (lo : Int32) (hi : Int32) : Nat → Nat → Int32 → Nat → (Nat → Int32) → Nat → Int32
  | 0, fr, num, j, Fl =>
    if (ta5 Fl) = fr then
      let F1 := fF_X5_fail Fl (Fl 6)
      F1
    else
      if fR_X5_isDigitHere Y Fl = 0 then
        if num < lo then
          let F2 := fF_X5_fail Fl (nI fr)
          F2
        else
          if num ≤ hi then
            Fl
          else
            let F3 := fF_X5_fail Fl (nI fr)
            F3
      else
        let F4 := fF_X5_fail Fl (Fl 6)
        F4
  | k + 1, fr, num, j, Fl =>
    if fR_X5_isDigitHere Y Fl = 0 then
      if (ta5 Fl) = fr then
        let F5 := fF_X5_fail Fl (Fl 6)
        F5
      else
        if num < lo then
          let F6 := fF_X5_fail Fl (nI fr)
          F6
        else
          if num ≤ hi then
            Fl
          else
            let F7 := fF_X5_fail Fl (nI fr)
            F7
    else
      let x8 := ((10 * num) + (fR_X5_here Y Fl)) - 48
      let F9 := upd Fl 6 (nI ((ta5 Fl) + 1))
      fF_X5_readNumber_L12 Y d lo hi k fr x8 (j + 1) F9
def fR_X5_readNumber_L12 (Y : Nat → Int32) (d : Nat) (lo : Int32) (hi : Int32) : Nat → Nat → Int32 → Nat → (Nat → Int32) → Int32
  | 0, fr, num, j, Fl =>
    if (ta5 Fl) = fr then
      num
    else
      if fR_X5_isDigitHere Y Fl = 0 then
        if num < lo then
          num
        else
          if num ≤ hi then
            num
          else
            num
      else
        num
  | k + 1, fr, num, j, Fl =>
    if fR_X5_isDigitHere Y Fl = 0 then
      if (ta5 Fl) = fr then
        num
      else
        if num < lo then
          num
        else
          if num ≤ hi then
            num
          else
            num
    else
      let x8 := ((10 * num) + (fR_X5_here Y Fl)) - 48
      let F9 := upd Fl 6 (nI ((ta5 Fl) + 1))
      fR_X5_readNumber_L12 Y d lo hi k fr x8 (j + 1) F9
def fF_X5_readNumber (Y : Nat → Int32) (F : Nat → Int32) (d : Nat) (lo : Int32) (hi : Int32) : Nat → Int32 :=
  fF_X5_readNumber_L12 Y d lo hi d (ta5 F) 0 0 F
def fR_X5_readNumber (Y : Nat → Int32) (F : Nat → Int32) (d : Nat) (lo : Int32) (hi : Int32) : Int32 :=
  fR_X5_readNumber_L12 Y d lo hi d (ta5 F) 0 0 F
set_option maxHeartbeats 4000000 in
set_option maxRecDepth 100000 in
theorem c_X5_readNumber (l : Launch) (D : va_G) (t : Nat) (Y X U Z F : Nat → Int32) (d : Nat) (lo : Int32) (hi : Int32) (hX0 : okX5 F) (hd : d < 10) : Met l yX5_readNumber (wA yX5_readNumber cX5_readNumber 7 (some .int)) (rmL 2) (gPc D [.ref t, .int (nI d), .int lo, .int hi] (fun H => Tx D t Y X U Z F H)) (gQi (inT t) (fR_X5_readNumber Y F d lo hi) (fun H => Tx D t Y X U Z (fF_X5_readNumber Y F d lo hi) H)) 0 0 (inT t) := by
  refine Met.ofW (cc := cX5_readNumber) (maxL := 7) (ret := (some .int)) (by decide) rfl ?_
  intro p e s m args below meth c s₁ B hml hv
  obtain ⟨hav, hG, hK⟩ := hv
  have hx := B.exec
  have hb := B.bytes
  have hr := B.returns
  have hts0 := atoms_spec (ws := wA yX5_readNumber cX5_readNumber 7 (some .int)) B.pre
  have hts : ∀ w ∈ AW, w.before _ s = true := fun w h => hts0 w (List.mem_cons_of_mem _ h)
  have hown : s.vm.findClass RX5 = some m.cls := findClass_of_methodNamed B.named
  have hlocks := B.notSynchronized
  have hA : ∀ q, (inT t) q → (inT t) q := fun _ h => h
  have hS : va_S (inT t) s.heap s.heap [] := va_S.rf
  have hG : Tx D t Y X U Z F s.heap := hG
  have hl := lv_entry ([.ref t, .int (nI d), .int lo, .int hi]) (n := 7) (Nat.le_of_ble_eq_true rfl)
  refine W.eq (g2 := entryFrame m ([.ref t, .int (nI d), .int lo, .int hi] : List Value).toArray 7) (by rw [hav]) ?_
  rw [lg_entry_eq]
  generalize (lg_sl ([.ref t, .int (nI d), .int lo, .int hi]) ++ List.replicate (7 - (lg_sl ([.ref t, .int (nI d), .int lo, .int hi])).length) Slot.unset).toArray = ls at hl ⊢
  have hl : lv_has ls 7 [(0, .ref t), (1, .int (nI d)), (2, .int lo), (3, .int hi)] := hl
  have hX2 := hX0.1.2
  have hX3 := hX0.2.2
  have L12 : ∀ (k : Nat) (fr : Nat) (num : Int32) (j : Nat) (Fl : Nat → Int32) (H : Heap) (locs : List Loc) (ls : Array Slot) (hX : okX5 Fl) (hfr : fr ≤ 150) (hik : j + k = d) (hfF : fF_X5_readNumber Y F d lo hi = fF_X5_readNumber_L12 Y d lo hi k fr num j Fl) (hfR : fR_X5_readNumber Y F d lo hi = fR_X5_readNumber_L12 Y d lo hi k fr num j Fl) (hG : Tx D t Y X U Z Fl H) (hS : va_S (inT t) s.heap H locs) (hl : lv_has ls 7 [(0, .ref t), (1, .int (nI d)), (2, .int lo), (3, .int hi), (4, .int (nI fr)), (5, .int num), (6, .int (nI j))]), W p l e (headSpec (wA yX5_readNumber cX5_readNumber 7 (some .int)) (rmL 2)).room s m args below meth c H locs 0 0 (MQ below (gQi (inT t) (fR_X5_readNumber Y F d lo hi) (fun H => Tx D t Y X U Z (fF_X5_readNumber Y F d lo hi) H)) args s 0 0 (inT t)) (F0 m 12 ls []) := by
    intro k
    induction k with
    | zero =>
      intro fr num j Fl H locs ls hX hfr hik hfF hfR hG hS hl
      refine lv_iload hx hb dX5_readNumber_12 (lv_at hl 6 rfl) ?_
      refine lv_iload_n hx hb dX5_readNumber_14 rfl (lv_at hl 1 rfl) ?_
      refine lv_icmp_ge (tgt := 56) hx hb dX5_readNumber_15 (by decide) (fun c15 => ?_) (fun c15 => ?_)
      · have c15 : d ≤ j := (nI_leI (a := d) (b := j) (by omega) (by omega)).mp c15
        refine lv_aload_n hx hb dX5_readNumber_56 rfl (lv_at hl 0 rfl) ?_
        have hX2 := hX.1.2
        have hX3 := hX.2.2
        refine getX 6 hx hb hts hown hK hG (by decide) qF_X5_28 rfl dX5_readNumber_57 ?_
        refine topN (n := (ta5 Fl)) hX.2.1 ?_
        refine lv_iload hx hb dX5_readNumber_60 (lv_at hl 4 rfl) ?_
        refine lv_icmp_eq (tgt := 72) hx hb dX5_readNumber_62 (by decide) (fun c62 => ?_) (fun c62 => ?_)
        · have c62 : (ta5 Fl) = fr := (nI_eq (a := (ta5 Fl)) (b := fr) (by omega) (by omega)).mp c62
          refine lv_aload_n hx hb dX5_readNumber_72 rfl (lv_at hl 0 rfl) ?_
          refine lv_aload_n hx hb dX5_readNumber_73 rfl (lv_at hl 0 rfl) ?_
          refine getX 6 hx hb hts hown hK hG (by decide) qF_X5_28 rfl dX5_readNumber_74 ?_
          refine gcVv (As := [.int (Fl 6)]) (rest := []) hx hb hml hown hts hl.1 hK (c_X5_fail l D t Y X U Z Fl (Fl 6)) (gaV qM_X5_59 qI_X5_fail qS_X5_fail qK_X5 qC_X5_fail) hdv_X5_fail ⟨Nat.le_of_ble_eq_true rfl, Nat.le_of_ble_eq_true rfl⟩ hG (hG.recv hK) rfl (Nat.le_of_ble_eq_true rfl) ⟨Nat.zero_le _, Nat.zero_le _⟩ dX5_readNumber_77 hS hA (fun H locs hG _ _ hS => ?_)
          have hG : Tx D t Y X U Z (fF_X5_fail Fl (Fl 6)) H := hG
          generalize eF1 : fF_X5_fail Fl (Fl 6) = F1 at hG
          refine lv_goto (tgt := 101) hx hb dX5_readNumber_80 (by decide) ?_
          refine lv_iload hx hb dX5_readNumber_101 (lv_at hl 5 rfl) ?_
          subst eF1
          have hG9 : Tx D t Y X U Z (fF_X5_readNumber Y F d lo hi) H := by
            rw [hfF, fF_X5_readNumber_L12]; (try dsimp only); (try rw [if_pos c62])
            exact hG
          exact W.iret hx hb hr (fun t ht hW => gQi_of (by rw [hfR, fR_X5_readNumber_L12]; (try dsimp only); (try rw [if_pos c62]); (try rfl)) hG9 hS ht) hS.2.2 dX5_readNumber_103
        · have c62 : ¬ (ta5 Fl) = fr := fun h => c62 ((nI_eq (a := (ta5 Fl)) (b := fr) (by omega) (by omega)).mpr h)
          refine lv_aload_n hx hb dX5_readNumber_65 rfl (lv_at hl 0 rfl) ?_
          refine gcVi (As := []) (rest := []) hx hb hml hown hts hl.1 hK (c_X5_isDigitHere l D t Y X U Z Fl hX) (gaV qM_X5_55 qI_X5_isDigitHere qS_X5_isDigitHere qK_X5 qC_X5_isDigitHere) hdv_X5_isDigitHere ⟨Nat.le_of_ble_eq_true rfl, Nat.le_of_ble_eq_true rfl⟩ hG (hG.recv hK) rfl (Nat.le_of_ble_eq_true rfl) ⟨Nat.zero_le _, Nat.zero_le _⟩ dX5_readNumber_66 hS hA (fun H locs hG _ _ hS => ?_)
          have hG : Tx D t Y X U Z Fl H := hG
          refine lv_if_eq (tgt := 83) hx hb dX5_readNumber_69 (by decide) (fun c69 => ?_) (fun c69 => ?_)
          · refine lv_iload hx hb dX5_readNumber_83 (lv_at hl 5 rfl) ?_
            refine lv_iload_n hx hb dX5_readNumber_85 rfl (lv_at hl 2 rfl) ?_
            refine lv_icmp_lt (tgt := 95) hx hb dX5_readNumber_86 (by decide) (fun c86 => ?_) (fun c86 => ?_)
            · refine lv_aload_n hx hb dX5_readNumber_95 rfl (lv_at hl 0 rfl) ?_
              refine lv_iload hx hb dX5_readNumber_96 (lv_at hl 4 rfl) ?_
              refine gcVv (As := [.int (nI fr)]) (rest := []) hx hb hml hown hts hl.1 hK (c_X5_fail l D t Y X U Z Fl (nI fr)) (gaV qM_X5_59 qI_X5_fail qS_X5_fail qK_X5 qC_X5_fail) hdv_X5_fail ⟨Nat.le_of_ble_eq_true rfl, Nat.le_of_ble_eq_true rfl⟩ hG (hG.recv hK) rfl (Nat.le_of_ble_eq_true rfl) ⟨Nat.zero_le _, Nat.zero_le _⟩ dX5_readNumber_98 hS hA (fun H locs hG _ _ hS => ?_)
              have hG : Tx D t Y X U Z (fF_X5_fail Fl (nI fr)) H := hG
              generalize eF2 : fF_X5_fail Fl (nI fr) = F2 at hG
              refine lv_iload hx hb dX5_readNumber_101 (lv_at hl 5 rfl) ?_
              subst eF2
              have hG9 : Tx D t Y X U Z (fF_X5_readNumber Y F d lo hi) H := by
                rw [hfF, fF_X5_readNumber_L12]; (try dsimp only); (try rw [if_neg c62, if_pos c69, if_pos c86])
                exact hG
              exact W.iret hx hb hr (fun t ht hW => gQi_of (by rw [hfR, fR_X5_readNumber_L12]; (try dsimp only); (try rw [if_neg c62, if_pos c69, if_pos c86]); (try rfl)) hG9 hS ht) hS.2.2 dX5_readNumber_103
            · refine lv_iload hx hb dX5_readNumber_89 (lv_at hl 5 rfl) ?_
              refine lv_iload_n hx hb dX5_readNumber_91 rfl (lv_at hl 3 rfl) ?_
              refine lv_icmp_le (tgt := 101) hx hb dX5_readNumber_92 (by decide) (fun c92 => ?_) (fun c92 => ?_)
              · refine lv_iload hx hb dX5_readNumber_101 (lv_at hl 5 rfl) ?_
                have hG9 : Tx D t Y X U Z (fF_X5_readNumber Y F d lo hi) H := by
                  rw [hfF, fF_X5_readNumber_L12]; (try dsimp only); (try rw [if_neg c62, if_pos c69, if_neg c86, if_pos c92])
                  exact hG
                exact W.iret hx hb hr (fun t ht hW => gQi_of (by rw [hfR, fR_X5_readNumber_L12]; (try dsimp only); (try rw [if_neg c62, if_pos c69, if_neg c86, if_pos c92]); (try rfl)) hG9 hS ht) hS.2.2 dX5_readNumber_103
              · refine lv_aload_n hx hb dX5_readNumber_95 rfl (lv_at hl 0 rfl) ?_
                refine lv_iload hx hb dX5_readNumber_96 (lv_at hl 4 rfl) ?_
                refine gcVv (As := [.int (nI fr)]) (rest := []) hx hb hml hown hts hl.1 hK (c_X5_fail l D t Y X U Z Fl (nI fr)) (gaV qM_X5_59 qI_X5_fail qS_X5_fail qK_X5 qC_X5_fail) hdv_X5_fail ⟨Nat.le_of_ble_eq_true rfl, Nat.le_of_ble_eq_true rfl⟩ hG (hG.recv hK) rfl (Nat.le_of_ble_eq_true rfl) ⟨Nat.zero_le _, Nat.zero_le _⟩ dX5_readNumber_98 hS hA (fun H locs hG _ _ hS => ?_)
                have hG : Tx D t Y X U Z (fF_X5_fail Fl (nI fr)) H := hG
                generalize eF3 : fF_X5_fail Fl (nI fr) = F3 at hG
                refine lv_iload hx hb dX5_readNumber_101 (lv_at hl 5 rfl) ?_
                subst eF3
                have hG9 : Tx D t Y X U Z (fF_X5_readNumber Y F d lo hi) H := by
                  rw [hfF, fF_X5_readNumber_L12]; (try dsimp only); (try rw [if_neg c62, if_pos c69, if_neg c86, if_neg c92])
                  exact hG
                exact W.iret hx hb hr (fun t ht hW => gQi_of (by rw [hfR, fR_X5_readNumber_L12]; (try dsimp only); (try rw [if_neg c62, if_pos c69, if_neg c86, if_neg c92]); (try rfl)) hG9 hS ht) hS.2.2 dX5_readNumber_103
          · refine lv_aload_n hx hb dX5_readNumber_72 rfl (lv_at hl 0 rfl) ?_
            refine lv_aload_n hx hb dX5_readNumber_73 rfl (lv_at hl 0 rfl) ?_
            refine getX 6 hx hb hts hown hK hG (by decide) qF_X5_28 rfl dX5_readNumber_74 ?_
            refine gcVv (As := [.int (Fl 6)]) (rest := []) hx hb hml hown hts hl.1 hK (c_X5_fail l D t Y X U Z Fl (Fl 6)) (gaV qM_X5_59 qI_X5_fail qS_X5_fail qK_X5 qC_X5_fail) hdv_X5_fail ⟨Nat.le_of_ble_eq_true rfl, Nat.le_of_ble_eq_true rfl⟩ hG (hG.recv hK) rfl (Nat.le_of_ble_eq_true rfl) ⟨Nat.zero_le _, Nat.zero_le _⟩ dX5_readNumber_77 hS hA (fun H locs hG _ _ hS => ?_)
            have hG : Tx D t Y X U Z (fF_X5_fail Fl (Fl 6)) H := hG
            generalize eF4 : fF_X5_fail Fl (Fl 6) = F4 at hG
            refine lv_goto (tgt := 101) hx hb dX5_readNumber_80 (by decide) ?_
            refine lv_iload hx hb dX5_readNumber_101 (lv_at hl 5 rfl) ?_
            subst eF4
            have hG9 : Tx D t Y X U Z (fF_X5_readNumber Y F d lo hi) H := by
              rw [hfF, fF_X5_readNumber_L12]; (try dsimp only); (try rw [if_neg c62, if_neg c69])
              exact hG
            exact W.iret hx hb hr (fun t ht hW => gQi_of (by rw [hfR, fR_X5_readNumber_L12]; (try dsimp only); (try rw [if_neg c62, if_neg c69]); (try rfl)) hG9 hS ht) hS.2.2 dX5_readNumber_103
      · have c15 : ¬ d ≤ j := fun h => c15 ((nI_leI (a := d) (b := j) (by omega) (by omega)).mpr h)
        exfalso; omega
    | succ k ih =>
      intro fr num j Fl H locs ls hX hfr hik hfF hfR hG hS hl
      refine lv_iload hx hb dX5_readNumber_12 (lv_at hl 6 rfl) ?_
      refine lv_iload_n hx hb dX5_readNumber_14 rfl (lv_at hl 1 rfl) ?_
      refine lv_icmp_ge (tgt := 56) hx hb dX5_readNumber_15 (by decide) (fun c15 => ?_) (fun c15 => ?_)
      · have c15 : d ≤ j := (nI_leI (a := d) (b := j) (by omega) (by omega)).mp c15
        exfalso; omega
      · have c15 : ¬ d ≤ j := fun h => c15 ((nI_leI (a := d) (b := j) (by omega) (by omega)).mpr h)
        refine lv_aload_n hx hb dX5_readNumber_18 rfl (lv_at hl 0 rfl) ?_
        refine gcVi (As := []) (rest := []) hx hb hml hown hts hl.1 hK (c_X5_isDigitHere l D t Y X U Z Fl hX) (gaV qM_X5_55 qI_X5_isDigitHere qS_X5_isDigitHere qK_X5 qC_X5_isDigitHere) hdv_X5_isDigitHere ⟨Nat.le_of_ble_eq_true rfl, Nat.le_of_ble_eq_true rfl⟩ hG (hG.recv hK) rfl (Nat.le_of_ble_eq_true rfl) ⟨Nat.zero_le _, Nat.zero_le _⟩ dX5_readNumber_19 hS hA (fun H locs hG _ _ hS => ?_)
        have hG : Tx D t Y X U Z Fl H := hG
        refine lv_if_eq (tgt := 56) hx hb dX5_readNumber_22 (by decide) (fun c22 => ?_) (fun c22 => ?_)
        · refine lv_aload_n hx hb dX5_readNumber_56 rfl (lv_at hl 0 rfl) ?_
          have hX2 := hX.1.2
          have hX3 := hX.2.2
          refine getX 6 hx hb hts hown hK hG (by decide) qF_X5_28 rfl dX5_readNumber_57 ?_
          refine topN (n := (ta5 Fl)) hX.2.1 ?_
          refine lv_iload hx hb dX5_readNumber_60 (lv_at hl 4 rfl) ?_
          refine lv_icmp_eq (tgt := 72) hx hb dX5_readNumber_62 (by decide) (fun c62 => ?_) (fun c62 => ?_)
          · have c62 : (ta5 Fl) = fr := (nI_eq (a := (ta5 Fl)) (b := fr) (by omega) (by omega)).mp c62
            refine lv_aload_n hx hb dX5_readNumber_72 rfl (lv_at hl 0 rfl) ?_
            refine lv_aload_n hx hb dX5_readNumber_73 rfl (lv_at hl 0 rfl) ?_
            refine getX 6 hx hb hts hown hK hG (by decide) qF_X5_28 rfl dX5_readNumber_74 ?_
            refine gcVv (As := [.int (Fl 6)]) (rest := []) hx hb hml hown hts hl.1 hK (c_X5_fail l D t Y X U Z Fl (Fl 6)) (gaV qM_X5_59 qI_X5_fail qS_X5_fail qK_X5 qC_X5_fail) hdv_X5_fail ⟨Nat.le_of_ble_eq_true rfl, Nat.le_of_ble_eq_true rfl⟩ hG (hG.recv hK) rfl (Nat.le_of_ble_eq_true rfl) ⟨Nat.zero_le _, Nat.zero_le _⟩ dX5_readNumber_77 hS hA (fun H locs hG _ _ hS => ?_)
            have hG : Tx D t Y X U Z (fF_X5_fail Fl (Fl 6)) H := hG
            generalize eF5 : fF_X5_fail Fl (Fl 6) = F5 at hG
            refine lv_goto (tgt := 101) hx hb dX5_readNumber_80 (by decide) ?_
            refine lv_iload hx hb dX5_readNumber_101 (lv_at hl 5 rfl) ?_
            subst eF5
            have hG9 : Tx D t Y X U Z (fF_X5_readNumber Y F d lo hi) H := by
              rw [hfF, fF_X5_readNumber_L12]; (try dsimp only); (try rw [if_pos c22, if_pos c62])
              exact hG
            exact W.iret hx hb hr (fun t ht hW => gQi_of (by rw [hfR, fR_X5_readNumber_L12]; (try dsimp only); (try rw [if_pos c22, if_pos c62]); (try rfl)) hG9 hS ht) hS.2.2 dX5_readNumber_103
          · have c62 : ¬ (ta5 Fl) = fr := fun h => c62 ((nI_eq (a := (ta5 Fl)) (b := fr) (by omega) (by omega)).mpr h)
            refine lv_aload_n hx hb dX5_readNumber_65 rfl (lv_at hl 0 rfl) ?_
            refine gcVi (As := []) (rest := []) hx hb hml hown hts hl.1 hK (c_X5_isDigitHere l D t Y X U Z Fl hX) (gaV qM_X5_55 qI_X5_isDigitHere qS_X5_isDigitHere qK_X5 qC_X5_isDigitHere) hdv_X5_isDigitHere ⟨Nat.le_of_ble_eq_true rfl, Nat.le_of_ble_eq_true rfl⟩ hG (hG.recv hK) rfl (Nat.le_of_ble_eq_true rfl) ⟨Nat.zero_le _, Nat.zero_le _⟩ dX5_readNumber_66 hS hA (fun H locs hG _ _ hS => ?_)
            have hG : Tx D t Y X U Z Fl H := hG
            refine lv_if_eq (tgt := 83) hx hb dX5_readNumber_69 (by decide) (fun c69 => ?_) (fun c69 => ?_)
            · refine lv_iload hx hb dX5_readNumber_83 (lv_at hl 5 rfl) ?_
              refine lv_iload_n hx hb dX5_readNumber_85 rfl (lv_at hl 2 rfl) ?_
              refine lv_icmp_lt (tgt := 95) hx hb dX5_readNumber_86 (by decide) (fun c86 => ?_) (fun c86 => ?_)
              · refine lv_aload_n hx hb dX5_readNumber_95 rfl (lv_at hl 0 rfl) ?_
                refine lv_iload hx hb dX5_readNumber_96 (lv_at hl 4 rfl) ?_
                refine gcVv (As := [.int (nI fr)]) (rest := []) hx hb hml hown hts hl.1 hK (c_X5_fail l D t Y X U Z Fl (nI fr)) (gaV qM_X5_59 qI_X5_fail qS_X5_fail qK_X5 qC_X5_fail) hdv_X5_fail ⟨Nat.le_of_ble_eq_true rfl, Nat.le_of_ble_eq_true rfl⟩ hG (hG.recv hK) rfl (Nat.le_of_ble_eq_true rfl) ⟨Nat.zero_le _, Nat.zero_le _⟩ dX5_readNumber_98 hS hA (fun H locs hG _ _ hS => ?_)
                have hG : Tx D t Y X U Z (fF_X5_fail Fl (nI fr)) H := hG
                generalize eF6 : fF_X5_fail Fl (nI fr) = F6 at hG
                refine lv_iload hx hb dX5_readNumber_101 (lv_at hl 5 rfl) ?_
                subst eF6
                have hG9 : Tx D t Y X U Z (fF_X5_readNumber Y F d lo hi) H := by
                  rw [hfF, fF_X5_readNumber_L12]; (try dsimp only); (try rw [if_pos c22, if_neg c62, if_pos c86])
                  exact hG
                exact W.iret hx hb hr (fun t ht hW => gQi_of (by rw [hfR, fR_X5_readNumber_L12]; (try dsimp only); (try rw [if_pos c22, if_neg c62, if_pos c86]); (try rfl)) hG9 hS ht) hS.2.2 dX5_readNumber_103
              · refine lv_iload hx hb dX5_readNumber_89 (lv_at hl 5 rfl) ?_
                refine lv_iload_n hx hb dX5_readNumber_91 rfl (lv_at hl 3 rfl) ?_
                refine lv_icmp_le (tgt := 101) hx hb dX5_readNumber_92 (by decide) (fun c92 => ?_) (fun c92 => ?_)
                · refine lv_iload hx hb dX5_readNumber_101 (lv_at hl 5 rfl) ?_
                  have hG9 : Tx D t Y X U Z (fF_X5_readNumber Y F d lo hi) H := by
                    rw [hfF, fF_X5_readNumber_L12]; (try dsimp only); (try rw [if_pos c22, if_neg c62, if_neg c86, if_pos c92])
                    exact hG
                  exact W.iret hx hb hr (fun t ht hW => gQi_of (by rw [hfR, fR_X5_readNumber_L12]; (try dsimp only); (try rw [if_pos c22, if_neg c62, if_neg c86, if_pos c92]); (try rfl)) hG9 hS ht) hS.2.2 dX5_readNumber_103
                · refine lv_aload_n hx hb dX5_readNumber_95 rfl (lv_at hl 0 rfl) ?_
                  refine lv_iload hx hb dX5_readNumber_96 (lv_at hl 4 rfl) ?_
                  refine gcVv (As := [.int (nI fr)]) (rest := []) hx hb hml hown hts hl.1 hK (c_X5_fail l D t Y X U Z Fl (nI fr)) (gaV qM_X5_59 qI_X5_fail qS_X5_fail qK_X5 qC_X5_fail) hdv_X5_fail ⟨Nat.le_of_ble_eq_true rfl, Nat.le_of_ble_eq_true rfl⟩ hG (hG.recv hK) rfl (Nat.le_of_ble_eq_true rfl) ⟨Nat.zero_le _, Nat.zero_le _⟩ dX5_readNumber_98 hS hA (fun H locs hG _ _ hS => ?_)
                  have hG : Tx D t Y X U Z (fF_X5_fail Fl (nI fr)) H := hG
                  generalize eF7 : fF_X5_fail Fl (nI fr) = F7 at hG
                  refine lv_iload hx hb dX5_readNumber_101 (lv_at hl 5 rfl) ?_
                  subst eF7
                  have hG9 : Tx D t Y X U Z (fF_X5_readNumber Y F d lo hi) H := by
                    rw [hfF, fF_X5_readNumber_L12]; (try dsimp only); (try rw [if_pos c22, if_neg c62, if_neg c86, if_neg c92])
                    exact hG
                  exact W.iret hx hb hr (fun t ht hW => gQi_of (by rw [hfR, fR_X5_readNumber_L12]; (try dsimp only); (try rw [if_pos c22, if_neg c62, if_neg c86, if_neg c92]); (try rfl)) hG9 hS ht) hS.2.2 dX5_readNumber_103
            · exact absurd c22 c69
        · refine lv_bipush (v := 10) hx hb dX5_readNumber_25 (by decide) ?_
          refine lv_iload hx hb dX5_readNumber_27 (lv_at hl 5 rfl) ?_
          refine lv_imul hx hb dX5_readNumber_29 ?_
          refine lv_aload_n hx hb dX5_readNumber_30 rfl (lv_at hl 0 rfl) ?_
          refine gcVi (As := []) (rest := [.int (10 * num)]) hx hb hml hown hts hl.1 hK (c_X5_here l D t Y X U Z Fl hX) (gaV qM_X5_52 qI_X5_here qS_X5_here qK_X5 qC_X5_here) hdv_X5_here ⟨Nat.le_of_ble_eq_true rfl, Nat.le_of_ble_eq_true rfl⟩ hG (hG.recv hK) rfl (Nat.le_of_ble_eq_true rfl) ⟨Nat.zero_le _, Nat.zero_le _⟩ dX5_readNumber_31 hS hA (fun H locs hG _ _ hS => ?_)
          have hG : Tx D t Y X U Z Fl H := hG
          refine lv_iadd hx hb dX5_readNumber_34 ?_
          refine lv_bipush (v := 48) hx hb dX5_readNumber_35 (by decide) ?_
          refine lv_isub hx hb dX5_readNumber_37 ?_
          refine lv_topi (fun x8 ex8 => ?_)
          refine lv_istore (lv' := [(5, .int x8), (0, .ref t), (1, .int (nI d)), (2, .int lo), (3, .int hi), (4, .int (nI fr)), (6, .int (nI j))]) hx hb dX5_readNumber_38 hl (by decide) rfl (fun ls hl => ?_)
          refine lv_aload_n hx hb dX5_readNumber_40 rfl (lv_at hl 1 rfl) ?_
          refine lv_dup hx hb dX5_readNumber_41 rfl ?_
          refine getX 6 hx hb hts hown hK hG (by decide) qF_X5_28 rfl dX5_readNumber_42 ?_
          refine topN (n := (ta5 Fl)) hX.2.1 ?_
          refine lv_iconst (v := 1) hx hb dX5_readNumber_45 (by decide) ?_
          refine iaddN (a := (ta5 Fl)) (b := 1) hx hb dX5_readNumber_46 ?_
          refine putX 6 hx hb hts hown hK hG hS hA (by decide) qF_X5_28 rfl dX5_readNumber_47 (fun H locs hG hS => ?_)
          generalize eF9 : upd Fl 6 (nI ((ta5 Fl) + 1)) = F9 at hG
          refine lv_iinc (v := nI (j + 1)) (lv' := [(6, .int (nI (j + 1))), (5, .int x8), (0, .ref t), (1, .int (nI d)), (2, .int lo), (3, .int hi), (4, .int (nI fr))]) hx hb dX5_readNumber_50 hl (k := 6) rfl (nI_add j 1) (by decide) rfl (fun ls hl => ?_)
          refine lv_goto (tgt := 12) hx hb dX5_readNumber_53 (by decide) ?_
          subst eF9
          subst ex8
          exact ih fr _ (j + 1) _ _ _ _ (okX5_i hX (digit_lt5 c22) rfl) (by first | assumption | omega) (by first | assumption | omega) (by rw [hfF, fF_X5_readNumber_L12]; (try dsimp only); (try rw [if_neg c22]); (try rfl)) (by rw [hfR, fR_X5_readNumber_L12]; (try dsimp only); (try rw [if_neg c22]); (try rfl)) hG hS (lv_sub hl [2, 3, 4, 5, 6, 1, 0] rfl)
  refine lv_aload_n hx hb dX5_readNumber_0 rfl (lv_at hl 0 rfl) ?_
  refine getX 6 hx hb hts hown hK hG (by decide) qF_X5_28 rfl dX5_readNumber_1 ?_
  refine topN (n := (ta5 F)) hX0.2.1 ?_
  refine lv_istore (lv' := [(4, .int (nI (ta5 F))), (0, .ref t), (1, .int (nI d)), (2, .int lo), (3, .int hi)]) hx hb dX5_readNumber_4 hl (by decide) rfl (fun ls hl => ?_)
  refine lv_iconst (v := 0) hx hb dX5_readNumber_6 (by decide) ?_
  refine lv_istore (lv' := [(5, .int 0), (4, .int (nI (ta5 F))), (0, .ref t), (1, .int (nI d)), (2, .int lo), (3, .int hi)]) hx hb dX5_readNumber_7 hl (by decide) rfl (fun ls hl => ?_)
  refine lv_iconst (v := 0) hx hb dX5_readNumber_9 (by decide) ?_
  refine lv_istore (lv' := [(6, .int 0), (5, .int 0), (4, .int (nI (ta5 F))), (0, .ref t), (1, .int (nI d)), (2, .int lo), (3, .int hi)]) hx hb dX5_readNumber_10 hl (by decide) rfl (fun ls hl => ?_)
  exact L12 d (ta5 F) _ 0 _ _ _ _ hX0 (by omega) (by first | assumption | omega) (by unfold fF_X5_readNumber; (try dsimp only); (try rfl)) (by unfold fR_X5_readNumber; (try dsimp only); (try rfl)) hG hS (lv_sub hl [3, 4, 5, 6, 2, 1, 0] rfl)
