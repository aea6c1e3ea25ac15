theorem hdv_X7_readItem : yX7_readItem.cls = RX7 ∧ yX7_readItem.cls ≠ "java/lang/invoke/MethodHandle" ∧ yX7_readItem.cls ≠ "java/lang/invoke/VarHandle" ∧ (parseMethodDescriptor yX7_readItem.desc).map (fun d => d.parameters.length) = some 0 := by decide +kernel
def fF_X7_readItem (T : Nat → Int32) (F : Nat → Int32) : Nat → Int32 :=
  let F1 := fF_X7_takes T F 45
  let x2 := fR_X7_takes T F 45
  let F3 := fF_X7_readNumber T F1 3 0 300
  if fR_X7_readNumber T F1 3 0 300 = 0 then
    F3
  else
    if x2 = 0 then
      let x4 := F3 8
      let F5 := upd F3 9 x4
      let F6 := fF_X7_takes T F5 44
      if fR_X7_takes T F5 44 = 0 then
        F6
      else
        let F7 := fF_X7_readNumber T F6 3 0 100
        if fR_X7_readNumber T F6 3 0 100 = 0 then
          F7
        else
          let x8 := F7 8
          let F9 := upd F7 10 x8
          let F10 := upd F9 11 1
          let F11 := fF_X7_takes T F10 120
          if fR_X7_takes T F10 120 = 0 then
            let F12 := fF_X7_takes T F11 59
            F12
          else
            let F13 := fF_X7_readNumber T F11 2 1 99
            if fR_X7_readNumber T F11 2 1 99 = 0 then
              F13
            else
              let x14 := F13 8
              let F15 := upd F13 11 x14
              let F16 := fF_X7_takes T F15 59
              F16
    else
      let x17 := -(F3 8)
      let F18 := upd F3 9 x17
      let F19 := fF_X7_takes T F18 44
      if fR_X7_takes T F18 44 = 0 then
        F19
      else
        let F20 := fF_X7_readNumber T F19 3 0 100
        if fR_X7_readNumber T F19 3 0 100 = 0 then
          F20
        else
          let x21 := F20 8
          let F22 := upd F20 10 x21
          let F23 := upd F22 11 1
          let F24 := fF_X7_takes T F23 120
          if fR_X7_takes T F23 120 = 0 then
            let F25 := fF_X7_takes T F24 59
            F25
          else
            let F26 := fF_X7_readNumber T F24 2 1 99
            if fR_X7_readNumber T F24 2 1 99 = 0 then
              F26
            else
              let x27 := F26 8
              let F28 := upd F26 11 x27
              let F29 := fF_X7_takes T F28 59
              F29
def fR_X7_readItem (T : Nat → Int32) (F : Nat → Int32) : Int32 :=
  let F1 := fF_X7_takes T F 45
  let x2 := fR_X7_takes T F 45
  let F3 := fF_X7_readNumber T F1 3 0 300
  if fR_X7_readNumber T F1 3 0 300 = 0 then
    0
  else
    if x2 = 0 then
      let x4 := F3 8
      let F5 := upd F3 9 x4
      let F6 := fF_X7_takes T F5 44
      if fR_X7_takes T F5 44 = 0 then
        0
      else
        let F7 := fF_X7_readNumber T F6 3 0 100
        if fR_X7_readNumber T F6 3 0 100 = 0 then
          0
        else
          let x8 := F7 8
          let F9 := upd F7 10 x8
          let F10 := upd F9 11 1
          let F11 := fF_X7_takes T F10 120
          if fR_X7_takes T F10 120 = 0 then
            fR_X7_takes T F11 59
          else
            let F13 := fF_X7_readNumber T F11 2 1 99
            if fR_X7_readNumber T F11 2 1 99 = 0 then
              0
            else
              let x14 := F13 8
              let F15 := upd F13 11 x14
              fR_X7_takes T F15 59
    else
      let x17 := -(F3 8)
      let F18 := upd F3 9 x17
      let F19 := fF_X7_takes T F18 44
      if fR_X7_takes T F18 44 = 0 then
        0
      else
        let F20 := fF_X7_readNumber T F19 3 0 100
        if fR_X7_readNumber T F19 3 0 100 = 0 then
          0
        else
          let x21 := F20 8
          let F22 := upd F20 10 x21
          let F23 := upd F22 11 1
          let F24 := fF_X7_takes T F23 120
          if fR_X7_takes T F23 120 = 0 then
            fR_X7_takes T F24 59
          else
            let F26 := fF_X7_readNumber T F24 2 1 99
            if fR_X7_readNumber T F24 2 1 99 = 0 then
              0
            else
              let x27 := F26 8
              let F28 := upd F26 11 x27
              fR_X7_takes T F28 59
set_option maxHeartbeats 4000000 in
set_option maxRecDepth 100000 in
theorem c_X7_readItem (l : Launch) (D : va_G) (o : Nat) (P S V T F : Nat → Int32) (h : Int64) (hX : okX F) : Met l yX7_readItem (wA yX7_readItem cX7_readItem 2 (some .boolean)) (rmL 3) (gPc D [.ref o] (fun H => Md D o P S V T F h H)) (gQi (inM o) (fR_X7_readItem T F) (fun H => Md D o P S V T (fF_X7_readItem T F) h H)) 0 0 (inM o) := by
  refine Met.ofW (cc := cX7_readItem) (maxL := 2) (ret := (some .boolean)) (by decide) rfl ?_
  intro p e s m args below meth c s₁ B hml hv
  obtain ⟨hav, hG, hK⟩ := hv
  have hx := B.exec
  have hb := B.bytes
  have hr := B.returns
  have hts0 := atoms_spec (ws := wA yX7_readItem cX7_readItem 2 (some .boolean)) B.pre
  have hts : ∀ w ∈ AW, w.before _ s = true := fun w h => hts0 w (List.mem_cons_of_mem _ h)
  have hown : s.vm.findClass RX7 = some m.cls := findClass_of_methodNamed B.named
  have hlocks := B.notSynchronized
  have hA : ∀ q, (inM o) q → (inM o) q := fun _ h => h
  have hS : va_S (inM o) s.heap s.heap [] := va_S.rf
  have hG : Md D o P S V T F h s.heap := hG
  have hl := lv_entry ([.ref o]) (n := 2) (Nat.le_of_ble_eq_true rfl)
  refine W.eq (g2 := entryFrame m ([.ref o] : List Value).toArray 2) (by rw [hav]) ?_
  rw [lg_entry_eq]
  generalize (lg_sl ([.ref o]) ++ List.replicate (2 - (lg_sl ([.ref o])).length) Slot.unset).toArray = ls at hl ⊢
  have hl : lv_has ls 2 [(0, .ref o)] := hl
  refine lv_aload_n hx hb dX7_readItem_0 rfl (lv_at hl 0 rfl) ?_
  refine lv_bipush (v := 45) hx hb dX7_readItem_1 (by decide) ?_
  refine gcVi (As := [.int 45]) (rest := []) hx hb hml hown hts hl.1 hK (c_X7_takes l D o P S V T F h 45 hX) (gaV qM_X7_140 qI_X7_takes qS_X7_takes qK_X7 qC_X7_takes) hdv_X7_takes ⟨Nat.le_of_ble_eq_true rfl, Nat.le_of_ble_eq_true rfl⟩ hG (hG.recv hK) rfl (Nat.le_of_ble_eq_true rfl) ⟨Nat.zero_le _, Nat.zero_le _⟩ dX7_readItem_3 hS hA (fun H locs hG _ _ hS => ?_)
  have hG : Md D o P S V T (fF_X7_takes T F 45) h H := hG
  generalize eF1 : fF_X7_takes T F 45 = F1 at hG
  have hX : okX F1 := by rw [← eF1]; exact okX_takes (by decide) hX
  refine lv_topi (fun x2 ex2 => ?_)
  refine lv_istore_n (lv' := [(1, .int x2), (0, .ref o)]) hx hb dX7_readItem_6 rfl hl (by decide) rfl (fun ls hl => ?_)
  refine lv_aload_n hx hb dX7_readItem_7 rfl (lv_at hl 1 rfl) ?_
  refine lv_iconst (v := 3) hx hb dX7_readItem_8 (by decide) ?_
  refine lv_iconst (v := 0) hx hb dX7_readItem_9 (by decide) ?_
  refine lv_sipush (v := 300) hx hb dX7_readItem_10 (by decide) ?_
  refine gcVi (As := [.int 3, .int 0, .int 300]) (rest := []) hx hb hml hown hts hl.1 hK (c_X7_readNumber l D o P S V T F1 h 3 0 300 hX (by first | assumption | omega)) (gaV qM_X7_143 qI_X7_readNumber qS_X7_readNumber qK_X7 qC_X7_readNumber) hdv_X7_readNumber ⟨Nat.le_of_ble_eq_true rfl, Nat.le_of_ble_eq_true rfl⟩ hG (hG.recv hK) rfl (Nat.le_of_ble_eq_true rfl) ⟨Nat.zero_le _, Nat.zero_le _⟩ dX7_readItem_13 hS hA (fun H locs hG _ _ hS => ?_)
  have hG : Md D o P S V T (fF_X7_readNumber T F1 3 0 300) h H := hG
  generalize eF3 : fF_X7_readNumber T F1 3 0 300 = F3 at hG
  have hX : okX F3 := by rw [← eF3]; exact okX_num hX
  refine lv_if_ne (tgt := 21) hx hb dX7_readItem_16 (by decide) (fun c16 => ?_) (fun c16 => ?_)
  · refine lv_aload_n hx hb dX7_readItem_21 rfl (lv_at hl 1 rfl) ?_
    refine lv_iload_n hx hb dX7_readItem_22 rfl (lv_at hl 0 rfl) ?_
    refine lv_if_eq (tgt := 34) hx hb dX7_readItem_23 (by decide) (fun c23 => ?_) (fun c23 => ?_)
    · refine lv_aload_n hx hb dX7_readItem_34 rfl (lv_at hl 1 rfl) ?_
      refine getM 8 hx hb hts hown hK hG (by decide) qF_X7_133 rfl dX7_readItem_35 ?_
      refine lv_topi (fun x4 ex4 => ?_)
      refine putM 9 hx hb hts hown hK hG hS hA (by decide) qF_X7_146 rfl dX7_readItem_38 (fun H locs hG hS => ?_)
      generalize eF5 : upd F3 9 x4 = F5 at hG
      have hX : okX F5 := by rw [← eF5]; exact okX_u (by decide) hX
      refine lv_aload_n hx hb dX7_readItem_41 rfl (lv_at hl 1 rfl) ?_
      refine lv_bipush (v := 44) hx hb dX7_readItem_42 (by decide) ?_
      refine gcVi (As := [.int 44]) (rest := []) hx hb hml hown hts hl.1 hK (c_X7_takes l D o P S V T F5 h 44 hX) (gaV qM_X7_140 qI_X7_takes qS_X7_takes qK_X7 qC_X7_takes) hdv_X7_takes ⟨Nat.le_of_ble_eq_true rfl, Nat.le_of_ble_eq_true rfl⟩ hG (hG.recv hK) rfl (Nat.le_of_ble_eq_true rfl) ⟨Nat.zero_le _, Nat.zero_le _⟩ dX7_readItem_44 hS hA (fun H locs hG _ _ hS => ?_)
      have hG : Md D o P S V T (fF_X7_takes T F5 44) h H := hG
      generalize eF6 : fF_X7_takes T F5 44 = F6 at hG
      have hX : okX F6 := by rw [← eF6]; exact okX_takes (by decide) hX
      refine lv_if_eq (tgt := 61) hx hb dX7_readItem_47 (by decide) (fun c47 => ?_) (fun c47 => ?_)
      · refine lv_iconst (v := 0) hx hb dX7_readItem_61 (by decide) ?_
        subst eF6
        subst eF5
        subst ex4
        subst eF3
        subst ex2
        subst eF1
        have hG9 : Md D o P S V T (fF_X7_readItem T F) h H := by
          unfold fF_X7_readItem; (try dsimp only); (try rw [if_neg c16, if_pos c23, if_pos c47])
          exact hG
        exact W.zret hx hb hr (by first | with_reducible exact nb_of in_b | with_reducible exact nb_of takes_b | rfl) (fun t ht hW => gQi_of (by unfold fR_X7_readItem; (try dsimp only); (try rw [if_neg c16, if_pos c23, if_pos c47]); (try rfl)) hG9 hS ht) hS.2.2 dX7_readItem_62
      · refine lv_aload_n hx hb dX7_readItem_50 rfl (lv_at hl 1 rfl) ?_
        refine lv_iconst (v := 3) hx hb dX7_readItem_51 (by decide) ?_
        refine lv_iconst (v := 0) hx hb dX7_readItem_52 (by decide) ?_
        refine lv_bipush (v := 100) hx hb dX7_readItem_53 (by decide) ?_
        refine gcVi (As := [.int 3, .int 0, .int 100]) (rest := []) hx hb hml hown hts hl.1 hK (c_X7_readNumber l D o P S V T F6 h 3 0 100 hX (by first | assumption | omega)) (gaV qM_X7_143 qI_X7_readNumber qS_X7_readNumber qK_X7 qC_X7_readNumber) hdv_X7_readNumber ⟨Nat.le_of_ble_eq_true rfl, Nat.le_of_ble_eq_true rfl⟩ hG (hG.recv hK) rfl (Nat.le_of_ble_eq_true rfl) ⟨Nat.zero_le _, Nat.zero_le _⟩ dX7_readItem_55 hS hA (fun H locs hG _ _ hS => ?_)
        have hG : Md D o P S V T (fF_X7_readNumber T F6 3 0 100) h H := hG
        generalize eF7 : fF_X7_readNumber T F6 3 0 100 = F7 at hG
        have hX : okX F7 := by rw [← eF7]; exact okX_num hX
        refine lv_if_ne (tgt := 63) hx hb dX7_readItem_58 (by decide) (fun c58 => ?_) (fun c58 => ?_)
        · refine lv_aload_n hx hb dX7_readItem_63 rfl (lv_at hl 1 rfl) ?_
          refine lv_aload_n hx hb dX7_readItem_64 rfl (lv_at hl 1 rfl) ?_
          refine getM 8 hx hb hts hown hK hG (by decide) qF_X7_133 rfl dX7_readItem_65 ?_
          refine lv_topi (fun x8 ex8 => ?_)
          refine putM 10 hx hb hts hown hK hG hS hA (by decide) qF_X7_149 rfl dX7_readItem_68 (fun H locs hG hS => ?_)
          generalize eF9 : upd F7 10 x8 = F9 at hG
          have hX : okX F9 := by rw [← eF9]; exact okX_u (by decide) hX
          refine lv_aload_n hx hb dX7_readItem_71 rfl (lv_at hl 1 rfl) ?_
          refine lv_iconst (v := 1) hx hb dX7_readItem_72 (by decide) ?_
          refine putM 11 hx hb hts hown hK hG hS hA (by decide) qF_X7_152 rfl dX7_readItem_73 (fun H locs hG hS => ?_)
          generalize eF10 : upd F9 11 1 = F10 at hG
          have hX : okX F10 := by rw [← eF10]; exact okX_u (by decide) hX
          refine lv_aload_n hx hb dX7_readItem_76 rfl (lv_at hl 1 rfl) ?_
          refine lv_bipush (v := 120) hx hb dX7_readItem_77 (by decide) ?_
          refine gcVi (As := [.int 120]) (rest := []) hx hb hml hown hts hl.1 hK (c_X7_takes l D o P S V T F10 h 120 hX) (gaV qM_X7_140 qI_X7_takes qS_X7_takes qK_X7 qC_X7_takes) hdv_X7_takes ⟨Nat.le_of_ble_eq_true rfl, Nat.le_of_ble_eq_true rfl⟩ hG (hG.recv hK) rfl (Nat.le_of_ble_eq_true rfl) ⟨Nat.zero_le _, Nat.zero_le _⟩ dX7_readItem_79 hS hA (fun H locs hG _ _ hS => ?_)
          have hG : Md D o P S V T (fF_X7_takes T F10 120) h H := hG
          generalize eF11 : fF_X7_takes T F10 120 = F11 at hG
          have hX : okX F11 := by rw [← eF11]; exact okX_takes (by decide) hX
          refine lv_if_eq (tgt := 106) hx hb dX7_readItem_82 (by decide) (fun c82 => ?_) (fun c82 => ?_)
          · refine lv_aload_n hx hb dX7_readItem_106 rfl (lv_at hl 1 rfl) ?_
            refine lv_bipush (v := 59) hx hb dX7_readItem_107 (by decide) ?_
            refine gcVi (As := [.int 59]) (rest := []) hx hb hml hown hts hl.1 hK (c_X7_takes l D o P S V T F11 h 59 hX) (gaV qM_X7_140 qI_X7_takes qS_X7_takes qK_X7 qC_X7_takes) hdv_X7_takes ⟨Nat.le_of_ble_eq_true rfl, Nat.le_of_ble_eq_true rfl⟩ hG (hG.recv hK) rfl (Nat.le_of_ble_eq_true rfl) ⟨Nat.zero_le _, Nat.zero_le _⟩ dX7_readItem_109 hS hA (fun H locs hG _ _ hS => ?_)
            have hG : Md D o P S V T (fF_X7_takes T F11 59) h H := hG
            generalize eF12 : fF_X7_takes T F11 59 = F12 at hG
            subst eF12
            subst eF11
            subst eF10
            subst eF9
            subst ex8
            subst eF7
            subst eF6
            subst eF5
            subst ex4
            subst eF3
            subst ex2
            subst eF1
            have hG9 : Md D o P S V T (fF_X7_readItem T F) h H := by
              unfold fF_X7_readItem; (try dsimp only); (try rw [if_neg c16, if_pos c23, if_neg c47, if_neg c58, if_pos c82])
              exact hG
            exact W.zret hx hb hr (by first | with_reducible exact nb_of in_b | with_reducible exact nb_of takes_b | rfl) (fun t ht hW => gQi_of (by unfold fR_X7_readItem; (try dsimp only); (try rw [if_neg c16, if_pos c23, if_neg c47, if_neg c58, if_pos c82]); (try rfl)) hG9 hS ht) hS.2.2 dX7_readItem_112
          · refine lv_aload_n hx hb dX7_readItem_85 rfl (lv_at hl 1 rfl) ?_
            refine lv_iconst (v := 2) hx hb dX7_readItem_86 (by decide) ?_
            refine lv_iconst (v := 1) hx hb dX7_readItem_87 (by decide) ?_
            refine lv_bipush (v := 99) hx hb dX7_readItem_88 (by decide) ?_
            refine gcVi (As := [.int 2, .int 1, .int 99]) (rest := []) hx hb hml hown hts hl.1 hK (c_X7_readNumber l D o P S V T F11 h 2 1 99 hX (by first | assumption | omega)) (gaV qM_X7_143 qI_X7_readNumber qS_X7_readNumber qK_X7 qC_X7_readNumber) hdv_X7_readNumber ⟨Nat.le_of_ble_eq_true rfl, Nat.le_of_ble_eq_true rfl⟩ hG (hG.recv hK) rfl (Nat.le_of_ble_eq_true rfl) ⟨Nat.zero_le _, Nat.zero_le _⟩ dX7_readItem_90 hS hA (fun H locs hG _ _ hS => ?_)
            have hG : Md D o P S V T (fF_X7_readNumber T F11 2 1 99) h H := hG
            generalize eF13 : fF_X7_readNumber T F11 2 1 99 = F13 at hG
            have hX : okX F13 := by rw [← eF13]; exact okX_num hX
            refine lv_if_ne (tgt := 98) hx hb dX7_readItem_93 (by decide) (fun c93 => ?_) (fun c93 => ?_)
            · refine lv_aload_n hx hb dX7_readItem_98 rfl (lv_at hl 1 rfl) ?_
              refine lv_aload_n hx hb dX7_readItem_99 rfl (lv_at hl 1 rfl) ?_
              refine getM 8 hx hb hts hown hK hG (by decide) qF_X7_133 rfl dX7_readItem_100 ?_
              refine lv_topi (fun x14 ex14 => ?_)
              refine putM 11 hx hb hts hown hK hG hS hA (by decide) qF_X7_152 rfl dX7_readItem_103 (fun H locs hG hS => ?_)
              generalize eF15 : upd F13 11 x14 = F15 at hG
              have hX : okX F15 := by rw [← eF15]; exact okX_u (by decide) hX
              refine lv_aload_n hx hb dX7_readItem_106 rfl (lv_at hl 1 rfl) ?_
              refine lv_bipush (v := 59) hx hb dX7_readItem_107 (by decide) ?_
              refine gcVi (As := [.int 59]) (rest := []) hx hb hml hown hts hl.1 hK (c_X7_takes l D o P S V T F15 h 59 hX) (gaV qM_X7_140 qI_X7_takes qS_X7_takes qK_X7 qC_X7_takes) hdv_X7_takes ⟨Nat.le_of_ble_eq_true rfl, Nat.le_of_ble_eq_true rfl⟩ hG (hG.recv hK) rfl (Nat.le_of_ble_eq_true rfl) ⟨Nat.zero_le _, Nat.zero_le _⟩ dX7_readItem_109 hS hA (fun H locs hG _ _ hS => ?_)
              have hG : Md D o P S V T (fF_X7_takes T F15 59) h H := hG
              generalize eF16 : fF_X7_takes T F15 59 = F16 at hG
              subst eF16
              subst eF15
              subst ex14
              subst eF13
              subst eF11
              subst eF10
              subst eF9
              subst ex8
              subst eF7
              subst eF6
              subst eF5
              subst ex4
              subst eF3
              subst ex2
              subst eF1
              have hG9 : Md D o P S V T (fF_X7_readItem T F) h H := by
                unfold fF_X7_readItem; (try dsimp only); (try rw [if_neg c16, if_pos c23, if_neg c47, if_neg c58, if_neg c82, if_neg c93])
                exact hG
              exact W.zret hx hb hr (by first | with_reducible exact nb_of in_b | with_reducible exact nb_of takes_b | rfl) (fun t ht hW => gQi_of (by unfold fR_X7_readItem; (try dsimp only); (try rw [if_neg c16, if_pos c23, if_neg c47, if_neg c58, if_neg c82, if_neg c93]); (try rfl)) hG9 hS ht) hS.2.2 dX7_readItem_112
            · refine lv_iconst (v := 0) hx hb dX7_readItem_96 (by decide) ?_
              subst eF13
              subst eF11
              subst eF10
              subst eF9
              subst ex8
              subst eF7
              subst eF6
              subst eF5
              subst ex4
              subst eF3
              subst ex2
              subst eF1
              have hG9 : Md D o P S V T (fF_X7_readItem T F) h H := by
                unfold fF_X7_readItem; (try dsimp only); (try rw [if_neg c16, if_pos c23, if_neg c47, if_neg c58, if_neg c82, if_pos c93])
                exact hG
              exact W.zret hx hb hr (by first | with_reducible exact nb_of in_b | with_reducible exact nb_of takes_b | rfl) (fun t ht hW => gQi_of (by unfold fR_X7_readItem; (try dsimp only); (try rw [if_neg c16, if_pos c23, if_neg c47, if_neg c58, if_neg c82, if_pos c93]); (try rfl)) hG9 hS ht) hS.2.2 dX7_readItem_97
        · refine lv_iconst (v := 0) hx hb dX7_readItem_61 (by decide) ?_
          subst eF7
          subst eF6
          subst eF5
          subst ex4
          subst eF3
          subst ex2
          subst eF1
          have hG9 : Md D o P S V T (fF_X7_readItem T F) h H := by
            unfold fF_X7_readItem; (try dsimp only); (try rw [if_neg c16, if_pos c23, if_neg c47, if_pos c58])
            exact hG
          exact W.zret hx hb hr (by first | with_reducible exact nb_of in_b | with_reducible exact nb_of takes_b | rfl) (fun t ht hW => gQi_of (by unfold fR_X7_readItem; (try dsimp only); (try rw [if_neg c16, if_pos c23, if_neg c47, if_pos c58]); (try rfl)) hG9 hS ht) hS.2.2 dX7_readItem_62
    · refine lv_aload_n hx hb dX7_readItem_26 rfl (lv_at hl 1 rfl) ?_
      refine getM 8 hx hb hts hown hK hG (by decide) qF_X7_133 rfl dX7_readItem_27 ?_
      refine lv_ineg hx hb dX7_readItem_30 ?_
      refine lv_goto (tgt := 38) hx hb dX7_readItem_31 (by decide) ?_
      refine lv_topi (fun x17 ex17 => ?_)
      refine putM 9 hx hb hts hown hK hG hS hA (by decide) qF_X7_146 rfl dX7_readItem_38 (fun H locs hG hS => ?_)
      generalize eF18 : upd F3 9 x17 = F18 at hG
      have hX : okX F18 := by rw [← eF18]; exact okX_u (by decide) hX
      refine lv_aload_n hx hb dX7_readItem_41 rfl (lv_at hl 1 rfl) ?_
      refine lv_bipush (v := 44) hx hb dX7_readItem_42 (by decide) ?_
      refine gcVi (As := [.int 44]) (rest := []) hx hb hml hown hts hl.1 hK (c_X7_takes l D o P S V T F18 h 44 hX) (gaV qM_X7_140 qI_X7_takes qS_X7_takes qK_X7 qC_X7_takes) hdv_X7_takes ⟨Nat.le_of_ble_eq_true rfl, Nat.le_of_ble_eq_true rfl⟩ hG (hG.recv hK) rfl (Nat.le_of_ble_eq_true rfl) ⟨Nat.zero_le _, Nat.zero_le _⟩ dX7_readItem_44 hS hA (fun H locs hG _ _ hS => ?_)
      have hG : Md D o P S V T (fF_X7_takes T F18 44) h H := hG
      generalize eF19 : fF_X7_takes T F18 44 = F19 at hG
      have hX : okX F19 := by rw [← eF19]; exact okX_takes (by decide) hX
      refine lv_if_eq (tgt := 61) hx hb dX7_readItem_47 (by decide) (fun c47 => ?_) (fun c47 => ?_)
      · refine lv_iconst (v := 0) hx hb dX7_readItem_61 (by decide) ?_
        subst eF19
        subst eF18
        subst ex17
        subst eF3
        subst ex2
        subst eF1
        have hG9 : Md D o P S V T (fF_X7_readItem T F) h H := by
          unfold fF_X7_readItem; (try dsimp only); (try rw [if_neg c16, if_neg c23, if_pos c47])
          exact hG
        exact W.zret hx hb hr (by first | with_reducible exact nb_of in_b | with_reducible exact nb_of takes_b | rfl) (fun t ht hW => gQi_of (by unfold fR_X7_readItem; (try dsimp only); (try rw [if_neg c16, if_neg c23, if_pos c47]); (try rfl)) hG9 hS ht) hS.2.2 dX7_readItem_62
      · refine lv_aload_n hx hb dX7_readItem_50 rfl (lv_at hl 1 rfl) ?_
        refine lv_iconst (v := 3) hx hb dX7_readItem_51 (by decide) ?_
        refine lv_iconst (v := 0) hx hb dX7_readItem_52 (by decide) ?_
        refine lv_bipush (v := 100) hx hb dX7_readItem_53 (by decide) ?_
        refine gcVi (As := [.int 3, .int 0, .int 100]) (rest := []) hx hb hml hown hts hl.1 hK (c_X7_readNumber l D o P S V T F19 h 3 0 100 hX (by first | assumption | omega)) (gaV qM_X7_143 qI_X7_readNumber qS_X7_readNumber qK_X7 qC_X7_readNumber) hdv_X7_readNumber ⟨Nat.le_of_ble_eq_true rfl, Nat.le_of_ble_eq_true rfl⟩ hG (hG.recv hK) rfl (Nat.le_of_ble_eq_true rfl) ⟨Nat.zero_le _, Nat.zero_le _⟩ dX7_readItem_55 hS hA (fun H locs hG _ _ hS => ?_)
        have hG : Md D o P S V T (fF_X7_readNumber T F19 3 0 100) h H := hG
        generalize eF20 : fF_X7_readNumber T F19 3 0 100 = F20 at hG
        have hX : okX F20 := by rw [← eF20]; exact okX_num hX
        refine lv_if_ne (tgt := 63) hx hb dX7_readItem_58 (by decide) (fun c58 => ?_) (fun c58 => ?_)
        · refine lv_aload_n hx hb dX7_readItem_63 rfl (lv_at hl 1 rfl) ?_
          refine lv_aload_n hx hb dX7_readItem_64 rfl (lv_at hl 1 rfl) ?_
          refine getM 8 hx hb hts hown hK hG (by decide) qF_X7_133 rfl dX7_readItem_65 ?_
          refine lv_topi (fun x21 ex21 => ?_)
          refine putM 10 hx hb hts hown hK hG hS hA (by decide) qF_X7_149 rfl dX7_readItem_68 (fun H locs hG hS => ?_)
          generalize eF22 : upd F20 10 x21 = F22 at hG
          have hX : okX F22 := by rw [← eF22]; exact okX_u (by decide) hX
          refine lv_aload_n hx hb dX7_readItem_71 rfl (lv_at hl 1 rfl) ?_
          refine lv_iconst (v := 1) hx hb dX7_readItem_72 (by decide) ?_
          refine putM 11 hx hb hts hown hK hG hS hA (by decide) qF_X7_152 rfl dX7_readItem_73 (fun H locs hG hS => ?_)
          generalize eF23 : upd F22 11 1 = F23 at hG
          have hX : okX F23 := by rw [← eF23]; exact okX_u (by decide) hX
          refine lv_aload_n hx hb dX7_readItem_76 rfl (lv_at hl 1 rfl) ?_
          refine lv_bipush (v := 120) hx hb dX7_readItem_77 (by decide) ?_
          refine gcVi (As := [.int 120]) (rest := []) hx hb hml hown hts hl.1 hK (c_X7_takes l D o P S V T F23 h 120 hX) (gaV qM_X7_140 qI_X7_takes qS_X7_takes qK_X7 qC_X7_takes) hdv_X7_takes ⟨Nat.le_of_ble_eq_true rfl, Nat.le_of_ble_eq_true rfl⟩ hG (hG.recv hK) rfl (Nat.le_of_ble_eq_true rfl) ⟨Nat.zero_le _, Nat.zero_le _⟩ dX7_readItem_79 hS hA (fun H locs hG _ _ hS => ?_)
          have hG : Md D o P S V T (fF_X7_takes T F23 120) h H := hG
          generalize eF24 : fF_X7_takes T F23 120 = F24 at hG
          have hX : okX F24 := by rw [← eF24]; exact okX_takes (by decide) hX
          refine lv_if_eq (tgt := 106) hx hb dX7_readItem_82 (by decide) (fun c82 => ?_) (fun c82 => ?_)
          · refine lv_aload_n hx hb dX7_readItem_106 rfl (lv_at hl 1 rfl) ?_
            refine lv_bipush (v := 59) hx hb dX7_readItem_107 (by decide) ?_
            refine gcVi (As := [.int 59]) (rest := []) hx hb hml hown hts hl.1 hK (c_X7_takes l D o P S V T F24 h 59 hX) (gaV qM_X7_140 qI_X7_takes qS_X7_takes qK_X7 qC_X7_takes) hdv_X7_takes ⟨Nat.le_of_ble_eq_true rfl, Nat.le_of_ble_eq_true rfl⟩ hG (hG.recv hK) rfl (Nat.le_of_ble_eq_true rfl) ⟨Nat.zero_le _, Nat.zero_le _⟩ dX7_readItem_109 hS hA (fun H locs hG _ _ hS => ?_)
            have hG : Md D o P S V T (fF_X7_takes T F24 59) h H := hG
            generalize eF25 : fF_X7_takes T F24 59 = F25 at hG
            subst eF25
            subst eF24
            subst eF23
            subst eF22
            subst ex21
            subst eF20
            subst eF19
            subst eF18
            subst ex17
            subst eF3
            subst ex2
            subst eF1
            have hG9 : Md D o P S V T (fF_X7_readItem T F) h H := by
              unfold fF_X7_readItem; (try dsimp only); (try rw [if_neg c16, if_neg c23, if_neg c47, if_neg c58, if_pos c82])
              exact hG
            exact W.zret hx hb hr (by first | with_reducible exact nb_of in_b | with_reducible exact nb_of takes_b | rfl) (fun t ht hW => gQi_of (by unfold fR_X7_readItem; (try dsimp only); (try rw [if_neg c16, if_neg c23, if_neg c47, if_neg c58, if_pos c82]); (try rfl)) hG9 hS ht) hS.2.2 dX7_readItem_112
          · refine lv_aload_n hx hb dX7_readItem_85 rfl (lv_at hl 1 rfl) ?_
            refine lv_iconst (v := 2) hx hb dX7_readItem_86 (by decide) ?_
            refine lv_iconst (v := 1) hx hb dX7_readItem_87 (by decide) ?_
            refine lv_bipush (v := 99) hx hb dX7_readItem_88 (by decide) ?_
            refine gcVi (As := [.int 2, .int 1, .int 99]) (rest := []) hx hb hml hown hts hl.1 hK (c_X7_readNumber l D o P S V T F24 h 2 1 99 hX (by first | assumption | omega)) (gaV qM_X7_143 qI_X7_readNumber qS_X7_readNumber qK_X7 qC_X7_readNumber) hdv_X7_readNumber ⟨Nat.le_of_ble_eq_true rfl, Nat.le_of_ble_eq_true rfl⟩ hG (hG.recv hK) rfl (Nat.le_of_ble_eq_true rfl) ⟨Nat.zero_le _, Nat.zero_le _⟩ dX7_readItem_90 hS hA (fun H locs hG _ _ hS => ?_)
            have hG : Md D o P S V T (fF_X7_readNumber T F24 2 1 99) h H := hG
            generalize eF26 : fF_X7_readNumber T F24 2 1 99 = F26 at hG
            have hX : okX F26 := by rw [← eF26]; exact okX_num hX
            refine lv_if_ne (tgt := 98) hx hb dX7_readItem_93 (by decide) (fun c93 => ?_) (fun c93 => ?_)
            · refine lv_aload_n hx hb dX7_readItem_98 rfl (lv_at hl 1 rfl) ?_
              refine lv_aload_n hx hb dX7_readItem_99 rfl (lv_at hl 1 rfl) ?_
              refine getM 8 hx hb hts hown hK hG (by decide) qF_X7_133 rfl dX7_readItem_100 ?_
              refine lv_topi (fun x27 ex27 => ?_)
              refine putM 11 hx hb hts hown hK hG hS hA (by decide) qF_X7_152 rfl dX7_readItem_103 (fun H locs hG hS => ?_)
              generalize eF28 : upd F26 11 x27 = F28 at hG
              have hX : okX F28 := by rw [← eF28]; exact okX_u (by decide) hX
              refine lv_aload_n hx hb dX7_readItem_106 rfl (lv_at hl 1 rfl) ?_
              refine lv_bipush (v := 59) hx hb dX7_readItem_107 (by decide) ?_
              refine gcVi (As := [.int 59]) (rest := []) hx hb hml hown hts hl.1 hK (c_X7_takes l D o P S V T F28 h 59 hX) (gaV qM_X7_140 qI_X7_takes qS_X7_takes qK_X7 qC_X7_takes) hdv_X7_takes ⟨Nat.le_of_ble_eq_true rfl, Nat.le_of_ble_eq_true rfl⟩ hG (hG.recv hK) rfl (Nat.le_of_ble_eq_true rfl) ⟨Nat.zero_le _, Nat.zero_le _⟩ dX7_readItem_109 hS hA (fun H locs hG _ _ hS => ?_)
              have hG : Md D o P S V T (fF_X7_takes T F28 59) h H := hG
              generalize eF29 : fF_X7_takes T F28 59 = F29 at hG
              subst eF29
              subst eF28
              subst ex27
              subst eF26
              subst eF24
              subst eF23
              subst eF22
              subst ex21
              subst eF20
              subst eF19
              subst eF18
              subst ex17
              subst eF3
              subst ex2
              subst eF1
              have hG9 : Md D o P S V T (fF_X7_readItem T F) h H := by
                unfold fF_X7_readItem; (try dsimp only); (try rw [if_neg c16, if_neg c23, if_neg c47, if_neg c58, if_neg c82, if_neg c93])
                exact hG
              exact W.zret hx hb hr (by first | with_reducible exact nb_of in_b | with_reducible exact nb_of takes_b | rfl) (fun t ht hW => gQi_of (by unfold fR_X7_readItem; (try dsimp only); (try rw [if_neg c16, if_neg c23, if_neg c47, if_neg c58, if_neg c82, if_neg c93]); (try rfl)) hG9 hS ht) hS.2.2 dX7_readItem_112
            · refine lv_iconst (v := 0) hx hb dX7_readItem_96 (by decide) ?_
              subst eF26
              subst eF24
              subst eF23
              subst eF22
              subst ex21
              subst eF20
              subst eF19
              subst eF18
              subst ex17
              subst eF3
              subst ex2
              subst eF1
              have hG9 : Md D o P S V T (fF_X7_readItem T F) h H := by
                unfold fF_X7_readItem; (try dsimp only); (try rw [if_neg c16, if_neg c23, if_neg c47, if_neg c58, if_neg c82, if_pos c93])
                exact hG
              exact W.zret hx hb hr (by first | with_reducible exact nb_of in_b | with_reducible exact nb_of takes_b | rfl) (fun t ht hW => gQi_of (by unfold fR_X7_readItem; (try dsimp only); (try rw [if_neg c16, if_neg c23, if_neg c47, if_neg c58, if_neg c82, if_pos c93]); (try rfl)) hG9 hS ht) hS.2.2 dX7_readItem_97
        · refine lv_iconst (v := 0) hx hb dX7_readItem_61 (by decide) ?_
          subst eF20
          subst eF19
          subst eF18
          subst ex17
          subst eF3
          subst ex2
          subst eF1
          have hG9 : Md D o P S V T (fF_X7_readItem T F) h H := by
            unfold fF_X7_readItem; (try dsimp only); (try rw [if_neg c16, if_neg c23, if_neg c47, if_pos c58])
            exact hG
          exact W.zret hx hb hr (by first | with_reducible exact nb_of in_b | with_reducible exact nb_of takes_b | rfl) (fun t ht hW => gQi_of (by unfold fR_X7_readItem; (try dsimp only); (try rw [if_neg c16, if_neg c23, if_neg c47, if_pos c58]); (try rfl)) hG9 hS ht) hS.2.2 dX7_readItem_62
  · refine lv_iconst (v := 0) hx hb dX7_readItem_19 (by decide) ?_
    subst eF3
    subst ex2
    subst eF1
    have hG9 : Md D o P S V T (fF_X7_readItem T F) h H := by
      unfold fF_X7_readItem; (try dsimp only); (try rw [if_pos c16])
      exact hG
    exact W.zret hx hb hr (by first | with_reducible exact nb_of in_b | with_reducible exact nb_of takes_b | rfl) (fun t ht hW => gQi_of (by unfold fR_X7_readItem; (try dsimp only); (try rw [if_pos c16]); (try rfl)) hG9 hS ht) hS.2.2 dX7_readItem_20
