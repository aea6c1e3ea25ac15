theorem hdv_X0_letWork : yX0_letWork.cls = RX0 ∧ yX0_letWork.cls ≠ "java/lang/invoke/MethodHandle" ∧ yX0_letWork.cls ≠ "java/lang/invoke/VarHandle" ∧ (parseMethodDescriptor yX0_letWork.desc).map (fun d => d.parameters.length) = some 1 := by decide +kernel
def fP_X0_letWork_L22 (q : Nat) : Nat → Int32 → Int32 → Nat → (Nat → Int32) → Nat → Int32
  | 0, mt, mo, j, Pl =>
    Pl
  | k + 1, mt, mo, j, Pl =>
    if mo = 0 then
      Pl
    else
      if mt ≤ 0 then
        Pl
      else
        if Pl (169 + 20 * q + 5) = 0 then
          if fR_X0_isDue Pl (rt Pl q (pa Pl q)) = 0 then
            let P12 := fP_X1_goOn Pl q
            let x13 := fR_X1_goOn Pl q
            fP_X0_letWork_L22 q k mt x13 (j + 1) P12
          else
            let P7 := fP_X1_plowOn Pl q (Pl (9 + 8 * (rt Pl q (pa Pl q)) + 0)) mt
            let x8 := mt - (fR_X1_plowOn Pl q (Pl (9 + 8 * (rt Pl q (pa Pl q)) + 0)) mt)
            if P7 (169 + 20 * q + 5) = P7 (9 + 8 * (rt Pl q (pa Pl q)) + 0) then
              let P9 := fP_X0_clear P7 (rt Pl q (pa Pl q)) q
              let P10 := fP_X1_goOn P9 q
              let x11 := fR_X1_goOn P9 q
              fP_X0_letWork_L22 q k x8 x11 (j + 1) P10
            else
              fP_X0_letWork_L22 q k x8 mo (j + 1) P7
        else
          let P2 := fP_X1_plowOn Pl q (Pl (9 + 8 * (rt Pl q (pa Pl q)) + 0)) mt
          let x3 := mt - (fR_X1_plowOn Pl q (Pl (9 + 8 * (rt Pl q (pa Pl q)) + 0)) mt)
          if P2 (169 + 20 * q + 5) = P2 (9 + 8 * (rt Pl q (pa Pl q)) + 0) then
            let P4 := fP_X0_clear P2 (rt Pl q (pa Pl q)) q
            let P5 := fP_X1_goOn P4 q
            let x6 := fR_X1_goOn P4 q
            fP_X0_letWork_L22 q k x3 x6 (j + 1) P5
          else
            fP_X0_letWork_L22 q k x3 mo (j + 1) P2
def fP_X0_letWork (P : Nat → Int32) (q : Nat) : Nat → Int32 :=
  if fR_X1_isAtStart P q = 0 then
    let x1 := P (169 + 20 * q + 0)
    fP_X0_letWork_L22 q 12 x1 1 0 P
  else
    let P14 := fP_X0_fill P q
    let x15 := P14 (169 + 20 * q + 0)
    fP_X0_letWork_L22 q 12 x15 1 0 P14
set_option maxHeartbeats 4000000 in
set_option maxRecDepth 100000 in
theorem c_X0_letWork (l : Launch) (D : va_G) (b : Nat) (P : Nat → Int32) (q : Nat) (hq : q < 3) (hW0 : okW P q) : Met l yX0_letWork (wA yX0_letWork cX0_letWork 6 none) (rmL 2) (gPc D [.ref b, .ref (b + 24 + 2 * q)] (fun H => Graph D b P H)) (gQv (inG b) (fun H => Graph D b (fP_X0_letWork P q) H)) 0 0 (inG b) := by
  refine Met.ofW (cc := cX0_letWork) (maxL := 6) (ret := none) (by decide) rfl ?_
  intro p e s m args below meth c s₁ B hml hv
  obtain ⟨hav, hG, hK⟩ := hv
  have hx := B.exec
  have hb := B.bytes
  have hr := B.returns
  have hts0 := atoms_spec (ws := wA yX0_letWork cX0_letWork 6 none) B.pre
  have hts : ∀ w ∈ AW, w.before _ s = true := fun w h => hts0 w (List.mem_cons_of_mem _ h)
  have hown : s.vm.findClass RX0 = some m.cls := findClass_of_methodNamed B.named
  have hlocks := B.notSynchronized
  have hA : ∀ q, (inG b) q → (inG b) q := fun _ h => h
  have hS : va_S (inG b) s.heap s.heap [] := va_S.rf
  have hG : Graph D b P s.heap := hG
  have hl := lv_entry ([.ref b, .ref (b + 24 + 2 * q)]) (n := 6) (Nat.le_of_ble_eq_true rfl)
  refine W.eq (g2 := entryFrame m ([.ref b, .ref (b + 24 + 2 * q)] : List Value).toArray 6) (by rw [hav]) ?_
  rw [lg_entry_eq]
  generalize (lg_sl ([.ref b, .ref (b + 24 + 2 * q)]) ++ List.replicate (6 - (lg_sl ([.ref b, .ref (b + 24 + 2 * q)])).length) Slot.unset).toArray = ls at hl ⊢
  have hl : lv_has ls 6 [(0, .ref b), (1, .ref (b + 24 + 2 * q))] := hl
  have L22 : ∀ (k : Nat) (mt : Int32) (mo : Int32) (j : Nat) (Pl : Nat → Int32) (H : Heap) (locs : List Loc) (ls : Array Slot) (hW : okW Pl q) (hik : j + k = 12) (hfP : fP_X0_letWork P q = fP_X0_letWork_L22 q k mt mo j Pl) (hG : Graph D b Pl H) (hS : va_S (inG b) s.heap H locs) (hl : lv_has ls 6 [(0, .ref b), (1, .ref (b + 24 + 2 * q)), (2, .int mt), (3, .int mo), (4, .int (nI j))]), W p l e (headSpec (wA yX0_letWork cX0_letWork 6 none) (rmL 2)).room s m args below meth c H locs 0 0 (MQ below (gQv (inG b) (fun H => Graph D b (fP_X0_letWork P q) H)) args s 0 0 (inG b)) (F0 m 22 ls []) := by
    intro k
    induction k with
    | zero =>
      intro mt mo j Pl H locs ls hW hik hfP hG hS hl
      refine lv_iload hx hb dX0_letWork_22 (lv_at hl 4 rfl) ?_
      refine lv_bipush (v := 12) hx hb dX0_letWork_24 (by decide) ?_
      refine lv_icmp_ge (tgt := 120) hx hb dX0_letWork_26 (by decide) (fun c26 => ?_) (fun c26 => ?_)
      · have c26 : 12 ≤ j := (nI_leI (a := 12) (b := j) (by omega) (by omega)).mp c26
        have hG9 : Graph D b (fP_X0_letWork P q) H := by
          rw [hfP, fP_X0_letWork_L22]; (try dsimp only)
          exact hG
        exact W.vret hx hb hr (fun t ht hW => gQv_of hG9 hS ht) hS.2.2 dX0_letWork_120
      · have c26 : ¬ 12 ≤ j := fun h => c26 ((nI_leI (a := 12) (b := j) (by omega) (by omega)).mpr h)
        exfalso; omega
    | succ k ih =>
      intro mt mo j Pl H locs ls hW hik hfP hG hS hl
      refine lv_iload hx hb dX0_letWork_22 (lv_at hl 4 rfl) ?_
      refine lv_bipush (v := 12) hx hb dX0_letWork_24 (by decide) ?_
      refine lv_icmp_ge (tgt := 120) hx hb dX0_letWork_26 (by decide) (fun c26 => ?_) (fun c26 => ?_)
      · have c26 : 12 ≤ j := (nI_leI (a := 12) (b := j) (by omega) (by omega)).mp c26
        exfalso; omega
      · have c26 : ¬ 12 ≤ j := fun h => c26 ((nI_leI (a := 12) (b := j) (by omega) (by omega)).mpr h)
        refine lv_iload_n hx hb dX0_letWork_29 rfl (lv_at hl 3 rfl) ?_
        refine lv_if_eq (tgt := 120) hx hb dX0_letWork_30 (by decide) (fun c30 => ?_) (fun c30 => ?_)
        · have hG9 : Graph D b (fP_X0_letWork P q) H := by
            rw [hfP, fP_X0_letWork_L22]; (try dsimp only); (try rw [if_pos c30])
            exact hG
          exact W.vret hx hb hr (fun t ht hW => gQv_of hG9 hS ht) hS.2.2 dX0_letWork_120
        · refine lv_iload_n hx hb dX0_letWork_33 rfl (lv_at hl 2 rfl) ?_
          refine lv_if_le (tgt := 120) hx hb dX0_letWork_34 (by decide) (fun c34 => ?_) (fun c34 => ?_)
          · have hG9 : Graph D b (fP_X0_letWork P q) H := by
              rw [hfP, fP_X0_letWork_L22]; (try dsimp only); (try rw [if_neg c30, if_pos c34])
              exact hG
            exact W.vret hx hb hr (fun t ht hW => gQv_of hG9 hS ht) hS.2.2 dX0_letWork_120
          · have hs20 := (hW.2.2.2.2 _ hW.2.2.2.1).2.1
            have hrs := (hW.2.2.2.2 _ hW.2.2.2.1).2.2
            refine lv_aload_n hx hb dX0_letWork_37 rfl (lv_at hl 0 rfl) ?_
            refine getCs hx hb hts hown hK hG qF_X0_11 dX0_letWork_38 ?_
            refine lv_aload_n hx hb dX0_letWork_41 rfl (lv_at hl 1 rfl) ?_
            refine getPr (i := q) hx hb hts hown hK hG (by omega) qF_X0_135 dX0_letWork_42 ?_
            refine lv_aload_n hx hb dX0_letWork_45 rfl (lv_at hl 1 rfl) ?_
            refine getP 5 4 (i := q) rfl hx hb hts hown hK hG (by omega) (by decide) (by decide) qF_X0_139 rfl dX0_letWork_46 ?_
            refine topN (n := (pa Pl q)) hW.2.2.1 ?_
            refine aldR (i := q) (k := (pa Pl q)) hx hb hK hG (by omega) (by have h1 := hW.2.2.2.1; have h2 := hW.2.1; omega) dX0_letWork_49 ?_
            refine topN (n := (rt Pl q (pa Pl q))) (hW.2.2.2.2 _ hW.2.2.2.1).1 ?_
            refine aldS (i := (rt Pl q (pa Pl q))) hx hb hK hG (by omega) dX0_letWork_50 ?_
            refine lv_astore (lv' := [(5, .ref (b + 4 + (rt Pl q (pa Pl q)))), (0, .ref b), (1, .ref (b + 24 + 2 * q)), (2, .int mt), (3, .int mo), (4, .int (nI j))]) hx hb dX0_letWork_51 hl (by decide) rfl (fun ls hl => ?_)
            refine lv_aload_n hx hb dX0_letWork_53 rfl (lv_at hl 2 rfl) ?_
            refine getP 6 5 (i := q) rfl hx hb hts hown hK hG (by omega) (by decide) (by decide) qF_X0_142 rfl dX0_letWork_54 ?_
            refine lv_if_ne (tgt := 77) hx hb dX0_letWork_57 (by decide) (fun c57 => ?_) (fun c57 => ?_)
            · refine lv_iload_n hx hb dX0_letWork_77 rfl (lv_at hl 3 rfl) ?_
              refine lv_aload_n hx hb dX0_letWork_78 rfl (lv_at hl 2 rfl) ?_
              refine lv_aload hx hb dX0_letWork_79 (lv_at hl 0 rfl) ?_
              refine getS 0 (i := (rt Pl q (pa Pl q))) hx hb hts hown hK hG (by omega) (by decide) qF_X0_76 rfl dX0_letWork_81 ?_
              refine lv_iload_n hx hb dX0_letWork_84 rfl (lv_at hl 3 rfl) ?_
              refine gcVi (As := [.int (Pl (9 + 8 * (rt Pl q (pa Pl q)) + 0)), .int mt]) (rest := [.int mt]) hx hb hml hown hts hl.1 hK (c_X1_plowOn l D b Pl q (Pl (9 + 8 * (rt Pl q (pa Pl q)) + 0)) mt (by first | assumption | omega)) (gaV qM_X0_148 qI_X1_plowOn qS_X1_plowOn qK_X1 qC_X1_plowOn) hdv_X1_plowOn ⟨Nat.le_of_ble_eq_true rfl, Nat.le_of_ble_eq_true rfl⟩ hG (hG.recvP hK (by omega)) rfl (Nat.le_of_ble_eq_true rfl) ⟨Nat.zero_le _, Nat.zero_le _⟩ dX0_letWork_85 hS hA (fun H locs hG _ _ hS => ?_)
              have hG : Graph D b (fP_X1_plowOn Pl q (Pl (9 + 8 * (rt Pl q (pa Pl q)) + 0)) mt) H := hG
              generalize eP2 : fP_X1_plowOn Pl q (Pl (9 + 8 * (rt Pl q (pa Pl q)) + 0)) mt = P2 at hG
              refine lv_isub hx hb dX0_letWork_88 ?_
              refine lv_topi (fun x3 ex3 => ?_)
              refine lv_istore_n (lv' := [(2, .int x3), (5, .ref (b + 4 + (rt Pl q (pa Pl q)))), (0, .ref b), (1, .ref (b + 24 + 2 * q)), (3, .int mo), (4, .int (nI j))]) hx hb dX0_letWork_89 rfl hl (by decide) rfl (fun ls hl => ?_)
              refine lv_aload_n hx hb dX0_letWork_90 rfl (lv_at hl 3 rfl) ?_
              refine getP 6 5 (i := q) rfl hx hb hts hown hK hG (by omega) (by decide) (by decide) qF_X0_142 rfl dX0_letWork_91 ?_
              refine lv_aload hx hb dX0_letWork_94 (lv_at hl 1 rfl) ?_
              refine getS 0 (i := (rt Pl q (pa Pl q))) hx hb hts hown hK hG (by omega) (by decide) qF_X0_76 rfl dX0_letWork_96 ?_
              refine lv_icmp_ne (tgt := 114) hx hb dX0_letWork_99 (by decide) (fun c99 => ?_) (fun c99 => ?_)
              · refine lv_iinc (v := nI (j + 1)) (lv' := [(4, .int (nI (j + 1))), (2, .int x3), (5, .ref (b + 4 + (rt Pl q (pa Pl q)))), (0, .ref b), (1, .ref (b + 24 + 2 * q)), (3, .int mo)]) hx hb dX0_letWork_114 hl (k := 5) rfl (nI_add j 1) (by decide) rfl (fun ls hl => ?_)
                refine lv_goto (tgt := 22) hx hb dX0_letWork_117 (by decide) ?_
                subst ex3
                subst eP2
                exact ih _ _ (j + 1) _ _ _ _ (by first | exact goC_W hW | exact goC_W (okW_clear (hW.2.2.2.2 _ hW.2.2.2.1).2.1 (okW_plowOn hW)) | exact okW_plowOn hW) (by first | assumption | omega) (by rw [hfP, fP_X0_letWork_L22]; (try dsimp only); (try rw [if_neg c30, if_neg c34, if_neg c57, if_neg c99]); (try rfl)) hG hS (lv_sub hl [3, 4, 1, 5, 0] rfl)
              · refine lv_aload_n hx hb dX0_letWork_102 rfl (lv_at hl 2 rfl) ?_
                refine lv_aload hx hb dX0_letWork_103 (lv_at hl 1 rfl) ?_
                refine lv_aload_n hx hb dX0_letWork_105 rfl (lv_at hl 3 rfl) ?_
                refine gcVv (As := [.ref (b + 4 + (rt Pl q (pa Pl q))), .ref (b + 24 + 2 * q)]) (rest := []) hx hb hml hown hts hl.1 hK (c_X0_clear l D b P2 (rt Pl q (pa Pl q)) q hs20 (by first | assumption | omega)) (gaV qM_X0_152 qI_X0_clear qS_X0_clear qK_X0 qC_X0_clear) hdv_X0_clear ⟨Nat.le_of_ble_eq_true rfl, Nat.le_of_ble_eq_true rfl⟩ hG (hG.recvC hK) rfl (Nat.le_of_ble_eq_true rfl) ⟨Nat.zero_le _, Nat.zero_le _⟩ dX0_letWork_106 hS hA (fun H locs hG _ _ hS => ?_)
                have hG : Graph D b (fP_X0_clear P2 (rt Pl q (pa Pl q)) q) H := hG
                generalize eP4 : fP_X0_clear P2 (rt Pl q (pa Pl q)) q = P4 at hG
                refine lv_aload_n hx hb dX0_letWork_109 rfl (lv_at hl 3 rfl) ?_
                refine gcVi (As := []) (rest := []) hx hb hml hown hts hl.1 hK (c_X1_goOn l D b P4 q (by first | assumption | omega)) (gaV qM_X0_145 qI_X1_goOn qS_X1_goOn qK_X1 qC_X1_goOn) hdv_X1_goOn ⟨Nat.le_of_ble_eq_true rfl, Nat.le_of_ble_eq_true rfl⟩ hG (hG.recvP hK (by omega)) rfl (Nat.le_of_ble_eq_true rfl) ⟨Nat.zero_le _, Nat.zero_le _⟩ dX0_letWork_110 hS hA (fun H locs hG _ _ hS => ?_)
                have hG : Graph D b (fP_X1_goOn P4 q) H := hG
                generalize eP5 : fP_X1_goOn P4 q = P5 at hG
                refine lv_topi (fun x6 ex6 => ?_)
                refine lv_istore_n (lv' := [(3, .int x6), (2, .int x3), (5, .ref (b + 4 + (rt Pl q (pa Pl q)))), (0, .ref b), (1, .ref (b + 24 + 2 * q)), (4, .int (nI j))]) hx hb dX0_letWork_113 rfl hl (by decide) rfl (fun ls hl => ?_)
                refine lv_iinc (v := nI (j + 1)) (lv' := [(4, .int (nI (j + 1))), (3, .int x6), (2, .int x3), (5, .ref (b + 4 + (rt Pl q (pa Pl q)))), (0, .ref b), (1, .ref (b + 24 + 2 * q))]) hx hb dX0_letWork_114 hl (k := 5) rfl (nI_add j 1) (by decide) rfl (fun ls hl => ?_)
                refine lv_goto (tgt := 22) hx hb dX0_letWork_117 (by decide) ?_
                subst ex6
                subst eP5
                subst eP4
                subst ex3
                subst eP2
                exact ih _ _ (j + 1) _ _ _ _ (by first | exact goC_W hW | exact goC_W (okW_clear (hW.2.2.2.2 _ hW.2.2.2.1).2.1 (okW_plowOn hW)) | exact okW_plowOn hW) (by first | assumption | omega) (by rw [hfP, fP_X0_letWork_L22]; (try dsimp only); (try rw [if_neg c30, if_neg c34, if_neg c57, if_pos c99]); (try rfl)) hG hS (lv_sub hl [4, 5, 2, 1, 0] rfl)
            · refine lv_aload_n hx hb dX0_letWork_60 rfl (lv_at hl 1 rfl) ?_
              refine lv_aload hx hb dX0_letWork_61 (lv_at hl 0 rfl) ?_
              refine gcVi (As := [.ref (b + 4 + (rt Pl q (pa Pl q)))]) (rest := []) hx hb hml hown hts hl.1 hK (c_X0_isDue l D b Pl (rt Pl q (pa Pl q)) hs20 hrs) (gaV qM_X0_94 qI_X0_isDue qS_X0_isDue qK_X0 qC_X0_isDue) hdv_X0_isDue ⟨Nat.le_of_ble_eq_true rfl, Nat.le_of_ble_eq_true rfl⟩ hG (hG.recvC hK) rfl (Nat.le_of_ble_eq_true rfl) ⟨Nat.zero_le _, Nat.zero_le _⟩ dX0_letWork_63 hS hA (fun H locs hG _ _ hS => ?_)
              have hG : Graph D b Pl H := hG
              refine lv_if_ne (tgt := 77) hx hb dX0_letWork_66 (by decide) (fun c66 => ?_) (fun c66 => ?_)
              · refine lv_iload_n hx hb dX0_letWork_77 rfl (lv_at hl 3 rfl) ?_
                refine lv_aload_n hx hb dX0_letWork_78 rfl (lv_at hl 2 rfl) ?_
                refine lv_aload hx hb dX0_letWork_79 (lv_at hl 0 rfl) ?_
                refine getS 0 (i := (rt Pl q (pa Pl q))) hx hb hts hown hK hG (by omega) (by decide) qF_X0_76 rfl dX0_letWork_81 ?_
                refine lv_iload_n hx hb dX0_letWork_84 rfl (lv_at hl 3 rfl) ?_
                refine gcVi (As := [.int (Pl (9 + 8 * (rt Pl q (pa Pl q)) + 0)), .int mt]) (rest := [.int mt]) hx hb hml hown hts hl.1 hK (c_X1_plowOn l D b Pl q (Pl (9 + 8 * (rt Pl q (pa Pl q)) + 0)) mt (by first | assumption | omega)) (gaV qM_X0_148 qI_X1_plowOn qS_X1_plowOn qK_X1 qC_X1_plowOn) hdv_X1_plowOn ⟨Nat.le_of_ble_eq_true rfl, Nat.le_of_ble_eq_true rfl⟩ hG (hG.recvP hK (by omega)) rfl (Nat.le_of_ble_eq_true rfl) ⟨Nat.zero_le _, Nat.zero_le _⟩ dX0_letWork_85 hS hA (fun H locs hG _ _ hS => ?_)
                have hG : Graph D b (fP_X1_plowOn Pl q (Pl (9 + 8 * (rt Pl q (pa Pl q)) + 0)) mt) H := hG
                generalize eP7 : fP_X1_plowOn Pl q (Pl (9 + 8 * (rt Pl q (pa Pl q)) + 0)) mt = P7 at hG
                refine lv_isub hx hb dX0_letWork_88 ?_
                refine lv_topi (fun x8 ex8 => ?_)
                refine lv_istore_n (lv' := [(2, .int x8), (5, .ref (b + 4 + (rt Pl q (pa Pl q)))), (0, .ref b), (1, .ref (b + 24 + 2 * q)), (3, .int mo), (4, .int (nI j))]) hx hb dX0_letWork_89 rfl hl (by decide) rfl (fun ls hl => ?_)
                refine lv_aload_n hx hb dX0_letWork_90 rfl (lv_at hl 3 rfl) ?_
                refine getP 6 5 (i := q) rfl hx hb hts hown hK hG (by omega) (by decide) (by decide) qF_X0_142 rfl dX0_letWork_91 ?_
                refine lv_aload hx hb dX0_letWork_94 (lv_at hl 1 rfl) ?_
                refine getS 0 (i := (rt Pl q (pa Pl q))) hx hb hts hown hK hG (by omega) (by decide) qF_X0_76 rfl dX0_letWork_96 ?_
                refine lv_icmp_ne (tgt := 114) hx hb dX0_letWork_99 (by decide) (fun c99 => ?_) (fun c99 => ?_)
                · refine lv_iinc (v := nI (j + 1)) (lv' := [(4, .int (nI (j + 1))), (2, .int x8), (5, .ref (b + 4 + (rt Pl q (pa Pl q)))), (0, .ref b), (1, .ref (b + 24 + 2 * q)), (3, .int mo)]) hx hb dX0_letWork_114 hl (k := 5) rfl (nI_add j 1) (by decide) rfl (fun ls hl => ?_)
                  refine lv_goto (tgt := 22) hx hb dX0_letWork_117 (by decide) ?_
                  subst ex8
                  subst eP7
                  exact ih _ _ (j + 1) _ _ _ _ (by first | exact goC_W hW | exact goC_W (okW_clear (hW.2.2.2.2 _ hW.2.2.2.1).2.1 (okW_plowOn hW)) | exact okW_plowOn hW) (by first | assumption | omega) (by rw [hfP, fP_X0_letWork_L22]; (try dsimp only); (try rw [if_neg c30, if_neg c34, if_pos c57, if_neg c66, if_neg c99]); (try rfl)) hG hS (lv_sub hl [3, 4, 1, 5, 0] rfl)
                · refine lv_aload_n hx hb dX0_letWork_102 rfl (lv_at hl 2 rfl) ?_
                  refine lv_aload hx hb dX0_letWork_103 (lv_at hl 1 rfl) ?_
                  refine lv_aload_n hx hb dX0_letWork_105 rfl (lv_at hl 3 rfl) ?_
                  refine gcVv (As := [.ref (b + 4 + (rt Pl q (pa Pl q))), .ref (b + 24 + 2 * q)]) (rest := []) hx hb hml hown hts hl.1 hK (c_X0_clear l D b P7 (rt Pl q (pa Pl q)) q hs20 (by first | assumption | omega)) (gaV qM_X0_152 qI_X0_clear qS_X0_clear qK_X0 qC_X0_clear) hdv_X0_clear ⟨Nat.le_of_ble_eq_true rfl, Nat.le_of_ble_eq_true rfl⟩ hG (hG.recvC hK) rfl (Nat.le_of_ble_eq_true rfl) ⟨Nat.zero_le _, Nat.zero_le _⟩ dX0_letWork_106 hS hA (fun H locs hG _ _ hS => ?_)
                  have hG : Graph D b (fP_X0_clear P7 (rt Pl q (pa Pl q)) q) H := hG
                  generalize eP9 : fP_X0_clear P7 (rt Pl q (pa Pl q)) q = P9 at hG
                  refine lv_aload_n hx hb dX0_letWork_109 rfl (lv_at hl 3 rfl) ?_
                  refine gcVi (As := []) (rest := []) hx hb hml hown hts hl.1 hK (c_X1_goOn l D b P9 q (by first | assumption | omega)) (gaV qM_X0_145 qI_X1_goOn qS_X1_goOn qK_X1 qC_X1_goOn) hdv_X1_goOn ⟨Nat.le_of_ble_eq_true rfl, Nat.le_of_ble_eq_true rfl⟩ hG (hG.recvP hK (by omega)) rfl (Nat.le_of_ble_eq_true rfl) ⟨Nat.zero_le _, Nat.zero_le _⟩ dX0_letWork_110 hS hA (fun H locs hG _ _ hS => ?_)
                  have hG : Graph D b (fP_X1_goOn P9 q) H := hG
                  generalize eP10 : fP_X1_goOn P9 q = P10 at hG
                  refine lv_topi (fun x11 ex11 => ?_)
                  refine lv_istore_n (lv' := [(3, .int x11), (2, .int x8), (5, .ref (b + 4 + (rt Pl q (pa Pl q)))), (0, .ref b), (1, .ref (b + 24 + 2 * q)), (4, .int (nI j))]) hx hb dX0_letWork_113 rfl hl (by decide) rfl (fun ls hl => ?_)
                  refine lv_iinc (v := nI (j + 1)) (lv' := [(4, .int (nI (j + 1))), (3, .int x11), (2, .int x8), (5, .ref (b + 4 + (rt Pl q (pa Pl q)))), (0, .ref b), (1, .ref (b + 24 + 2 * q))]) hx hb dX0_letWork_114 hl (k := 5) rfl (nI_add j 1) (by decide) rfl (fun ls hl => ?_)
                  refine lv_goto (tgt := 22) hx hb dX0_letWork_117 (by decide) ?_
                  subst ex11
                  subst eP10
                  subst eP9
                  subst ex8
                  subst eP7
                  exact ih _ _ (j + 1) _ _ _ _ (by first | exact goC_W hW | exact goC_W (okW_clear (hW.2.2.2.2 _ hW.2.2.2.1).2.1 (okW_plowOn hW)) | exact okW_plowOn hW) (by first | assumption | omega) (by rw [hfP, fP_X0_letWork_L22]; (try dsimp only); (try rw [if_neg c30, if_neg c34, if_pos c57, if_neg c66, if_pos c99]); (try rfl)) hG hS (lv_sub hl [4, 5, 2, 1, 0] rfl)
              · refine lv_aload_n hx hb dX0_letWork_69 rfl (lv_at hl 2 rfl) ?_
                refine gcVi (As := []) (rest := []) hx hb hml hown hts hl.1 hK (c_X1_goOn l D b Pl q (by first | assumption | omega)) (gaV qM_X0_145 qI_X1_goOn qS_X1_goOn qK_X1 qC_X1_goOn) hdv_X1_goOn ⟨Nat.le_of_ble_eq_true rfl, Nat.le_of_ble_eq_true rfl⟩ hG (hG.recvP hK (by omega)) rfl (Nat.le_of_ble_eq_true rfl) ⟨Nat.zero_le _, Nat.zero_le _⟩ dX0_letWork_70 hS hA (fun H locs hG _ _ hS => ?_)
                have hG : Graph D b (fP_X1_goOn Pl q) H := hG
                generalize eP12 : fP_X1_goOn Pl q = P12 at hG
                refine lv_topi (fun x13 ex13 => ?_)
                refine lv_istore_n (lv' := [(3, .int x13), (5, .ref (b + 4 + (rt Pl q (pa Pl q)))), (0, .ref b), (1, .ref (b + 24 + 2 * q)), (2, .int mt), (4, .int (nI j))]) hx hb dX0_letWork_73 rfl hl (by decide) rfl (fun ls hl => ?_)
                refine lv_goto (tgt := 114) hx hb dX0_letWork_74 (by decide) ?_
                refine lv_iinc (v := nI (j + 1)) (lv' := [(4, .int (nI (j + 1))), (3, .int x13), (5, .ref (b + 4 + (rt Pl q (pa Pl q)))), (0, .ref b), (1, .ref (b + 24 + 2 * q)), (2, .int mt)]) hx hb dX0_letWork_114 hl (k := 5) rfl (nI_add j 1) (by decide) rfl (fun ls hl => ?_)
                refine lv_goto (tgt := 22) hx hb dX0_letWork_117 (by decide) ?_
                subst ex13
                subst eP12
                exact ih _ _ (j + 1) _ _ _ _ (by first | exact goC_W hW | exact goC_W (okW_clear (hW.2.2.2.2 _ hW.2.2.2.1).2.1 (okW_plowOn hW)) | exact okW_plowOn hW) (by first | assumption | omega) (by rw [hfP, fP_X0_letWork_L22]; (try dsimp only); (try rw [if_neg c30, if_neg c34, if_pos c57, if_pos c66]); (try rfl)) hG hS (lv_sub hl [3, 4, 5, 1, 0] rfl)
  refine lv_aload_n hx hb dX0_letWork_0 rfl (lv_at hl 1 rfl) ?_
  refine gcVi (As := []) (rest := []) hx hb hml hown hts hl.1 hK (c_X1_isAtStart l D b P q (by first | assumption | omega)) (gaV qM_X0_125 qI_X1_isAtStart qS_X1_isAtStart qK_X1 qC_X1_isAtStart) hdv_X1_isAtStart ⟨Nat.le_of_ble_eq_true rfl, Nat.le_of_ble_eq_true rfl⟩ hG (hG.recvP hK (by omega)) rfl (Nat.le_of_ble_eq_true rfl) ⟨Nat.zero_le _, Nat.zero_le _⟩ dX0_letWork_1 hS hA (fun H locs hG _ _ hS => ?_)
  have hG : Graph D b P H := hG
  refine lv_if_eq (tgt := 12) hx hb dX0_letWork_4 (by decide) (fun c4 => ?_) (fun c4 => ?_)
  · refine lv_aload_n hx hb dX0_letWork_12 rfl (lv_at hl 1 rfl) ?_
    refine getP 0 0 (i := q) rfl hx hb hts hown hK hG (by omega) (by decide) (by decide) qF_X0_132 rfl dX0_letWork_13 ?_
    refine lv_topi (fun x1 ex1 => ?_)
    refine lv_istore_n (lv' := [(2, .int x1), (0, .ref b), (1, .ref (b + 24 + 2 * q))]) hx hb dX0_letWork_16 rfl hl (by decide) rfl (fun ls hl => ?_)
    refine lv_iconst (v := 1) hx hb dX0_letWork_17 (by decide) ?_
    refine lv_istore_n (lv' := [(3, .int 1), (2, .int x1), (0, .ref b), (1, .ref (b + 24 + 2 * q))]) hx hb dX0_letWork_18 rfl hl (by decide) rfl (fun ls hl => ?_)
    refine lv_iconst (v := 0) hx hb dX0_letWork_19 (by decide) ?_
    refine lv_istore (lv' := [(4, .int 0), (3, .int 1), (2, .int x1), (0, .ref b), (1, .ref (b + 24 + 2 * q))]) hx hb dX0_letWork_20 hl (by decide) rfl (fun ls hl => ?_)
    subst ex1
    exact L22 12 _ _ 0 _ _ _ _ (by first | exact hW0 | exact okW_fill hW0) (by first | assumption | omega) (by unfold fP_X0_letWork; (try dsimp only); (try rw [if_pos c4]); (try rfl)) hG hS (lv_sub hl [3, 4, 2, 1, 0] rfl)
  · refine lv_aload_n hx hb dX0_letWork_7 rfl (lv_at hl 0 rfl) ?_
    refine lv_aload_n hx hb dX0_letWork_8 rfl (lv_at hl 1 rfl) ?_
    refine gcVv (As := [.ref (b + 24 + 2 * q)]) (rest := []) hx hb hml hown hts hl.1 hK (c_X0_fill l D b P q (by first | assumption | omega)) (gaV qM_X0_129 qI_X0_fill qS_X0_fill qK_X0 qC_X0_fill) hdv_X0_fill ⟨Nat.le_of_ble_eq_true rfl, Nat.le_of_ble_eq_true rfl⟩ hG (hG.recvC hK) rfl (Nat.le_of_ble_eq_true rfl) ⟨Nat.zero_le _, Nat.zero_le _⟩ dX0_letWork_9 hS hA (fun H locs hG _ _ hS => ?_)
    have hG : Graph D b (fP_X0_fill P q) H := hG
    generalize eP14 : fP_X0_fill P q = P14 at hG
    refine lv_aload_n hx hb dX0_letWork_12 rfl (lv_at hl 1 rfl) ?_
    refine getP 0 0 (i := q) rfl hx hb hts hown hK hG (by omega) (by decide) (by decide) qF_X0_132 rfl dX0_letWork_13 ?_
    refine lv_topi (fun x15 ex15 => ?_)
    refine lv_istore_n (lv' := [(2, .int x15), (0, .ref b), (1, .ref (b + 24 + 2 * q))]) hx hb dX0_letWork_16 rfl hl (by decide) rfl (fun ls hl => ?_)
    refine lv_iconst (v := 1) hx hb dX0_letWork_17 (by decide) ?_
    refine lv_istore_n (lv' := [(3, .int 1), (2, .int x15), (0, .ref b), (1, .ref (b + 24 + 2 * q))]) hx hb dX0_letWork_18 rfl hl (by decide) rfl (fun ls hl => ?_)
    refine lv_iconst (v := 0) hx hb dX0_letWork_19 (by decide) ?_
    refine lv_istore (lv' := [(4, .int 0), (3, .int 1), (2, .int x15), (0, .ref b), (1, .ref (b + 24 + 2 * q))]) hx hb dX0_letWork_20 hl (by decide) rfl (fun ls hl => ?_)
    subst ex15
    subst eP14
    exact L22 12 _ _ 0 _ _ _ _ (by first | exact hW0 | exact okW_fill hW0) (by first | assumption | omega) (by unfold fP_X0_letWork; (try dsimp only); (try rw [if_neg c4]); (try rfl)) hG hS (lv_sub hl [3, 4, 2, 1, 0] rfl)
theorem hdv_X0_letWait : yX0_letWait.cls = RX0 ∧ yX0_letWait.cls ≠ "java/lang/invoke/MethodHandle" ∧ yX0_letWait.cls ≠ "java/lang/invoke/VarHandle" ∧ (parseMethodDescriptor yX0_letWait.desc).map (fun d => d.parameters.length) = some 1 := by decide +kernel
def fP_X0_letWait (P : Nat → Int32) (i : Nat) : Nat → Int32 :=
  if fR_X0_isDue P i = 0 then
    let P7 := upd P (9 + 8 * i + 5) 0
    P7
  else
    let x1 := (P (9 + 8 * i + 5)) + 1
    let P2 := upd P (9 + 8 * i + 5) x1
    if P2 (9 + 8 * i + 5) ≤ P2 (229 + 4 * (pr P i) + 1) then
      P2
    else
      let x3 := (P2 (229 + 4 * (pr P i) + 3)) + 1
      let P4 := upd P2 (229 + 4 * (pr P i) + 3) x3
      let x5 := (P4 6) + (P4 (229 + 4 * (pr P i) + 2))
      let P6 := upd P4 6 x5
      P6
set_option maxHeartbeats 4000000 in
set_option maxRecDepth 100000 in
theorem c_X0_letWait (l : Launch) (D : va_G) (b : Nat) (P : Nat → Int32) (i : Nat) (hi : i < 20) (hp : okR P i) : Met l yX0_letWait (wA yX0_letWait cX0_letWait 3 none) (rmL 1) (gPc D [.ref b, .ref (b + 4 + i)] (fun H => Graph D b P H)) (gQv (inG b) (fun H => Graph D b (fP_X0_letWait P i) H)) 0 0 (inG b) := by
  refine Met.ofW (cc := cX0_letWait) (maxL := 3) (ret := none) (by decide) rfl ?_
  intro p e s m args below meth c s₁ B hml hv
  obtain ⟨hav, hG, hK⟩ := hv
  have hx := B.exec
  have hb := B.bytes
  have hr := B.returns
  have hts0 := atoms_spec (ws := wA yX0_letWait cX0_letWait 3 none) B.pre
  have hts : ∀ w ∈ AW, w.before _ s = true := fun w h => hts0 w (List.mem_cons_of_mem _ h)
  have hown : s.vm.findClass RX0 = some m.cls := findClass_of_methodNamed B.named
  have hlocks := B.notSynchronized
  have hA : ∀ q, (inG b) q → (inG b) q := fun _ h => h
  have hS : va_S (inG b) s.heap s.heap [] := va_S.rf
  have hG : Graph D b P s.heap := hG
  have hl := lv_entry ([.ref b, .ref (b + 4 + i)]) (n := 3) (Nat.le_of_ble_eq_true rfl)
  refine W.eq (g2 := entryFrame m ([.ref b, .ref (b + 4 + i)] : List Value).toArray 3) (by rw [hav]) ?_
  rw [lg_entry_eq]
  generalize (lg_sl ([.ref b, .ref (b + 4 + i)]) ++ List.replicate (3 - (lg_sl ([.ref b, .ref (b + 4 + i)])).length) Slot.unset).toArray = ls at hl ⊢
  have hl : lv_has ls 3 [(0, .ref b), (1, .ref (b + 4 + i))] := hl
  refine lv_aload_n hx hb dX0_letWait_0 rfl (lv_at hl 0 rfl) ?_
  refine lv_aload_n hx hb dX0_letWait_1 rfl (lv_at hl 1 rfl) ?_
  refine gcVi (As := [.ref (b + 4 + i)]) (rest := []) hx hb hml hown hts hl.1 hK (c_X0_isDue l D b P i (by first | assumption | omega) hp) (gaV qM_X0_94 qI_X0_isDue qS_X0_isDue qK_X0 qC_X0_isDue) hdv_X0_isDue ⟨Nat.le_of_ble_eq_true rfl, Nat.le_of_ble_eq_true rfl⟩ hG (hG.recvC hK) rfl (Nat.le_of_ble_eq_true rfl) ⟨Nat.zero_le _, Nat.zero_le _⟩ dX0_letWait_2 hS hA (fun H locs hG _ _ hS => ?_)
  have hG : Graph D b P H := hG
  refine lv_if_ne (tgt := 14) hx hb dX0_letWait_5 (by decide) (fun c5 => ?_) (fun c5 => ?_)
  · have hp2 := hp.2
    refine lv_aload_n hx hb dX0_letWait_14 rfl (lv_at hl 0 rfl) ?_
    refine getCt hx hb hts hown hK hG qF_X0_25 dX0_letWait_15 ?_
    refine lv_aload_n hx hb dX0_letWait_18 rfl (lv_at hl 1 rfl) ?_
    refine getS 1 (i := i) hx hb hts hown hK hG (by omega) (by decide) qF_X0_79 rfl dX0_letWait_19 ?_
    refine topN (n := (pr P i)) hp.1 ?_
    refine aldT (i := (pr P i)) hx hb hK hG hp.2 dX0_letWait_22 ?_
    refine lv_astore_n (lv' := [(2, .ref (b + 30 + (pr P i))), (0, .ref b), (1, .ref (b + 4 + i))]) hx hb dX0_letWait_23 rfl hl (by decide) rfl (fun ls hl => ?_)
    refine lv_aload_n hx hb dX0_letWait_24 rfl (lv_at hl 2 rfl) ?_
    refine lv_dup hx hb dX0_letWait_25 rfl ?_
    refine getS 5 (i := i) hx hb hts hown hK hG (by omega) (by decide) qF_X0_91 rfl dX0_letWait_26 ?_
    refine lv_iconst (v := 1) hx hb dX0_letWait_29 (by decide) ?_
    refine lv_iadd hx hb dX0_letWait_30 ?_
    refine lv_topi (fun x1 ex1 => ?_)
    refine putS 5 (i := i) hx hb hts hown hK hG hS hA (by omega) (by decide) qF_X0_91 rfl dX0_letWait_31 (fun H locs hG hS => ?_)
    generalize eP2 : upd P (9 + 8 * i + 5) x1 = P2 at hG
    refine lv_aload_n hx hb dX0_letWait_34 rfl (lv_at hl 2 rfl) ?_
    refine getS 5 (i := i) hx hb hts hown hK hG (by omega) (by decide) qF_X0_91 rfl dX0_letWait_35 ?_
    refine lv_aload_n hx hb dX0_letWait_38 rfl (lv_at hl 0 rfl) ?_
    refine getT 1 (i := (pr P i)) hx hb hts hown hK hG (by omega) (by decide) qF_X0_170 rfl dX0_letWait_39 ?_
    refine lv_icmp_le (tgt := 68) hx hb dX0_letWait_42 (by decide) (fun c42 => ?_) (fun c42 => ?_)
    · subst eP2
      subst ex1
      have hG9 : Graph D b (fP_X0_letWait P i) H := by
        unfold fP_X0_letWait; (try dsimp only); (try rw [if_neg c5, if_pos c42])
        exact hG
      exact W.vret hx hb hr (fun t ht hW => gQv_of hG9 hS ht) hS.2.2 dX0_letWait_68
    · refine lv_aload_n hx hb dX0_letWait_45 rfl (lv_at hl 0 rfl) ?_
      refine lv_dup hx hb dX0_letWait_46 rfl ?_
      refine getT 3 (i := (pr P i)) hx hb hts hown hK hG (by omega) (by decide) qF_X0_104 rfl dX0_letWait_47 ?_
      refine lv_iconst (v := 1) hx hb dX0_letWait_50 (by decide) ?_
      refine lv_iadd hx hb dX0_letWait_51 ?_
      refine lv_topi (fun x3 ex3 => ?_)
      refine putT 3 (i := (pr P i)) hx hb hts hown hK hG hS hA (by omega) (by decide) qF_X0_104 rfl dX0_letWait_52 (fun H locs hG hS => ?_)
      generalize eP4 : upd P2 (229 + 4 * (pr P i) + 3) x3 = P4 at hG
      refine lv_aload_n hx hb dX0_letWait_55 rfl (lv_at hl 1 rfl) ?_
      refine lv_dup hx hb dX0_letWait_56 rfl ?_
      refine getC 8 6 rfl hx hb hts hown hK hG (by decide) (by decide) (by decide) (by decide) qF_X0_63 rfl dX0_letWait_57 ?_
      refine lv_aload_n hx hb dX0_letWait_60 rfl (lv_at hl 0 rfl) ?_
      refine getT 2 (i := (pr P i)) hx hb hts hown hK hG (by omega) (by decide) qF_X0_173 rfl dX0_letWait_61 ?_
      refine lv_iadd hx hb dX0_letWait_64 ?_
      refine lv_topi (fun x5 ex5 => ?_)
      refine putC 8 6 rfl hx hb hts hown hK hG hS hA (by decide) (by decide) (by decide) (by decide) qF_X0_63 rfl dX0_letWait_65 (fun H locs hG hS => ?_)
      generalize eP6 : upd P4 6 x5 = P6 at hG
      subst eP6
      subst ex5
      subst eP4
      subst ex3
      subst eP2
      subst ex1
      have hG9 : Graph D b (fP_X0_letWait P i) H := by
        unfold fP_X0_letWait; (try dsimp only); (try rw [if_neg c5, if_neg c42])
        exact hG
      exact W.vret hx hb hr (fun t ht hW => gQv_of hG9 hS ht) hS.2.2 dX0_letWait_68
  · refine lv_aload_n hx hb dX0_letWait_8 rfl (lv_at hl 1 rfl) ?_
    refine lv_iconst (v := 0) hx hb dX0_letWait_9 (by decide) ?_
    refine putS 5 (i := i) hx hb hts hown hK hG hS hA (by omega) (by decide) qF_X0_91 rfl dX0_letWait_10 (fun H locs hG hS => ?_)
    generalize eP7 : upd P (9 + 8 * i + 5) 0 = P7 at hG
    subst eP7
    have hG9 : Graph D b (fP_X0_letWait P i) H := by
      unfold fP_X0_letWait; (try dsimp only); (try rw [if_pos c5])
      exact hG
    exact W.vret hx hb hr (fun t ht hW => gQv_of hG9 hS ht) hS.2.2 dX0_letWait_13
