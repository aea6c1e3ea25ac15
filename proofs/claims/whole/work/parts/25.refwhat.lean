theorem hdv_X7_credits : yX7_credits.cls = RX7 ∧ yX7_credits.cls ≠ "java/lang/invoke/MethodHandle" ∧ yX7_credits.cls ≠ "java/lang/invoke/VarHandle" ∧ (parseMethodDescriptor yX7_credits.desc).map (fun d => d.parameters.length) = some 3 := by decide +kernel
def fS_X7_credits (P : Nat → Int32) (S : Nat → Int32) (tmp : Int32) (sn : Int32) (many : Nat) : Nat → Int32 :=
  let S1 := fS_X7_bring_ms P S 0 0
  S1
def fR_X7_credits (P : Nat → Int32) (S : Nat → Int32) (tmp : Int32) (sn : Int32) (many : Nat) : Int32 :=
  let x3 := fR_X7_hours P tmp sn many
  x3
set_option maxHeartbeats 4000000 in
set_option maxRecDepth 100000 in
theorem c_X7_credits (l : Launch) (D : va_G) (o : Nat) (P S V T F : Nat → Int32) (h : Int64) (tmp : Int32) (sn : Int32) (many : Nat) (hw : WF P) (hm : many < 1000) : Met l yX7_credits (wA yX7_credits cX7_credits 5 (some .int)) (rmL 6) (gPc D [.ref o, .int tmp, .int sn, .int (nI many)] (fun H => Md D o P S V T F h H)) (gQi (inM o) (fR_X7_credits P S tmp sn many) (fun H => Md D o P (fS_X7_credits P S tmp sn many) V T F h H)) 0 0 (inM o) := by
  refine Met.ofW (cc := cX7_credits) (maxL := 5) (ret := (some .int)) (by decide) rfl ?_
  intro p e s m args below meth c s₁ B hml hv
  obtain ⟨hav, hG, hK⟩ := hv
  have hx := B.exec
  have hb := B.bytes
  have hr := B.returns
  have hts0 := atoms_spec (ws := wA yX7_credits cX7_credits 5 (some .int)) B.pre
  have hts : ∀ w ∈ AW, w.before _ s = true := fun w h => hts0 w (List.mem_cons_of_mem _ h)
  have hown : s.vm.findClass RX7 = some m.cls := findClass_of_methodNamed B.named
  have hlocks := B.notSynchronized
  have hA : ∀ q, (inM o) q → (inM o) q := fun _ h => h
  have hS : va_S (inM o) s.heap s.heap [] := va_S.rf
  have hG : Md D o P S V T F h s.heap := hG
  have hl := lv_entry ([.ref o, .int tmp, .int sn, .int (nI many)]) (n := 5) (Nat.le_of_ble_eq_true rfl)
  refine W.eq (g2 := entryFrame m ([.ref o, .int tmp, .int sn, .int (nI many)] : List Value).toArray 5) (by rw [hav]) ?_
  rw [lg_entry_eq]
  generalize (lg_sl ([.ref o, .int tmp, .int sn, .int (nI many)]) ++ List.replicate (5 - (lg_sl ([.ref o, .int tmp, .int sn, .int (nI many)])).length) Slot.unset).toArray = ls at hl ⊢
  have hl : lv_has ls 5 [(0, .ref o), (1, .int tmp), (2, .int sn), (3, .int (nI many))] := hl
  refine lv_aload_n hx hb dX7_credits_0 rfl (lv_at hl 0 rfl) ?_
  refine getMm hx hb hts hown hK hG qF_X7_7 dX7_credits_1 ?_
  refine lv_iconst (v := 0) hx hb dX7_credits_4 (by decide) ?_
  refine lv_aload_n hx hb dX7_credits_5 rfl (lv_at hl 0 rfl) ?_
  refine getMs hx hb hts hown hK hG qF_X7_13 dX7_credits_6 ?_
  refine lv_iconst (v := 0) hx hb dX7_credits_9 (by decide) ?_
  refine gcSv (As := [.ref (o + 1), .int 0, .ref (o + 2), .int 0]) (rest := []) hx hb hml hown hts hl.1 hK (c_X7_bring_ms l D o P S V T F h 0 0 (by first | assumption | omega) (by first | assumption | omega)) (gaS qM_X7_33 qT_X7_bring qK_X7 qC_X7_bring) hds_X7_bring_ms ⟨Nat.le_of_ble_eq_true rfl, Nat.le_of_ble_eq_true rfl⟩ hG rfl (Nat.le_of_ble_eq_true rfl) ⟨Nat.zero_le _, Nat.zero_le _⟩ dX7_credits_10 hS hA (fun H locs hG _ _ hS => ?_)
  have hG : Md D o P (fS_X7_bring_ms P S 0 0) V T F h H := hG
  generalize eS1 : fS_X7_bring_ms P S 0 0 = S1 at hG
  refine lv_aload_n hx hb dX7_credits_13 rfl (lv_at hl 0 rfl) ?_
  refine lv_iload_n hx hb dX7_credits_14 rfl (lv_at hl 1 rfl) ?_
  refine lv_iload_n hx hb dX7_credits_15 rfl (lv_at hl 2 rfl) ?_
  refine lv_iload_n hx hb dX7_credits_16 rfl (lv_at hl 3 rfl) ?_
  refine gcVi (As := [.int tmp, .int sn, .int (nI many)]) (rest := []) hx hb hml hown hts hl.1 hK (c_X7_hours l D o P S1 V T F h tmp sn many (by first | assumption | omega) (by first | assumption | omega)) (gaV qM_X7_103 qI_X7_hours qS_X7_hours qK_X7 qC_X7_hours) hdv_X7_hours ⟨Nat.le_of_ble_eq_true rfl, Nat.le_of_ble_eq_true rfl⟩ hG (hG.recv hK) rfl (Nat.le_of_ble_eq_true rfl) ⟨Nat.zero_le _, Nat.zero_le _⟩ dX7_credits_17 hS hA (fun H locs hG _ _ hS => ?_)
  have hG : Md D o (fP_X7_hours P tmp sn many) S1 V T F h H := hG
  generalize eP2 : fP_X7_hours P tmp sn many = P2 at hG
  refine lv_topi (fun x3 ex3 => ?_)
  refine lv_istore (lv' := [(4, .int x3), (0, .ref o), (1, .int tmp), (2, .int sn), (3, .int (nI many))]) hx hb dX7_credits_20 hl (by decide) rfl (fun ls hl => ?_)
  refine lv_aload_n hx hb dX7_credits_22 rfl (lv_at hl 1 rfl) ?_
  refine getMs hx hb hts hown hK hG qF_X7_13 dX7_credits_23 ?_
  refine lv_iconst (v := 0) hx hb dX7_credits_26 (by decide) ?_
  refine lv_aload_n hx hb dX7_credits_27 rfl (lv_at hl 1 rfl) ?_
  refine getMm hx hb hts hown hK hG qF_X7_7 dX7_credits_28 ?_
  refine lv_iconst (v := 0) hx hb dX7_credits_31 (by decide) ?_
  refine gcSv (As := [.ref (o + 2), .int 0, .ref (o + 1), .int 0]) (rest := []) hx hb hml hown hts hl.1 hK (c_X7_bring_sm l D o P2 S1 V T F h 0 0 (by first | assumption | omega) (by first | assumption | omega)) (gaS qM_X7_33 qT_X7_bring qK_X7 qC_X7_bring) hds_X7_bring_sm ⟨Nat.le_of_ble_eq_true rfl, Nat.le_of_ble_eq_true rfl⟩ hG rfl (Nat.le_of_ble_eq_true rfl) ⟨Nat.zero_le _, Nat.zero_le _⟩ dX7_credits_32 hS hA (fun H locs hG _ _ hS => ?_)
  have hG : Md D o (fP_X7_bring_sm P2 S1 0 0) S1 V T F h H := hG
  generalize eP4 : fP_X7_bring_sm P2 S1 0 0 = P4 at hG
  refine lv_iload hx hb dX7_credits_35 (lv_at hl 0 rfl) ?_
  subst eP4
  subst ex3
  subst eP2
  subst eS1
  rw [credits_id hw] at hG
  have hG9 : Md D o P (fS_X7_credits P S tmp sn many) V T F h H := by
    unfold fS_X7_credits; (try dsimp only)
    exact hG
  exact W.iret hx hb hr (fun t ht hW => gQi_of (by unfold fR_X7_credits; (try dsimp only); (try rfl)) hG9 hS ht) hS.2.2 dX7_credits_37
theorem hdv_X7_creditsIn : yX7_creditsIn.cls = RX7 ∧ yX7_creditsIn.cls ≠ "java/lang/invoke/MethodHandle" ∧ yX7_creditsIn.cls ≠ "java/lang/invoke/VarHandle" ∧ (parseMethodDescriptor yX7_creditsIn.desc).map (fun d => d.parameters.length) = some 3 := by decide +kernel
def fS_X7_creditsIn (P : Nat → Int32) (S : Nat → Int32) (F : Nat → Int32) (tmp : Int32) (sn : Int32) (hrs : Int32) : Nat → Int32 :=
  if fR_X7_isWeather tmp sn = 0 then
    S
  else
    if fR_X7_in hrs 0 100 = 0 then
      S
    else
      let S4 := fS_X7_credits P S tmp sn hrs.toNatClampNeg
      S4
def fF_X7_creditsIn (P : Nat → Int32) (S : Nat → Int32) (F : Nat → Int32) (tmp : Int32) (sn : Int32) (hrs : Int32) : Nat → Int32 :=
  if fR_X7_isWeather tmp sn = 0 then
    let F1 := upd F 6 1
    F1
  else
    if fR_X7_in hrs 0 100 = 0 then
      let F2 := upd F 6 1
      F2
    else
      let F3 := upd F 6 0
      F3
def fR_X7_creditsIn (P : Nat → Int32) (S : Nat → Int32) (F : Nat → Int32) (tmp : Int32) (sn : Int32) (hrs : Int32) : Int32 :=
  if fR_X7_isWeather tmp sn = 0 then
    0
  else
    if fR_X7_in hrs 0 100 = 0 then
      0
    else
      fR_X7_credits P S tmp sn hrs.toNatClampNeg
set_option maxHeartbeats 4000000 in
set_option maxRecDepth 100000 in
theorem c_X7_creditsIn (l : Launch) (D : va_G) (o : Nat) (P S V T F : Nat → Int32) (h : Int64) (tmp : Int32) (sn : Int32) (hrs : Int32) (hw : WF P) : Met l yX7_creditsIn (wA yX7_creditsIn cX7_creditsIn 4 (some .int)) (rmL 7) (gPc D [.ref o, .int tmp, .int sn, .int hrs] (fun H => Md D o P S V T F h H)) (gQi (inM o) (fR_X7_creditsIn P S F tmp sn hrs) (fun H => Md D o P (fS_X7_creditsIn P S F tmp sn hrs) V T (fF_X7_creditsIn P S F tmp sn hrs) h H)) 0 0 (inM o) := by
  refine Met.ofW (cc := cX7_creditsIn) (maxL := 4) (ret := (some .int)) (by decide) rfl ?_
  intro p e s m args below meth c s₁ B hml hv
  obtain ⟨hav, hG, hK⟩ := hv
  have hx := B.exec
  have hb := B.bytes
  have hr := B.returns
  have hts0 := atoms_spec (ws := wA yX7_creditsIn cX7_creditsIn 4 (some .int)) B.pre
  have hts : ∀ w ∈ AW, w.before _ s = true := fun w h => hts0 w (List.mem_cons_of_mem _ h)
  have hown : s.vm.findClass RX7 = some m.cls := findClass_of_methodNamed B.named
  have hlocks := B.notSynchronized
  have hA : ∀ q, (inM o) q → (inM o) q := fun _ h => h
  have hS : va_S (inM o) s.heap s.heap [] := va_S.rf
  have hG : Md D o P S V T F h s.heap := hG
  have hl := lv_entry ([.ref o, .int tmp, .int sn, .int hrs]) (n := 4) (Nat.le_of_ble_eq_true rfl)
  refine W.eq (g2 := entryFrame m ([.ref o, .int tmp, .int sn, .int hrs] : List Value).toArray 4) (by rw [hav]) ?_
  rw [lg_entry_eq]
  generalize (lg_sl ([.ref o, .int tmp, .int sn, .int hrs]) ++ List.replicate (4 - (lg_sl ([.ref o, .int tmp, .int sn, .int hrs])).length) Slot.unset).toArray = ls at hl ⊢
  have hl : lv_has ls 4 [(0, .ref o), (1, .int tmp), (2, .int sn), (3, .int hrs)] := hl
  refine lv_aload_n hx hb dX7_creditsIn_0 rfl (lv_at hl 0 rfl) ?_
  refine lv_iload_n hx hb dX7_creditsIn_1 rfl (lv_at hl 1 rfl) ?_
  refine lv_iload_n hx hb dX7_creditsIn_2 rfl (lv_at hl 2 rfl) ?_
  refine gcSi (As := [.int tmp, .int sn]) (rest := [.ref o]) hx hb hml hown hts hl.1 hK (c_X7_isWeather l D (fun H => Md D o P S V T F h H) tmp sn) (gaS qM_X7_100 qT_X7_isWeather qK_X7 qC_X7_isWeather) hds_X7_isWeather ⟨Nat.le_of_ble_eq_true rfl, Nat.le_of_ble_eq_true rfl⟩ hG rfl (Nat.le_of_ble_eq_true rfl) ⟨Nat.zero_le _, Nat.zero_le _⟩ dX7_creditsIn_3 hS (fun _ (h : noA _) => False.elim h) (fun H locs hG _ _ hS => ?_)
  have hG : Md D o P S V T F h H := hG
  refine lv_if_eq (tgt := 23) hx hb dX7_creditsIn_6 (by decide) (fun c6 => ?_) (fun c6 => ?_)
  · refine lv_iconst (v := 1) hx hb dX7_creditsIn_23 (by decide) ?_
    refine putM 6 hx hb hts hown hK hG hS hA (by decide) qF_X7_26 rfl dX7_creditsIn_24 (fun H locs hG hS => ?_)
    generalize eF1 : upd F 6 1 = F1 at hG
    refine lv_aload_n hx hb dX7_creditsIn_27 rfl (lv_at hl 0 rfl) ?_
    refine getM 6 hx hb hts hown hK hG (by decide) qF_X7_26 rfl dX7_creditsIn_28 ?_
    refine topE (y := 1) (by rw [← eF1, upd_s]) ?_
    refine lv_if_eq (tgt := 38) hx hb dX7_creditsIn_31 (by decide) (fun c31 => ?_) (fun c31 => ?_)
    · exact absurd c31 (by decide)
    · refine lv_iconst (v := 0) hx hb dX7_creditsIn_34 (by decide) ?_
      refine lv_goto (tgt := 45) hx hb dX7_creditsIn_35 (by decide) ?_
      subst eF1
      have hG9 : Md D o P (fS_X7_creditsIn P S F tmp sn hrs) V T (fF_X7_creditsIn P S F tmp sn hrs) h H := by
        unfold fS_X7_creditsIn; (try dsimp only); (try rw [if_pos c6])
        unfold fF_X7_creditsIn; (try dsimp only); (try rw [if_pos c6])
        exact hG
      exact W.iret hx hb hr (fun t ht hW => gQi_of (by unfold fR_X7_creditsIn; (try dsimp only); (try rw [if_pos c6]); (try rfl)) hG9 hS ht) hS.2.2 dX7_creditsIn_45
  · refine lv_iload_n hx hb dX7_creditsIn_9 rfl (lv_at hl 3 rfl) ?_
    refine lv_iconst (v := 0) hx hb dX7_creditsIn_10 (by decide) ?_
    refine lv_bipush (v := 100) hx hb dX7_creditsIn_11 (by decide) ?_
    refine gcSi (As := [.int hrs, .int 0, .int 100]) (rest := [.ref o]) hx hb hml hown hts hl.1 hK (c_X7_in l D (fun H => Md D o P S V T F h H) hrs 0 100) (gaS qM_X7_37 qT_X7_in qK_X7 qC_X7_in) hds_X7_in ⟨Nat.le_of_ble_eq_true rfl, Nat.le_of_ble_eq_true rfl⟩ hG rfl (Nat.le_of_ble_eq_true rfl) ⟨Nat.zero_le _, Nat.zero_le _⟩ dX7_creditsIn_13 hS (fun _ (h : noA _) => False.elim h) (fun H locs hG _ _ hS => ?_)
    have hG : Md D o P S V T F h H := hG
    refine lv_if_eq (tgt := 23) hx hb dX7_creditsIn_16 (by decide) (fun c16 => ?_) (fun c16 => ?_)
    · refine lv_iconst (v := 1) hx hb dX7_creditsIn_23 (by decide) ?_
      refine putM 6 hx hb hts hown hK hG hS hA (by decide) qF_X7_26 rfl dX7_creditsIn_24 (fun H locs hG hS => ?_)
      generalize eF2 : upd F 6 1 = F2 at hG
      refine lv_aload_n hx hb dX7_creditsIn_27 rfl (lv_at hl 0 rfl) ?_
      refine getM 6 hx hb hts hown hK hG (by decide) qF_X7_26 rfl dX7_creditsIn_28 ?_
      refine topE (y := 1) (by rw [← eF2, upd_s]) ?_
      refine lv_if_eq (tgt := 38) hx hb dX7_creditsIn_31 (by decide) (fun c31 => ?_) (fun c31 => ?_)
      · exact absurd c31 (by decide)
      · refine lv_iconst (v := 0) hx hb dX7_creditsIn_34 (by decide) ?_
        refine lv_goto (tgt := 45) hx hb dX7_creditsIn_35 (by decide) ?_
        subst eF2
        have hG9 : Md D o P (fS_X7_creditsIn P S F tmp sn hrs) V T (fF_X7_creditsIn P S F tmp sn hrs) h H := by
          unfold fS_X7_creditsIn; (try dsimp only); (try rw [if_neg c6, if_pos c16])
          unfold fF_X7_creditsIn; (try dsimp only); (try rw [if_neg c6, if_pos c16])
          exact hG
        exact W.iret hx hb hr (fun t ht hW => gQi_of (by unfold fR_X7_creditsIn; (try dsimp only); (try rw [if_neg c6, if_pos c16]); (try rfl)) hG9 hS ht) hS.2.2 dX7_creditsIn_45
    · refine lv_iconst (v := 0) hx hb dX7_creditsIn_19 (by decide) ?_
      refine lv_goto (tgt := 24) hx hb dX7_creditsIn_20 (by decide) ?_
      refine putM 6 hx hb hts hown hK hG hS hA (by decide) qF_X7_26 rfl dX7_creditsIn_24 (fun H locs hG hS => ?_)
      generalize eF3 : upd F 6 0 = F3 at hG
      refine lv_aload_n hx hb dX7_creditsIn_27 rfl (lv_at hl 0 rfl) ?_
      refine getM 6 hx hb hts hown hK hG (by decide) qF_X7_26 rfl dX7_creditsIn_28 ?_
      refine topE (y := 0) (by rw [← eF3, upd_s]) ?_
      refine lv_if_eq (tgt := 38) hx hb dX7_creditsIn_31 (by decide) (fun c31 => ?_) (fun c31 => ?_)
      · refine lv_aload_n hx hb dX7_creditsIn_38 rfl (lv_at hl 0 rfl) ?_
        refine lv_iload_n hx hb dX7_creditsIn_39 rfl (lv_at hl 1 rfl) ?_
        refine lv_iload_n hx hb dX7_creditsIn_40 rfl (lv_at hl 2 rfl) ?_
        refine lv_iload_n hx hb dX7_creditsIn_41 rfl (lv_at hl 3 rfl) ?_
        refine topN (n := hrs.toNatClampNeg) (in_n (n := 100) (by decide) c16).1 ?_
        refine gcVi (As := [.int tmp, .int sn, .int (nI hrs.toNatClampNeg)]) (rest := []) hx hb hml hown hts hl.1 hK (c_X7_credits l D o P S V T F3 h tmp sn hrs.toNatClampNeg hw (by have := (in_n (n := 100) (by decide) c16).2; omega)) (gaV qM_X7_117 qI_X7_credits qS_X7_credits qK_X7 qC_X7_credits) hdv_X7_credits ⟨Nat.le_of_ble_eq_true rfl, Nat.le_of_ble_eq_true rfl⟩ hG (hG.recv hK) rfl (Nat.le_of_ble_eq_true rfl) ⟨Nat.zero_le _, Nat.zero_le _⟩ dX7_creditsIn_42 hS hA (fun H locs hG _ _ hS => ?_)
        have hG : Md D o P (fS_X7_credits P S tmp sn hrs.toNatClampNeg) V T F3 h H := hG
        generalize eS4 : fS_X7_credits P S tmp sn hrs.toNatClampNeg = S4 at hG
        subst eS4
        subst eF3
        have hG9 : Md D o P (fS_X7_creditsIn P S F tmp sn hrs) V T (fF_X7_creditsIn P S F tmp sn hrs) h H := by
          unfold fS_X7_creditsIn; (try dsimp only); (try rw [if_neg c6, if_neg c16])
          unfold fF_X7_creditsIn; (try dsimp only); (try rw [if_neg c6, if_neg c16])
          exact hG
        exact W.iret hx hb hr (fun t ht hW => gQi_of (by unfold fR_X7_creditsIn; (try dsimp only); (try rw [if_neg c6, if_neg c16]); (try rfl)) hG9 hS ht) hS.2.2 dX7_creditsIn_45
      · exact absurd c31 (by decide)
theorem hdv_X7_tried : yX7_tried.cls = RX7 ∧ yX7_tried.cls ≠ "java/lang/invoke/MethodHandle" ∧ yX7_tried.cls ≠ "java/lang/invoke/VarHandle" ∧ (parseMethodDescriptor yX7_tried.desc).map (fun d => d.parameters.length) = some 5 := by decide +kernel
def fS_X7_tried (P : Nat → Int32) (S : Nat → Int32) (q : Nat) (k : Nat) (tmp : Int32) (sn : Int32) (many : Nat) : Nat → Int32 :=
  let P1 := fP_X7_exchanges P q k
  let S3 := fS_X7_credits P1 S tmp sn many
  S3
def fR_X7_tried (P : Nat → Int32) (S : Nat → Int32) (q : Nat) (k : Nat) (tmp : Int32) (sn : Int32) (many : Nat) : Int32 :=
  let P1 := fP_X7_exchanges P q k
  let x4 := fR_X7_credits P1 S tmp sn many
  x4
set_option maxHeartbeats 4000000 in
set_option maxRecDepth 100000 in
theorem c_X7_tried (l : Launch) (D : va_G) (o : Nat) (P S V T F : Nat → Int32) (h : Int64) (q : Nat) (k : Nat) (tmp : Int32) (sn : Int32) (many : Nat) (hw : WF P) (hm : many < 1000) (hq : q < np P) (hk : k + 1 < nc P q) (hQ : okQ P q) : Met l yX7_tried (wA yX7_tried cX7_tried 8 (some .int)) (rmL 7) (gPc D [.ref o, .int (nI q), .int (nI k), .int tmp, .int sn, .int (nI many)] (fun H => Md D o P S V T F h H)) (gQi (inM o) (fR_X7_tried P S q k tmp sn many) (fun H => Md D o P (fS_X7_tried P S q k tmp sn many) V T F h H)) 0 0 (inM o) := by
  refine Met.ofW (cc := cX7_tried) (maxL := 8) (ret := (some .int)) (by decide) rfl ?_
  intro p e s m args below meth c s₁ B hml hv
  obtain ⟨hav, hG, hK⟩ := hv
  have hx := B.exec
  have hb := B.bytes
  have hr := B.returns
  have hts0 := atoms_spec (ws := wA yX7_tried cX7_tried 8 (some .int)) B.pre
  have hts : ∀ w ∈ AW, w.before _ s = true := fun w h => hts0 w (List.mem_cons_of_mem _ h)
  have hown : s.vm.findClass RX7 = some m.cls := findClass_of_methodNamed B.named
  have hlocks := B.notSynchronized
  have hA : ∀ q, (inM o) q → (inM o) q := fun _ h => h
  have hS : va_S (inM o) s.heap s.heap [] := va_S.rf
  have hG : Md D o P S V T F h s.heap := hG
  have hl := lv_entry ([.ref o, .int (nI q), .int (nI k), .int tmp, .int sn, .int (nI many)]) (n := 8) (Nat.le_of_ble_eq_true rfl)
  refine W.eq (g2 := entryFrame m ([.ref o, .int (nI q), .int (nI k), .int tmp, .int sn, .int (nI many)] : List Value).toArray 8) (by rw [hav]) ?_
  rw [lg_entry_eq]
  generalize (lg_sl ([.ref o, .int (nI q), .int (nI k), .int tmp, .int sn, .int (nI many)]) ++ List.replicate (8 - (lg_sl ([.ref o, .int (nI q), .int (nI k), .int tmp, .int sn, .int (nI many)])).length) Slot.unset).toArray = ls at hl ⊢
  have hl : lv_has ls 8 [(0, .ref o), (1, .int (nI q)), (2, .int (nI k)), (3, .int tmp), (4, .int sn), (5, .int (nI many))] := hl
  have hq3 : q < 3 := by have := hw.1.2.2.2; omega
  have hk12 : k + 1 < 12 := by have := hQ.2; omega
  refine lv_aload_n hx hb dX7_tried_0 rfl (lv_at hl 0 rfl) ?_
  refine lv_iload_n hx hb dX7_tried_1 rfl (lv_at hl 1 rfl) ?_
  refine lv_iload_n hx hb dX7_tried_2 rfl (lv_at hl 2 rfl) ?_
  refine gcVi (As := [.int (nI q), .int (nI k)]) (rest := []) hx hb hml hown hts hl.1 hK (c_X7_exchanges l D o P S V T F h q k (by first | assumption | omega) (by first | assumption | omega)) (gaV qM_X7_68 qI_X7_exchanges qS_X7_exchanges qK_X7 qC_X7_exchanges) hdv_X7_exchanges ⟨Nat.le_of_ble_eq_true rfl, Nat.le_of_ble_eq_true rfl⟩ hG (hG.recv hK) rfl (Nat.le_of_ble_eq_true rfl) ⟨Nat.zero_le _, Nat.zero_le _⟩ dX7_tried_3 hS hA (fun H locs hG _ _ hS => ?_)
  have hG : Md D o (fP_X7_exchanges P q k) S V T F h H := hG
  generalize eP1 : fP_X7_exchanges P q k = P1 at hG
  refine lv_topi (fun x2 ex2 => ?_)
  refine lv_istore (lv' := [(6, .int x2), (0, .ref o), (1, .int (nI q)), (2, .int (nI k)), (3, .int tmp), (4, .int sn), (5, .int (nI many))]) hx hb dX7_tried_6 hl (by decide) rfl (fun ls hl => ?_)
  refine lv_aload_n hx hb dX7_tried_8 rfl (lv_at hl 1 rfl) ?_
  refine lv_iload_n hx hb dX7_tried_9 rfl (lv_at hl 4 rfl) ?_
  refine lv_iload hx hb dX7_tried_10 (lv_at hl 5 rfl) ?_
  refine lv_iload hx hb dX7_tried_12 (lv_at hl 6 rfl) ?_
  refine gcVi (As := [.int tmp, .int sn, .int (nI many)]) (rest := []) hx hb hml hown hts hl.1 hK (c_X7_credits l D o P1 S V T F h tmp sn many (by subst_vars; exact WF_exchanges hq hk hQ hw) (by first | assumption | omega)) (gaV qM_X7_117 qI_X7_credits qS_X7_credits qK_X7 qC_X7_credits) hdv_X7_credits ⟨Nat.le_of_ble_eq_true rfl, Nat.le_of_ble_eq_true rfl⟩ hG (hG.recv hK) rfl (Nat.le_of_ble_eq_true rfl) ⟨Nat.zero_le _, Nat.zero_le _⟩ dX7_tried_14 hS hA (fun H locs hG _ _ hS => ?_)
  have hG : Md D o P1 (fS_X7_credits P1 S tmp sn many) V T F h H := hG
  generalize eS3 : fS_X7_credits P1 S tmp sn many = S3 at hG
  refine lv_topi (fun x4 ex4 => ?_)
  refine lv_istore (lv' := [(7, .int x4), (6, .int x2), (0, .ref o), (1, .int (nI q)), (2, .int (nI k)), (3, .int tmp), (4, .int sn), (5, .int (nI many))]) hx hb dX7_tried_17 hl (by decide) rfl (fun ls hl => ?_)
  refine lv_aload_n hx hb dX7_tried_19 rfl (lv_at hl 2 rfl) ?_
  refine lv_iload_n hx hb dX7_tried_20 rfl (lv_at hl 3 rfl) ?_
  refine lv_iload_n hx hb dX7_tried_21 rfl (lv_at hl 4 rfl) ?_
  refine gcVi (As := [.int (nI q), .int (nI k)]) (rest := []) hx hb hml hown hts hl.1 hK (c_X7_exchanges l D o P1 S3 V T F h q k (by first | assumption | omega) (by first | assumption | omega)) (gaV qM_X7_68 qI_X7_exchanges qS_X7_exchanges qK_X7 qC_X7_exchanges) hdv_X7_exchanges ⟨Nat.le_of_ble_eq_true rfl, Nat.le_of_ble_eq_true rfl⟩ hG (hG.recv hK) rfl (Nat.le_of_ble_eq_true rfl) ⟨Nat.zero_le _, Nat.zero_le _⟩ dX7_tried_22 hS hA (fun H locs hG _ _ hS => ?_)
  have hG : Md D o (fP_X7_exchanges P1 q k) S3 V T F h H := hG
  generalize eP5 : fP_X7_exchanges P1 q k = P5 at hG
  refine lv_topi (fun x6 ex6 => ?_)
  refine lv_istore (lv' := [(6, .int x6), (7, .int x4), (0, .ref o), (1, .int (nI q)), (2, .int (nI k)), (3, .int tmp), (4, .int sn), (5, .int (nI many))]) hx hb dX7_tried_25 hl (by decide) rfl (fun ls hl => ?_)
  refine lv_iload hx hb dX7_tried_27 (lv_at hl 1 rfl) ?_
  subst ex6
  subst eP5
  subst ex4
  subst eS3
  subst ex2
  subst eP1
  rw [exch2 hk12] at hG
  have hG9 : Md D o P (fS_X7_tried P S q k tmp sn many) V T F h H := by
    unfold fS_X7_tried; (try dsimp only)
    exact hG
  exact W.iret hx hb hr (fun t ht hW => gQi_of (by unfold fR_X7_tried; (try dsimp only); (try rfl)) hG9 hS ht) hS.2.2 dX7_tried_29
theorem hdv_X7_bestExchange : yX7_bestExchange.cls = RX7 ∧ yX7_bestExchange.cls ≠ "java/lang/invoke/MethodHandle" ∧ yX7_bestExchange.cls ≠ "java/lang/invoke/VarHandle" ∧ (parseMethodDescriptor yX7_bestExchange.desc).map (fun d => d.parameters.length) = some 4 := by decide +kernel
def fS_X7_bestExchange_L65 (P : Nat → Int32) (pl : Int32) (tmp : Int32) (sn : Int32) (hrs : Int32) : Nat → Int32 → Int32 → Nat → (Nat → Int32) → (Nat → Int32) → Nat → Int32
  | 0, best, least, j, Sl, Fl =>
    Sl
  | k + 1, best, least, j, Sl, Fl =>
    if fR_X7_isPair P pl.toNatClampNeg (nI j) = 0 then
      Sl
    else
      if fR_X7_isBusy P pl.toNatClampNeg (nI j) = 0 then
        let S6 := fS_X7_tried P Sl pl.toNatClampNeg j tmp sn hrs.toNatClampNeg
        let x7 := fR_X7_tried P Sl pl.toNatClampNeg j tmp sn hrs.toNatClampNeg
        if least ≤ x7 then
          let x8 := fR_X7_lesser x7 least
          fS_X7_bestExchange_L65 P pl tmp sn hrs k best x8 (j + 1) S6 Fl
        else
          let x9 := fR_X7_lesser x7 least
          fS_X7_bestExchange_L65 P pl tmp sn hrs k (nI j) x9 (j + 1) S6 Fl
      else
        fS_X7_bestExchange_L65 P pl tmp sn hrs k best least (j + 1) Sl Fl
def fF_X7_bestExchange_L65 (P : Nat → Int32) (pl : Int32) (tmp : Int32) (sn : Int32) (hrs : Int32) : Nat → Int32 → Int32 → Nat → (Nat → Int32) → (Nat → Int32) → Nat → Int32
  | 0, best, least, j, Sl, Fl =>
    Fl
  | k + 1, best, least, j, Sl, Fl =>
    if fR_X7_isPair P pl.toNatClampNeg (nI j) = 0 then
      Fl
    else
      if fR_X7_isBusy P pl.toNatClampNeg (nI j) = 0 then
        let S6 := fS_X7_tried P Sl pl.toNatClampNeg j tmp sn hrs.toNatClampNeg
        let x7 := fR_X7_tried P Sl pl.toNatClampNeg j tmp sn hrs.toNatClampNeg
        if least ≤ x7 then
          let x8 := fR_X7_lesser x7 least
          fF_X7_bestExchange_L65 P pl tmp sn hrs k best x8 (j + 1) S6 Fl
        else
          let x9 := fR_X7_lesser x7 least
          fF_X7_bestExchange_L65 P pl tmp sn hrs k (nI j) x9 (j + 1) S6 Fl
      else
        fF_X7_bestExchange_L65 P pl tmp sn hrs k best least (j + 1) Sl Fl
def fR_X7_bestExchange_L65 (P : Nat → Int32) (pl : Int32) (tmp : Int32) (sn : Int32) (hrs : Int32) : Nat → Int32 → Int32 → Nat → (Nat → Int32) → (Nat → Int32) → Int32
  | 0, best, least, j, Sl, Fl =>
    best
  | k + 1, best, least, j, Sl, Fl =>
    if fR_X7_isPair P pl.toNatClampNeg (nI j) = 0 then
      best
    else
      if fR_X7_isBusy P pl.toNatClampNeg (nI j) = 0 then
        let S6 := fS_X7_tried P Sl pl.toNatClampNeg j tmp sn hrs.toNatClampNeg
        let x7 := fR_X7_tried P Sl pl.toNatClampNeg j tmp sn hrs.toNatClampNeg
        if least ≤ x7 then
          let x8 := fR_X7_lesser x7 least
          fR_X7_bestExchange_L65 P pl tmp sn hrs k best x8 (j + 1) S6 Fl
        else
          let x9 := fR_X7_lesser x7 least
          fR_X7_bestExchange_L65 P pl tmp sn hrs k (nI j) x9 (j + 1) S6 Fl
      else
        fR_X7_bestExchange_L65 P pl tmp sn hrs k best least (j + 1) Sl Fl
def fS_X7_bestExchange (P : Nat → Int32) (S : Nat → Int32) (F : Nat → Int32) (pl : Int32) (tmp : Int32) (sn : Int32) (hrs : Int32) : Nat → Int32 :=
  if fR_X7_isPlow P pl = 0 then
    S
  else
    if fR_X7_isWeather tmp sn = 0 then
      S
    else
      if fR_X7_in hrs 0 50 = 0 then
        S
      else
        let F3 := upd F 6 0
        let S4 := fS_X7_credits P S tmp sn hrs.toNatClampNeg
        let x5 := fR_X7_credits P S tmp sn hrs.toNatClampNeg
        fS_X7_bestExchange_L65 P pl tmp sn hrs 12 (-1) x5 0 S4 F3
def fF_X7_bestExchange (P : Nat → Int32) (S : Nat → Int32) (F : Nat → Int32) (pl : Int32) (tmp : Int32) (sn : Int32) (hrs : Int32) : Nat → Int32 :=
  if fR_X7_isPlow P pl = 0 then
    let F10 := upd F 6 1
    F10
  else
    if fR_X7_isWeather tmp sn = 0 then
      let F1 := upd F 6 2
      F1
    else
      if fR_X7_in hrs 0 50 = 0 then
        let F2 := upd F 6 2
        F2
      else
        let F3 := upd F 6 0
        let S4 := fS_X7_credits P S tmp sn hrs.toNatClampNeg
        let x5 := fR_X7_credits P S tmp sn hrs.toNatClampNeg
        fF_X7_bestExchange_L65 P pl tmp sn hrs 12 (-1) x5 0 S4 F3
def fR_X7_bestExchange (P : Nat → Int32) (S : Nat → Int32) (F : Nat → Int32) (pl : Int32) (tmp : Int32) (sn : Int32) (hrs : Int32) : Int32 :=
  if fR_X7_isPlow P pl = 0 then
    0
  else
    if fR_X7_isWeather tmp sn = 0 then
      0
    else
      if fR_X7_in hrs 0 50 = 0 then
        0
      else
        let F3 := upd F 6 0
        let S4 := fS_X7_credits P S tmp sn hrs.toNatClampNeg
        let x5 := fR_X7_credits P S tmp sn hrs.toNatClampNeg
        fR_X7_bestExchange_L65 P pl tmp sn hrs 12 (-1) x5 0 S4 F3
set_option maxHeartbeats 4000000 in
set_option maxRecDepth 100000 in
theorem c_X7_bestExchange (l : Launch) (D : va_G) (o : Nat) (P S V T F : Nat → Int32) (h : Int64) (pl : Int32) (tmp : Int32) (sn : Int32) (hrs : Int32) (hw : WF P) (hQ : ∀ q, q < np P → okQ P q) : Met l yX7_bestExchange (wA yX7_bestExchange cX7_bestExchange 9 (some .int)) (rmL 8) (gPc D [.ref o, .int pl, .int tmp, .int sn, .int hrs] (fun H => Md D o P S V T F h H)) (gQi (inM o) (fR_X7_bestExchange P S F pl tmp sn hrs) (fun H => Md D o P (fS_X7_bestExchange P S F pl tmp sn hrs) V T (fF_X7_bestExchange P S F pl tmp sn hrs) h H)) 0 0 (inM o) := by
  refine Met.ofW (cc := cX7_bestExchange) (maxL := 9) (ret := (some .int)) (by decide) rfl ?_
  intro p e s m args below meth c s₁ B hml hv
  obtain ⟨hav, hG, hK⟩ := hv
  have hx := B.exec
  have hb := B.bytes
  have hr := B.returns
  have hts0 := atoms_spec (ws := wA yX7_bestExchange cX7_bestExchange 9 (some .int)) B.pre
  have hts : ∀ w ∈ AW, w.before _ s = true := fun w h => hts0 w (List.mem_cons_of_mem _ h)
  have hown : s.vm.findClass RX7 = some m.cls := findClass_of_methodNamed B.named
  have hlocks := B.notSynchronized
  have hA : ∀ q, (inM o) q → (inM o) q := fun _ h => h
  have hS : va_S (inM o) s.heap s.heap [] := va_S.rf
  have hG : Md D o P S V T F h s.heap := hG
  have hl := lv_entry ([.ref o, .int pl, .int tmp, .int sn, .int hrs]) (n := 9) (Nat.le_of_ble_eq_true rfl)
  refine W.eq (g2 := entryFrame m ([.ref o, .int pl, .int tmp, .int sn, .int hrs] : List Value).toArray 9) (by rw [hav]) ?_
  rw [lg_entry_eq]
  generalize (lg_sl ([.ref o, .int pl, .int tmp, .int sn, .int hrs]) ++ List.replicate (9 - (lg_sl ([.ref o, .int pl, .int tmp, .int sn, .int hrs])).length) Slot.unset).toArray = ls at hl ⊢
  have hl : lv_has ls 9 [(0, .ref o), (1, .int pl), (2, .int tmp), (3, .int sn), (4, .int hrs)] := hl
  have hN := hw.1
  have hn3 := hw.1.2.2.2
  have L65 : ∀ (k : Nat) (best : Int32) (least : Int32) (j : Nat) (Sl : Nat → Int32) (Fl : Nat → Int32) (H : Heap) (locs : List Loc) (ls : Array Slot) (hpl : pl = nI pl.toNatClampNeg ∧ pl.toNatClampNeg < np P) (hp3 : pl.toNatClampNeg < 3) (hh : hrs = nI hrs.toNatClampNeg ∧ hrs.toNatClampNeg ≤ 50) (hq9 : okQ P pl.toNatClampNeg) (hj : j + k = 12) (hfS : fS_X7_bestExchange P S F pl tmp sn hrs = fS_X7_bestExchange_L65 P pl tmp sn hrs k best least j Sl Fl) (hfF : fF_X7_bestExchange P S F pl tmp sn hrs = fF_X7_bestExchange_L65 P pl tmp sn hrs k best least j Sl Fl) (hfR : fR_X7_bestExchange P S F pl tmp sn hrs = fR_X7_bestExchange_L65 P pl tmp sn hrs k best least j Sl Fl) (hG : Md D o P Sl V T Fl h H) (hS : va_S (inM o) s.heap H locs) (hl : lv_has ls 9 [(0, .ref o), (1, .int pl), (2, .int tmp), (3, .int sn), (4, .int hrs), (5, .int best), (6, .int least), (7, .int (nI j))]), W p l e (headSpec (wA yX7_bestExchange cX7_bestExchange 9 (some .int)) (rmL 8)).room s m args below meth c H locs 0 0 (MQ below (gQi (inM o) (fR_X7_bestExchange P S F pl tmp sn hrs) (fun H => Md D o P (fS_X7_bestExchange P S F pl tmp sn hrs) V T (fF_X7_bestExchange P S F pl tmp sn hrs) h H)) args s 0 0 (inM o)) (F0 m 65 ls []) := by
    intro k
    induction k with
    | zero =>
      intro best least j Sl Fl H locs ls hpl hp3 hh hq9 hj hfS hfF hfR hG hS hl
      refine lv_aload_n hx hb dX7_bestExchange_65 rfl (lv_at hl 0 rfl) ?_
      refine lv_iload_n hx hb dX7_bestExchange_66 rfl (lv_at hl 1 rfl) ?_
      refine topN (n := pl.toNatClampNeg) hpl.1 ?_
      refine lv_iload hx hb dX7_bestExchange_67 (lv_at hl 7 rfl) ?_
      refine gcVi (As := [.int (nI pl.toNatClampNeg), .int (nI j)]) (rest := []) hx hb hml hown hts hl.1 hK (c_X7_isPair l D o P Sl V T Fl h pl.toNatClampNeg (nI j) hp3) (gaV qM_X7_61 qI_X7_isPair qS_X7_isPair qK_X7 qC_X7_isPair) hdv_X7_isPair ⟨Nat.le_of_ble_eq_true rfl, Nat.le_of_ble_eq_true rfl⟩ hG (hG.recv hK) rfl (Nat.le_of_ble_eq_true rfl) ⟨Nat.zero_le _, Nat.zero_le _⟩ dX7_bestExchange_69 hS hA (fun H locs hG _ _ hS => ?_)
      have hG : Md D o P Sl V T Fl h H := hG
      refine lv_if_eq (tgt := 129) hx hb dX7_bestExchange_72 (by decide) (fun c72 => ?_) (fun c72 => ?_)
      · refine lv_iload hx hb dX7_bestExchange_129 (lv_at hl 5 rfl) ?_
        have hG9 : Md D o P (fS_X7_bestExchange P S F pl tmp sn hrs) V T (fF_X7_bestExchange P S F pl tmp sn hrs) h H := by
          rw [hfS, fS_X7_bestExchange_L65]; (try dsimp only)
          rw [hfF, fF_X7_bestExchange_L65]; (try dsimp only)
          exact hG
        exact W.iret hx hb hr (fun t ht hW => gQi_of (by rw [hfR, fR_X7_bestExchange_L65]; (try dsimp only); (try rfl)) hG9 hS ht) hS.2.2 dX7_bestExchange_131
      · exact absurd (isPair_nn (by omega) hq9 c72).2 (by omega)
    | succ k ih =>
      intro best least j Sl Fl H locs ls hpl hp3 hh hq9 hj hfS hfF hfR hG hS hl
      refine lv_aload_n hx hb dX7_bestExchange_65 rfl (lv_at hl 0 rfl) ?_
      refine lv_iload_n hx hb dX7_bestExchange_66 rfl (lv_at hl 1 rfl) ?_
      refine topN (n := pl.toNatClampNeg) hpl.1 ?_
      refine lv_iload hx hb dX7_bestExchange_67 (lv_at hl 7 rfl) ?_
      refine gcVi (As := [.int (nI pl.toNatClampNeg), .int (nI j)]) (rest := []) hx hb hml hown hts hl.1 hK (c_X7_isPair l D o P Sl V T Fl h pl.toNatClampNeg (nI j) hp3) (gaV qM_X7_61 qI_X7_isPair qS_X7_isPair qK_X7 qC_X7_isPair) hdv_X7_isPair ⟨Nat.le_of_ble_eq_true rfl, Nat.le_of_ble_eq_true rfl⟩ hG (hG.recv hK) rfl (Nat.le_of_ble_eq_true rfl) ⟨Nat.zero_le _, Nat.zero_le _⟩ dX7_bestExchange_69 hS hA (fun H locs hG _ _ hS => ?_)
      have hG : Md D o P Sl V T Fl h H := hG
      refine lv_if_eq (tgt := 129) hx hb dX7_bestExchange_72 (by decide) (fun c72 => ?_) (fun c72 => ?_)
      · refine lv_iload hx hb dX7_bestExchange_129 (lv_at hl 5 rfl) ?_
        have hG9 : Md D o P (fS_X7_bestExchange P S F pl tmp sn hrs) V T (fF_X7_bestExchange P S F pl tmp sn hrs) h H := by
          rw [hfS, fS_X7_bestExchange_L65]; (try dsimp only); (try rw [if_pos c72])
          rw [hfF, fF_X7_bestExchange_L65]; (try dsimp only); (try rw [if_pos c72])
          exact hG
        exact W.iret hx hb hr (fun t ht hW => gQi_of (by rw [hfR, fR_X7_bestExchange_L65]; (try dsimp only); (try rw [if_pos c72]); (try rfl)) hG9 hS ht) hS.2.2 dX7_bestExchange_131
      · refine lv_aload_n hx hb dX7_bestExchange_75 rfl (lv_at hl 0 rfl) ?_
        refine lv_iload_n hx hb dX7_bestExchange_76 rfl (lv_at hl 1 rfl) ?_
        refine topN (n := pl.toNatClampNeg) hpl.1 ?_
        refine lv_iload hx hb dX7_bestExchange_77 (lv_at hl 7 rfl) ?_
        refine gcVi (As := [.int (nI pl.toNatClampNeg), .int (nI j)]) (rest := []) hx hb hml hown hts hl.1 hK (c_X7_isBusy l D o P Sl V T Fl h pl.toNatClampNeg (nI j) hp3) (gaV qM_X7_65 qI_X7_isBusy qS_X7_isBusy qK_X7 qC_X7_isBusy) hdv_X7_isBusy ⟨Nat.le_of_ble_eq_true rfl, Nat.le_of_ble_eq_true rfl⟩ hG (hG.recv hK) rfl (Nat.le_of_ble_eq_true rfl) ⟨Nat.zero_le _, Nat.zero_le _⟩ dX7_bestExchange_79 hS hA (fun H locs hG _ _ hS => ?_)
        have hG : Md D o P Sl V T Fl h H := hG
        refine lv_if_ne (tgt := 123) hx hb dX7_bestExchange_82 (by decide) (fun c82 => ?_) (fun c82 => ?_)
        · refine lv_iinc (v := nI (j + 1)) (lv' := [(7, .int (nI (j + 1))), (0, .ref o), (1, .int pl), (2, .int tmp), (3, .int sn), (4, .int hrs), (5, .int best), (6, .int least)]) hx hb dX7_bestExchange_123 hl (k := 7) rfl (nI_add j 1) (by decide) rfl (fun ls hl => ?_)
          refine lv_goto (tgt := 65) hx hb dX7_bestExchange_126 (by decide) ?_
          exact ih _ _ (j + 1) _ _ _ _ _ hpl hp3 hh hq9 (by first | assumption | omega) (by rw [hfS, fS_X7_bestExchange_L65]; (try dsimp only); (try rw [if_neg c72, if_neg c82]); (try rfl)) (by rw [hfF, fF_X7_bestExchange_L65]; (try dsimp only); (try rw [if_neg c72, if_neg c82]); (try rfl)) (by rw [hfR, fR_X7_bestExchange_L65]; (try dsimp only); (try rw [if_neg c72, if_neg c82]); (try rfl)) hG hS (lv_sub hl [1, 2, 3, 4, 5, 6, 7, 0] rfl)
        · refine lv_aload_n hx hb dX7_bestExchange_85 rfl (lv_at hl 0 rfl) ?_
          refine lv_iload_n hx hb dX7_bestExchange_86 rfl (lv_at hl 1 rfl) ?_
          refine topN (n := pl.toNatClampNeg) hpl.1 ?_
          refine lv_iload hx hb dX7_bestExchange_87 (lv_at hl 7 rfl) ?_
          refine lv_iload_n hx hb dX7_bestExchange_89 rfl (lv_at hl 2 rfl) ?_
          refine lv_iload_n hx hb dX7_bestExchange_90 rfl (lv_at hl 3 rfl) ?_
          refine lv_iload hx hb dX7_bestExchange_91 (lv_at hl 4 rfl) ?_
          refine topN (n := hrs.toNatClampNeg) hh.1 ?_
          refine gcVi (As := [.int (nI pl.toNatClampNeg), .int (nI j), .int tmp, .int sn, .int (nI hrs.toNatClampNeg)]) (rest := []) hx hb hml hown hts hl.1 hK (c_X7_tried l D o P Sl V T Fl h pl.toNatClampNeg j tmp sn hrs.toNatClampNeg hw (by have := hh.2; omega) hpl.2 (isPair_nn (by omega) hq9 c72).1 hq9) (gaV qM_X7_120 qI_X7_tried qS_X7_tried qK_X7 qC_X7_tried) hdv_X7_tried ⟨Nat.le_of_ble_eq_true rfl, Nat.le_of_ble_eq_true rfl⟩ hG (hG.recv hK) rfl (Nat.le_of_ble_eq_true rfl) ⟨Nat.zero_le _, Nat.zero_le _⟩ dX7_bestExchange_93 hS hA (fun H locs hG _ _ hS => ?_)
          have hG : Md D o P (fS_X7_tried P Sl pl.toNatClampNeg j tmp sn hrs.toNatClampNeg) V T Fl h H := hG
          generalize eS6 : fS_X7_tried P Sl pl.toNatClampNeg j tmp sn hrs.toNatClampNeg = S6 at hG
          refine lv_topi (fun x7 ex7 => ?_)
          refine lv_istore (lv' := [(8, .int x7), (0, .ref o), (1, .int pl), (2, .int tmp), (3, .int sn), (4, .int hrs), (5, .int best), (6, .int least), (7, .int (nI j))]) hx hb dX7_bestExchange_96 hl (by decide) rfl (fun ls hl => ?_)
          refine lv_iload hx hb dX7_bestExchange_98 (lv_at hl 0 rfl) ?_
          refine lv_iload hx hb dX7_bestExchange_100 (lv_at hl 7 rfl) ?_
          refine lv_icmp_ge (tgt := 110) hx hb dX7_bestExchange_102 (by decide) (fun c102 => ?_) (fun c102 => ?_)
          · refine lv_iload hx hb dX7_bestExchange_110 (lv_at hl 6 rfl) ?_
            refine lv_istore (lv' := [(5, .int best), (8, .int x7), (0, .ref o), (1, .int pl), (2, .int tmp), (3, .int sn), (4, .int hrs), (6, .int least), (7, .int (nI j))]) hx hb dX7_bestExchange_112 hl (by decide) rfl (fun ls hl => ?_)
            refine lv_iload hx hb dX7_bestExchange_114 (lv_at hl 1 rfl) ?_
            refine lv_iload hx hb dX7_bestExchange_116 (lv_at hl 7 rfl) ?_
            refine gcSi (As := [.int x7, .int least]) (rest := []) hx hb hml hown hts hl.1 hK (c_X7_lesser l D (fun H => Md D o P S6 V T Fl h H) x7 least) (gaS qM_X7_72 qT_X7_lesser qK_X7 qC_X7_lesser) hds_X7_lesser ⟨Nat.le_of_ble_eq_true rfl, Nat.le_of_ble_eq_true rfl⟩ hG rfl (Nat.le_of_ble_eq_true rfl) ⟨Nat.zero_le _, Nat.zero_le _⟩ dX7_bestExchange_118 hS (fun _ (h : noA _) => False.elim h) (fun H locs hG _ _ hS => ?_)
            have hG : Md D o P S6 V T Fl h H := hG
            refine lv_topi (fun x8 ex8 => ?_)
            refine lv_istore (lv' := [(6, .int x8), (5, .int best), (8, .int x7), (0, .ref o), (1, .int pl), (2, .int tmp), (3, .int sn), (4, .int hrs), (7, .int (nI j))]) hx hb dX7_bestExchange_121 hl (by decide) rfl (fun ls hl => ?_)
            refine lv_iinc (v := nI (j + 1)) (lv' := [(7, .int (nI (j + 1))), (6, .int x8), (5, .int best), (8, .int x7), (0, .ref o), (1, .int pl), (2, .int tmp), (3, .int sn), (4, .int hrs)]) hx hb dX7_bestExchange_123 hl (k := 8) rfl (nI_add j 1) (by decide) rfl (fun ls hl => ?_)
            refine lv_goto (tgt := 65) hx hb dX7_bestExchange_126 (by decide) ?_
            subst ex8
            subst ex7
            subst eS6
            exact ih _ _ (j + 1) _ _ _ _ _ hpl hp3 hh hq9 (by first | assumption | omega) (by rw [hfS, fS_X7_bestExchange_L65]; (try dsimp only); (try rw [if_neg c72, if_pos c82, if_pos c102]); (try rfl)) (by rw [hfF, fF_X7_bestExchange_L65]; (try dsimp only); (try rw [if_neg c72, if_pos c82, if_pos c102]); (try rfl)) (by rw [hfR, fR_X7_bestExchange_L65]; (try dsimp only); (try rw [if_neg c72, if_pos c82, if_pos c102]); (try rfl)) hG hS (lv_sub hl [4, 5, 6, 7, 8, 2, 1, 0] rfl)
          · refine lv_iload hx hb dX7_bestExchange_105 (lv_at hl 8 rfl) ?_
            refine lv_goto (tgt := 112) hx hb dX7_bestExchange_107 (by decide) ?_
            refine lv_istore (lv' := [(5, .int (nI j)), (8, .int x7), (0, .ref o), (1, .int pl), (2, .int tmp), (3, .int sn), (4, .int hrs), (6, .int least), (7, .int (nI j))]) hx hb dX7_bestExchange_112 hl (by decide) rfl (fun ls hl => ?_)
            refine lv_iload hx hb dX7_bestExchange_114 (lv_at hl 1 rfl) ?_
            refine lv_iload hx hb dX7_bestExchange_116 (lv_at hl 7 rfl) ?_
            refine gcSi (As := [.int x7, .int least]) (rest := []) hx hb hml hown hts hl.1 hK (c_X7_lesser l D (fun H => Md D o P S6 V T Fl h H) x7 least) (gaS qM_X7_72 qT_X7_lesser qK_X7 qC_X7_lesser) hds_X7_lesser ⟨Nat.le_of_ble_eq_true rfl, Nat.le_of_ble_eq_true rfl⟩ hG rfl (Nat.le_of_ble_eq_true rfl) ⟨Nat.zero_le _, Nat.zero_le _⟩ dX7_bestExchange_118 hS (fun _ (h : noA _) => False.elim h) (fun H locs hG _ _ hS => ?_)
            have hG : Md D o P S6 V T Fl h H := hG
            refine lv_topi (fun x9 ex9 => ?_)
            refine lv_istore (lv' := [(6, .int x9), (5, .int (nI j)), (8, .int x7), (0, .ref o), (1, .int pl), (2, .int tmp), (3, .int sn), (4, .int hrs), (7, .int (nI j))]) hx hb dX7_bestExchange_121 hl (by decide) rfl (fun ls hl => ?_)
            refine lv_iinc (v := nI (j + 1)) (lv' := [(7, .int (nI (j + 1))), (6, .int x9), (5, .int (nI j)), (8, .int x7), (0, .ref o), (1, .int pl), (2, .int tmp), (3, .int sn), (4, .int hrs)]) hx hb dX7_bestExchange_123 hl (k := 8) rfl (nI_add j 1) (by decide) rfl (fun ls hl => ?_)
            refine lv_goto (tgt := 65) hx hb dX7_bestExchange_126 (by decide) ?_
            subst ex9
            subst ex7
            subst eS6
            exact ih _ _ (j + 1) _ _ _ _ _ hpl hp3 hh hq9 (by first | assumption | omega) (by rw [hfS, fS_X7_bestExchange_L65]; (try dsimp only); (try rw [if_neg c72, if_pos c82, if_neg c102]); (try rfl)) (by rw [hfF, fF_X7_bestExchange_L65]; (try dsimp only); (try rw [if_neg c72, if_pos c82, if_neg c102]); (try rfl)) (by rw [hfR, fR_X7_bestExchange_L65]; (try dsimp only); (try rw [if_neg c72, if_pos c82, if_neg c102]); (try rfl)) hG hS (lv_sub hl [4, 5, 6, 7, 8, 2, 1, 0] rfl)
  refine lv_aload_n hx hb dX7_bestExchange_0 rfl (lv_at hl 0 rfl) ?_
  refine lv_aload_n hx hb dX7_bestExchange_1 rfl (lv_at hl 0 rfl) ?_
  refine lv_iload_n hx hb dX7_bestExchange_2 rfl (lv_at hl 1 rfl) ?_
  refine gcVi (As := [.int pl]) (rest := [.ref o]) hx hb hml hown hts hl.1 hK (c_X7_isPlow l D o P S V T F h pl) (gaV qM_X7_51 qI_X7_isPlow qS_X7_isPlow qK_X7 qC_X7_isPlow) hdv_X7_isPlow ⟨Nat.le_of_ble_eq_true rfl, Nat.le_of_ble_eq_true rfl⟩ hG (hG.recv hK) rfl (Nat.le_of_ble_eq_true rfl) ⟨Nat.zero_le _, Nat.zero_le _⟩ dX7_bestExchange_3 hS hA (fun H locs hG _ _ hS => ?_)
  have hG : Md D o P S V T F h H := hG
  refine lv_if_ne (tgt := 13) hx hb dX7_bestExchange_6 (by decide) (fun c6 => ?_) (fun c6 => ?_)
  · refine lv_iload_n hx hb dX7_bestExchange_13 rfl (lv_at hl 2 rfl) ?_
    refine lv_iload_n hx hb dX7_bestExchange_14 rfl (lv_at hl 3 rfl) ?_
    refine gcSi (As := [.int tmp, .int sn]) (rest := [.ref o]) hx hb hml hown hts hl.1 hK (c_X7_isWeather l D (fun H => Md D o P S V T F h H) tmp sn) (gaS qM_X7_100 qT_X7_isWeather qK_X7 qC_X7_isWeather) hds_X7_isWeather ⟨Nat.le_of_ble_eq_true rfl, Nat.le_of_ble_eq_true rfl⟩ hG rfl (Nat.le_of_ble_eq_true rfl) ⟨Nat.zero_le _, Nat.zero_le _⟩ dX7_bestExchange_15 hS (fun _ (h : noA _) => False.elim h) (fun H locs hG _ _ hS => ?_)
    have hG : Md D o P S V T F h H := hG
    refine lv_if_eq (tgt := 36) hx hb dX7_bestExchange_18 (by decide) (fun c18 => ?_) (fun c18 => ?_)
    · refine lv_iconst (v := 2) hx hb dX7_bestExchange_36 (by decide) ?_
      refine putM 6 hx hb hts hown hK hG hS hA (by decide) qF_X7_26 rfl dX7_bestExchange_37 (fun H locs hG hS => ?_)
      generalize eF1 : upd F 6 2 = F1 at hG
      refine lv_aload_n hx hb dX7_bestExchange_40 rfl (lv_at hl 0 rfl) ?_
      refine getM 6 hx hb hts hown hK hG (by decide) qF_X7_26 rfl dX7_bestExchange_41 ?_
      refine topE (y := 2) (by rw [← eF1, upd_s]) ?_
      refine lv_if_eq (tgt := 49) hx hb dX7_bestExchange_44 (by decide) (fun c44 => ?_) (fun c44 => ?_)
      · exact absurd c44 (by decide)
      · refine lv_iconst (v := 0) hx hb dX7_bestExchange_47 (by decide) ?_
        subst eF1
        have hG9 : Md D o P (fS_X7_bestExchange P S F pl tmp sn hrs) V T (fF_X7_bestExchange P S F pl tmp sn hrs) h H := by
          unfold fS_X7_bestExchange; (try dsimp only); (try rw [if_neg c6, if_pos c18])
          unfold fF_X7_bestExchange; (try dsimp only); (try rw [if_neg c6, if_pos c18])
          exact hG
        exact W.iret hx hb hr (fun t ht hW => gQi_of (by unfold fR_X7_bestExchange; (try dsimp only); (try rw [if_neg c6, if_pos c18]); (try rfl)) hG9 hS ht) hS.2.2 dX7_bestExchange_48
    · refine lv_iload hx hb dX7_bestExchange_21 (lv_at hl 4 rfl) ?_
      refine lv_iconst (v := 0) hx hb dX7_bestExchange_23 (by decide) ?_
      refine lv_bipush (v := 50) hx hb dX7_bestExchange_24 (by decide) ?_
      refine gcSi (As := [.int hrs, .int 0, .int 50]) (rest := [.ref o]) hx hb hml hown hts hl.1 hK (c_X7_in l D (fun H => Md D o P S V T F h H) hrs 0 50) (gaS qM_X7_37 qT_X7_in qK_X7 qC_X7_in) hds_X7_in ⟨Nat.le_of_ble_eq_true rfl, Nat.le_of_ble_eq_true rfl⟩ hG rfl (Nat.le_of_ble_eq_true rfl) ⟨Nat.zero_le _, Nat.zero_le _⟩ dX7_bestExchange_26 hS (fun _ (h : noA _) => False.elim h) (fun H locs hG _ _ hS => ?_)
      have hG : Md D o P S V T F h H := hG
      refine lv_if_eq (tgt := 36) hx hb dX7_bestExchange_29 (by decide) (fun c29 => ?_) (fun c29 => ?_)
      · refine lv_iconst (v := 2) hx hb dX7_bestExchange_36 (by decide) ?_
        refine putM 6 hx hb hts hown hK hG hS hA (by decide) qF_X7_26 rfl dX7_bestExchange_37 (fun H locs hG hS => ?_)
        generalize eF2 : upd F 6 2 = F2 at hG
        refine lv_aload_n hx hb dX7_bestExchange_40 rfl (lv_at hl 0 rfl) ?_
        refine getM 6 hx hb hts hown hK hG (by decide) qF_X7_26 rfl dX7_bestExchange_41 ?_
        refine topE (y := 2) (by rw [← eF2, upd_s]) ?_
        refine lv_if_eq (tgt := 49) hx hb dX7_bestExchange_44 (by decide) (fun c44 => ?_) (fun c44 => ?_)
        · exact absurd c44 (by decide)
        · refine lv_iconst (v := 0) hx hb dX7_bestExchange_47 (by decide) ?_
          subst eF2
          have hG9 : Md D o P (fS_X7_bestExchange P S F pl tmp sn hrs) V T (fF_X7_bestExchange P S F pl tmp sn hrs) h H := by
            unfold fS_X7_bestExchange; (try dsimp only); (try rw [if_neg c6, if_neg c18, if_pos c29])
            unfold fF_X7_bestExchange; (try dsimp only); (try rw [if_neg c6, if_neg c18, if_pos c29])
            exact hG
          exact W.iret hx hb hr (fun t ht hW => gQi_of (by unfold fR_X7_bestExchange; (try dsimp only); (try rw [if_neg c6, if_neg c18, if_pos c29]); (try rfl)) hG9 hS ht) hS.2.2 dX7_bestExchange_48
      · refine lv_iconst (v := 0) hx hb dX7_bestExchange_32 (by decide) ?_
        refine lv_goto (tgt := 37) hx hb dX7_bestExchange_33 (by decide) ?_
        refine putM 6 hx hb hts hown hK hG hS hA (by decide) qF_X7_26 rfl dX7_bestExchange_37 (fun H locs hG hS => ?_)
        generalize eF3 : upd F 6 0 = F3 at hG
        refine lv_aload_n hx hb dX7_bestExchange_40 rfl (lv_at hl 0 rfl) ?_
        refine getM 6 hx hb hts hown hK hG (by decide) qF_X7_26 rfl dX7_bestExchange_41 ?_
        refine topE (y := 0) (by rw [← eF3, upd_s]) ?_
        refine lv_if_eq (tgt := 49) hx hb dX7_bestExchange_44 (by decide) (fun c44 => ?_) (fun c44 => ?_)
        · refine lv_iconst (v := (-1)) hx hb dX7_bestExchange_49 (by decide) ?_
          refine lv_istore (lv' := [(5, .int (-1)), (0, .ref o), (1, .int pl), (2, .int tmp), (3, .int sn), (4, .int hrs)]) hx hb dX7_bestExchange_50 hl (by decide) rfl (fun ls hl => ?_)
          have hpl := isPlow_n hN c6
          have hp3 := isPlow_3 hN c6
          have hh := (in_n (n := 50) (by decide) c29)
          have hq9 := hQ _ hpl.2
          refine lv_aload_n hx hb dX7_bestExchange_52 rfl (lv_at hl 1 rfl) ?_
          refine lv_iload_n hx hb dX7_bestExchange_53 rfl (lv_at hl 3 rfl) ?_
          refine lv_iload_n hx hb dX7_bestExchange_54 rfl (lv_at hl 4 rfl) ?_
          refine lv_iload hx hb dX7_bestExchange_55 (lv_at hl 5 rfl) ?_
          refine topN (n := hrs.toNatClampNeg) (in_n (n := 50) (by decide) c29).1 ?_
          refine gcVi (As := [.int tmp, .int sn, .int (nI hrs.toNatClampNeg)]) (rest := []) hx hb hml hown hts hl.1 hK (c_X7_credits l D o P S V T F3 h tmp sn hrs.toNatClampNeg hw (by have := hh.2; omega)) (gaV qM_X7_117 qI_X7_credits qS_X7_credits qK_X7 qC_X7_credits) hdv_X7_credits ⟨Nat.le_of_ble_eq_true rfl, Nat.le_of_ble_eq_true rfl⟩ hG (hG.recv hK) rfl (Nat.le_of_ble_eq_true rfl) ⟨Nat.zero_le _, Nat.zero_le _⟩ dX7_bestExchange_57 hS hA (fun H locs hG _ _ hS => ?_)
          have hG : Md D o P (fS_X7_credits P S tmp sn hrs.toNatClampNeg) V T F3 h H := hG
          generalize eS4 : fS_X7_credits P S tmp sn hrs.toNatClampNeg = S4 at hG
          refine lv_topi (fun x5 ex5 => ?_)
          refine lv_istore (lv' := [(6, .int x5), (5, .int (-1)), (0, .ref o), (1, .int pl), (2, .int tmp), (3, .int sn), (4, .int hrs)]) hx hb dX7_bestExchange_60 hl (by decide) rfl (fun ls hl => ?_)
          refine lv_iconst (v := 0) hx hb dX7_bestExchange_62 (by decide) ?_
          refine lv_istore (lv' := [(7, .int 0), (6, .int x5), (5, .int (-1)), (0, .ref o), (1, .int pl), (2, .int tmp), (3, .int sn), (4, .int hrs)]) hx hb dX7_bestExchange_63 hl (by decide) rfl (fun ls hl => ?_)
          subst ex5
          subst eS4
          subst eF3
          exact L65 12 _ _ 0 _ _ _ _ _ hpl hp3 hh hq9 (by first | assumption | omega) (by unfold fS_X7_bestExchange; (try dsimp only); (try rw [if_neg c6, if_neg c18, if_neg c29]); (try rfl)) (by unfold fF_X7_bestExchange; (try dsimp only); (try rw [if_neg c6, if_neg c18, if_neg c29]); (try rfl)) (by unfold fR_X7_bestExchange; (try dsimp only); (try rw [if_neg c6, if_neg c18, if_neg c29]); (try rfl)) hG hS (lv_sub hl [3, 4, 5, 6, 7, 2, 1, 0] rfl)
        · exact absurd c44 (by decide)
  · refine lv_iconst (v := 1) hx hb dX7_bestExchange_9 (by decide) ?_
    refine lv_goto (tgt := 37) hx hb dX7_bestExchange_10 (by decide) ?_
    refine putM 6 hx hb hts hown hK hG hS hA (by decide) qF_X7_26 rfl dX7_bestExchange_37 (fun H locs hG hS => ?_)
    generalize eF10 : upd F 6 1 = F10 at hG
    refine lv_aload_n hx hb dX7_bestExchange_40 rfl (lv_at hl 0 rfl) ?_
    refine getM 6 hx hb hts hown hK hG (by decide) qF_X7_26 rfl dX7_bestExchange_41 ?_
    refine topE (y := 1) (by rw [← eF10, upd_s]) ?_
    refine lv_if_eq (tgt := 49) hx hb dX7_bestExchange_44 (by decide) (fun c44 => ?_) (fun c44 => ?_)
    · exact absurd c44 (by decide)
    · refine lv_iconst (v := 0) hx hb dX7_bestExchange_47 (by decide) ?_
      subst eF10
      have hG9 : Md D o P (fS_X7_bestExchange P S F pl tmp sn hrs) V T (fF_X7_bestExchange P S F pl tmp sn hrs) h H := by
        unfold fS_X7_bestExchange; (try dsimp only); (try rw [if_pos c6])
        unfold fF_X7_bestExchange; (try dsimp only); (try rw [if_pos c6])
        exact hG
      exact W.iret hx hb hr (fun t ht hW => gQi_of (by unfold fR_X7_bestExchange; (try dsimp only); (try rw [if_pos c6]); (try rfl)) hG9 hS ht) hS.2.2 dX7_bestExchange_48
theorem hdv_X7_leastSpeed : yX7_leastSpeed.cls = RX7 ∧ yX7_leastSpeed.cls ≠ "java/lang/invoke/MethodHandle" ∧ yX7_leastSpeed.cls ≠ "java/lang/invoke/VarHandle" ∧ (parseMethodDescriptor yX7_leastSpeed.desc).map (fun d => d.parameters.length) = some 4 := by decide +kernel
def fS_X7_leastSpeed_L77 (P : Nat → Int32) (pl : Int32) (tmp : Int32) (sn : Int32) (hrs : Int32) : Nat → Int32 → Int32 → Nat → (Nat → Int32) → (Nat → Int32) → Nat → Int32
  | 0, fnd, cmp, spd, Sl, Fl =>
    Sl
  | k + 1, fnd, cmp, spd, Sl, Fl =>
    if fnd = (-1) then
      let P6 := upd P (169 + 20 * pl.toNatClampNeg + 0) (nI spd)
      let P7 := fP_X7_hours P6 tmp sn hrs.toNatClampNeg
      if P7 5 = cmp then
        fS_X7_leastSpeed_L77 P pl tmp sn hrs k (nI spd) cmp (spd + 100) Sl Fl
      else
        fS_X7_leastSpeed_L77 P pl tmp sn hrs k (-1) cmp (spd + 100) Sl Fl
    else
      Sl
def fF_X7_leastSpeed_L77 (P : Nat → Int32) (pl : Int32) (tmp : Int32) (sn : Int32) (hrs : Int32) : Nat → Int32 → Int32 → Nat → (Nat → Int32) → (Nat → Int32) → Nat → Int32
  | 0, fnd, cmp, spd, Sl, Fl =>
    Fl
  | k + 1, fnd, cmp, spd, Sl, Fl =>
    if fnd = (-1) then
      let P6 := upd P (169 + 20 * pl.toNatClampNeg + 0) (nI spd)
      let P7 := fP_X7_hours P6 tmp sn hrs.toNatClampNeg
      if P7 5 = cmp then
        fF_X7_leastSpeed_L77 P pl tmp sn hrs k (nI spd) cmp (spd + 100) Sl Fl
      else
        fF_X7_leastSpeed_L77 P pl tmp sn hrs k (-1) cmp (spd + 100) Sl Fl
    else
      Fl
def fR_X7_leastSpeed_L77 (P : Nat → Int32) (pl : Int32) (tmp : Int32) (sn : Int32) (hrs : Int32) : Nat → Int32 → Int32 → Nat → (Nat → Int32) → (Nat → Int32) → Int32
  | 0, fnd, cmp, spd, Sl, Fl =>
    fnd
  | k + 1, fnd, cmp, spd, Sl, Fl =>
    if fnd = (-1) then
      let P6 := upd P (169 + 20 * pl.toNatClampNeg + 0) (nI spd)
      let P7 := fP_X7_hours P6 tmp sn hrs.toNatClampNeg
      if P7 5 = cmp then
        fR_X7_leastSpeed_L77 P pl tmp sn hrs k (nI spd) cmp (spd + 100) Sl Fl
      else
        fR_X7_leastSpeed_L77 P pl tmp sn hrs k (-1) cmp (spd + 100) Sl Fl
    else
      fnd
def fS_X7_leastSpeed (P : Nat → Int32) (S : Nat → Int32) (F : Nat → Int32) (pl : Int32) (tmp : Int32) (sn : Int32) (hrs : Int32) : Nat → Int32 :=
  if fR_X7_isPlow P pl = 0 then
    S
  else
    if fR_X7_isWeather tmp sn = 0 then
      S
    else
      if fR_X7_in hrs 0 50 = 0 then
        S
      else
        let F3 := upd F 6 0
        let S4 := fS_X7_bring_ms P S 0 0
        let x5 := P 5
        fS_X7_leastSpeed_L77 P pl tmp sn hrs 50 (-1) x5 100 S4 F3
def fF_X7_leastSpeed (P : Nat → Int32) (S : Nat → Int32) (F : Nat → Int32) (pl : Int32) (tmp : Int32) (sn : Int32) (hrs : Int32) : Nat → Int32 :=
  if fR_X7_isPlow P pl = 0 then
    let F11 := upd F 6 1
    F11
  else
    if fR_X7_isWeather tmp sn = 0 then
      let F1 := upd F 6 2
      F1
    else
      if fR_X7_in hrs 0 50 = 0 then
        let F2 := upd F 6 2
        F2
      else
        let F3 := upd F 6 0
        let S4 := fS_X7_bring_ms P S 0 0
        let x5 := P 5
        fF_X7_leastSpeed_L77 P pl tmp sn hrs 50 (-1) x5 100 S4 F3
def fR_X7_leastSpeed (P : Nat → Int32) (S : Nat → Int32) (F : Nat → Int32) (pl : Int32) (tmp : Int32) (sn : Int32) (hrs : Int32) : Int32 :=
  if fR_X7_isPlow P pl = 0 then
    0
  else
    if fR_X7_isWeather tmp sn = 0 then
      0
    else
      if fR_X7_in hrs 0 50 = 0 then
        0
      else
        let F3 := upd F 6 0
        let S4 := fS_X7_bring_ms P S 0 0
        let x5 := P 5
        fR_X7_leastSpeed_L77 P pl tmp sn hrs 50 (-1) x5 100 S4 F3
set_option maxHeartbeats 4000000 in
set_option maxRecDepth 100000 in
theorem c_X7_leastSpeed (l : Launch) (D : va_G) (o : Nat) (P S V T F : Nat → Int32) (h : Int64) (pl : Int32) (tmp : Int32) (sn : Int32) (hrs : Int32) (hw : WF P) : Met l yX7_leastSpeed (wA yX7_leastSpeed cX7_leastSpeed 9 (some .int)) (rmL 6) (gPc D [.ref o, .int pl, .int tmp, .int sn, .int hrs] (fun H => Md D o P S V T F h H)) (gQi (inM o) (fR_X7_leastSpeed P S F pl tmp sn hrs) (fun H => Md D o P (fS_X7_leastSpeed P S F pl tmp sn hrs) V T (fF_X7_leastSpeed P S F pl tmp sn hrs) h H)) 0 0 (inM o) := by
  refine Met.ofW (cc := cX7_leastSpeed) (maxL := 9) (ret := (some .int)) (by decide) rfl ?_
  intro p e s m args below meth c s₁ B hml hv
  obtain ⟨hav, hG, hK⟩ := hv
  have hx := B.exec
  have hb := B.bytes
  have hr := B.returns
  have hts0 := atoms_spec (ws := wA yX7_leastSpeed cX7_leastSpeed 9 (some .int)) B.pre
  have hts : ∀ w ∈ AW, w.before _ s = true := fun w h => hts0 w (List.mem_cons_of_mem _ h)
  have hown : s.vm.findClass RX7 = some m.cls := findClass_of_methodNamed B.named
  have hlocks := B.notSynchronized
  have hA : ∀ q, (inM o) q → (inM o) q := fun _ h => h
  have hS : va_S (inM o) s.heap s.heap [] := va_S.rf
  have hG : Md D o P S V T F h s.heap := hG
  have hl := lv_entry ([.ref o, .int pl, .int tmp, .int sn, .int hrs]) (n := 9) (Nat.le_of_ble_eq_true rfl)
  refine W.eq (g2 := entryFrame m ([.ref o, .int pl, .int tmp, .int sn, .int hrs] : List Value).toArray 9) (by rw [hav]) ?_
  rw [lg_entry_eq]
  generalize (lg_sl ([.ref o, .int pl, .int tmp, .int sn, .int hrs]) ++ List.replicate (9 - (lg_sl ([.ref o, .int pl, .int tmp, .int sn, .int hrs])).length) Slot.unset).toArray = ls at hl ⊢
  have hl : lv_has ls 9 [(0, .ref o), (1, .int pl), (2, .int tmp), (3, .int sn), (4, .int hrs)] := hl
  have hN := hw.1
  have hn3 := hw.1.2.2.2
  have L77 : ∀ (k : Nat) (fnd : Int32) (cmp : Int32) (spd : Nat) (Sl : Nat → Int32) (Fl : Nat → Int32) (H : Heap) (locs : List Loc) (ls : Array Slot) (hpl : pl = nI pl.toNatClampNeg ∧ pl.toNatClampNeg < np P) (hp3 : pl.toNatClampNeg < 3) (hh : hrs = nI hrs.toNatClampNeg ∧ hrs.toNatClampNeg ≤ 50) (hSl : ∀ j, j < 241 → Sl j = P j) (hj : spd + 100 * k = 5100) (hfS : fS_X7_leastSpeed P S F pl tmp sn hrs = fS_X7_leastSpeed_L77 P pl tmp sn hrs k fnd cmp spd Sl Fl) (hfF : fF_X7_leastSpeed P S F pl tmp sn hrs = fF_X7_leastSpeed_L77 P pl tmp sn hrs k fnd cmp spd Sl Fl) (hfR : fR_X7_leastSpeed P S F pl tmp sn hrs = fR_X7_leastSpeed_L77 P pl tmp sn hrs k fnd cmp spd Sl Fl) (hG : Md D o P Sl V T Fl h H) (hS : va_S (inM o) s.heap H locs) (hl : lv_has ls 9 [(0, .ref o), (1, .int pl), (2, .int tmp), (3, .int sn), (4, .int hrs), (5, .int fnd), (6, .int cmp), (7, .int (nI spd))]), W p l e (headSpec (wA yX7_leastSpeed cX7_leastSpeed 9 (some .int)) (rmL 6)).room s m args below meth c H locs 0 0 (MQ below (gQi (inM o) (fR_X7_leastSpeed P S F pl tmp sn hrs) (fun H => Md D o P (fS_X7_leastSpeed P S F pl tmp sn hrs) V T (fF_X7_leastSpeed P S F pl tmp sn hrs) h H)) args s 0 0 (inM o)) (F0 m 77 ls []) := by
    intro k
    induction k with
    | zero =>
      intro fnd cmp spd Sl Fl H locs ls hpl hp3 hh hSl hj hfS hfF hfR hG hS hl
      refine lv_iload hx hb dX7_leastSpeed_77 (lv_at hl 7 rfl) ?_
      refine lv_sipush (v := 5000) hx hb dX7_leastSpeed_79 (by decide) ?_
      refine lv_icmp_gt (tgt := 156) hx hb dX7_leastSpeed_82 (by decide) (fun c82 => ?_) (fun c82 => ?_)
      · have c82 : 5000 < spd := (nI_ltI (a := 5000) (b := spd) (by omega) (by omega)).mp c82
        refine lv_iload hx hb dX7_leastSpeed_156 (lv_at hl 5 rfl) ?_
        have hG9 : Md D o P (fS_X7_leastSpeed P S F pl tmp sn hrs) V T (fF_X7_leastSpeed P S F pl tmp sn hrs) h H := by
          rw [hfS, fS_X7_leastSpeed_L77]; (try dsimp only)
          rw [hfF, fF_X7_leastSpeed_L77]; (try dsimp only)
          exact hG
        exact W.iret hx hb hr (fun t ht hW => gQi_of (by rw [hfR, fR_X7_leastSpeed_L77]; (try dsimp only); (try rfl)) hG9 hS ht) hS.2.2 dX7_leastSpeed_158
      · have c82 : ¬ 5000 < spd := fun h => c82 ((nI_ltI (a := 5000) (b := spd) (by omega) (by omega)).mpr h)
        exfalso; omega
    | succ k ih =>
      intro fnd cmp spd Sl Fl H locs ls hpl hp3 hh hSl hj hfS hfF hfR hG hS hl
      refine lv_iload hx hb dX7_leastSpeed_77 (lv_at hl 7 rfl) ?_
      refine lv_sipush (v := 5000) hx hb dX7_leastSpeed_79 (by decide) ?_
      refine lv_icmp_gt (tgt := 156) hx hb dX7_leastSpeed_82 (by decide) (fun c82 => ?_) (fun c82 => ?_)
      · have c82 : 5000 < spd := (nI_ltI (a := 5000) (b := spd) (by omega) (by omega)).mp c82
        exfalso; omega
      · have c82 : ¬ 5000 < spd := fun h => c82 ((nI_ltI (a := 5000) (b := spd) (by omega) (by omega)).mpr h)
        refine lv_iload hx hb dX7_leastSpeed_85 (lv_at hl 5 rfl) ?_
        refine lv_iconst (v := (-1)) hx hb dX7_leastSpeed_87 (by decide) ?_
        refine lv_icmp_ne (tgt := 156) hx hb dX7_leastSpeed_88 (by decide) (fun c88 => ?_) (fun c88 => ?_)
        · refine lv_iload hx hb dX7_leastSpeed_156 (lv_at hl 5 rfl) ?_
          have hG9 : Md D o P (fS_X7_leastSpeed P S F pl tmp sn hrs) V T (fF_X7_leastSpeed P S F pl tmp sn hrs) h H := by
            rw [hfS, fS_X7_leastSpeed_L77]; (try dsimp only); (try rw [if_neg c88])
            rw [hfF, fF_X7_leastSpeed_L77]; (try dsimp only); (try rw [if_neg c88])
            exact hG
          exact W.iret hx hb hr (fun t ht hW => gQi_of (by rw [hfR, fR_X7_leastSpeed_L77]; (try dsimp only); (try rw [if_neg c88]); (try rfl)) hG9 hS ht) hS.2.2 dX7_leastSpeed_158
        · refine lv_aload_n hx hb dX7_leastSpeed_91 rfl (lv_at hl 0 rfl) ?_
          refine getMm hx hb hts hown hK hG qF_X7_7 dX7_leastSpeed_92 ?_
          refine lv_sipush (v := 169) hx hb dX7_leastSpeed_95 (by decide) ?_
          refine lv_bipush (v := 20) hx hb dX7_leastSpeed_98 (by decide) ?_
          refine lv_iload_n hx hb dX7_leastSpeed_100 rfl (lv_at hl 1 rfl) ?_
          refine topN (n := pl.toNatClampNeg) hpl.1 ?_
          refine imulN (a := 20) (b := pl.toNatClampNeg) hx hb dX7_leastSpeed_101 ?_
          refine iaddN (a := 169) (b := 20 * pl.toNatClampNeg) hx hb dX7_leastSpeed_102 ?_
          refine lv_iconst (v := 0) hx hb dX7_leastSpeed_103 (by decide) ?_
          refine iaddN (a := 169 + 20 * pl.toNatClampNeg) (b := 0) hx hb dX7_leastSpeed_104 ?_
          refine lv_iload hx hb dX7_leastSpeed_105 (lv_at hl 7 rfl) ?_
          refine astMm (k := 169 + 20 * pl.toNatClampNeg + 0) hx hb hK hG hS hA (by omega) dX7_leastSpeed_107 (fun H locs hG hS => ?_)
          generalize eP6 : upd P (169 + 20 * pl.toNatClampNeg + 0) (nI spd) = P6 at hG
          refine lv_aload_n hx hb dX7_leastSpeed_108 rfl (lv_at hl 0 rfl) ?_
          refine lv_iload_n hx hb dX7_leastSpeed_109 rfl (lv_at hl 2 rfl) ?_
          refine lv_iload_n hx hb dX7_leastSpeed_110 rfl (lv_at hl 3 rfl) ?_
          refine lv_iload hx hb dX7_leastSpeed_111 (lv_at hl 4 rfl) ?_
          refine topN (n := hrs.toNatClampNeg) hh.1 ?_
          refine gcVi (As := [.int tmp, .int sn, .int (nI hrs.toNatClampNeg)]) (rest := []) hx hb hml hown hts hl.1 hK (c_X7_hours l D o P6 Sl V T Fl h tmp sn hrs.toNatClampNeg (by subst_vars; exact WF_speed hp3 hw) (by have := hh.2; omega)) (gaV qM_X7_103 qI_X7_hours qS_X7_hours qK_X7 qC_X7_hours) hdv_X7_hours ⟨Nat.le_of_ble_eq_true rfl, Nat.le_of_ble_eq_true rfl⟩ hG (hG.recv hK) rfl (Nat.le_of_ble_eq_true rfl) ⟨Nat.zero_le _, Nat.zero_le _⟩ dX7_leastSpeed_113 hS hA (fun H locs hG _ _ hS => ?_)
          have hG : Md D o (fP_X7_hours P6 tmp sn hrs.toNatClampNeg) Sl V T Fl h H := hG
          generalize eP7 : fP_X7_hours P6 tmp sn hrs.toNatClampNeg = P7 at hG
          refine lv_topi (fun x8 ex8 => ?_)
          refine lv_istore (lv' := [(8, .int x8), (0, .ref o), (1, .int pl), (2, .int tmp), (3, .int sn), (4, .int hrs), (5, .int fnd), (6, .int cmp), (7, .int (nI spd))]) hx hb dX7_leastSpeed_116 hl (by decide) rfl (fun ls hl => ?_)
          refine lv_aload_n hx hb dX7_leastSpeed_118 rfl (lv_at hl 1 rfl) ?_
          refine getMm hx hb hts hown hK hG qF_X7_7 dX7_leastSpeed_119 ?_
          refine lv_iconst (v := 5) hx hb dX7_leastSpeed_122 (by decide) ?_
          refine aldMm (k := 5) hx hb hK hG (by omega) dX7_leastSpeed_123 ?_
          refine lv_iload hx hb dX7_leastSpeed_124 (lv_at hl 7 rfl) ?_
          refine lv_icmp_ne (tgt := 134) hx hb dX7_leastSpeed_126 (by decide) (fun c126 => ?_) (fun c126 => ?_)
          · refine lv_iconst (v := (-1)) hx hb dX7_leastSpeed_134 (by decide) ?_
            refine lv_istore (lv' := [(5, .int (-1)), (8, .int x8), (0, .ref o), (1, .int pl), (2, .int tmp), (3, .int sn), (4, .int hrs), (6, .int cmp), (7, .int (nI spd))]) hx hb dX7_leastSpeed_135 hl (by decide) rfl (fun ls hl => ?_)
            refine lv_aload_n hx hb dX7_leastSpeed_137 rfl (lv_at hl 2 rfl) ?_
            refine getMs hx hb hts hown hK hG qF_X7_13 dX7_leastSpeed_138 ?_
            refine lv_iconst (v := 0) hx hb dX7_leastSpeed_141 (by decide) ?_
            refine lv_aload_n hx hb dX7_leastSpeed_142 rfl (lv_at hl 2 rfl) ?_
            refine getMm hx hb hts hown hK hG qF_X7_7 dX7_leastSpeed_143 ?_
            refine lv_iconst (v := 0) hx hb dX7_leastSpeed_146 (by decide) ?_
            refine gcSv (As := [.ref (o + 2), .int 0, .ref (o + 1), .int 0]) (rest := []) hx hb hml hown hts hl.1 hK (c_X7_bring_sm l D o P7 Sl V T Fl h 0 0 (by first | assumption | omega) (by first | assumption | omega)) (gaS qM_X7_33 qT_X7_bring qK_X7 qC_X7_bring) hds_X7_bring_sm ⟨Nat.le_of_ble_eq_true rfl, Nat.le_of_ble_eq_true rfl⟩ hG rfl (Nat.le_of_ble_eq_true rfl) ⟨Nat.zero_le _, Nat.zero_le _⟩ dX7_leastSpeed_147 hS hA (fun H locs hG _ _ hS => ?_)
            have hG : Md D o (fP_X7_bring_sm P7 Sl 0 0) Sl V T Fl h H := hG
            generalize eP9 : fP_X7_bring_sm P7 Sl 0 0 = P9 at hG
            have hnm : P9 = P := by subst_vars; exact (bring_back hSl (fun j hj => by rw [fr_hours (WF_speed hp3 hw) hj, upd_n (by omega)]))
            have hGn : Md D o P Sl V T Fl h H := by rw [← hnm]; exact hG
            clear hG
            have hG := hGn
            refine lv_iinc (v := nI (spd + 100)) (lv' := [(7, .int (nI (spd + 100))), (5, .int (-1)), (8, .int x8), (0, .ref o), (1, .int pl), (2, .int tmp), (3, .int sn), (4, .int hrs), (6, .int cmp)]) hx hb dX7_leastSpeed_150 hl (k := 8) rfl (nI_add spd 100) (by decide) rfl (fun ls hl => ?_)
            refine lv_goto (tgt := 77) hx hb dX7_leastSpeed_153 (by decide) ?_
            subst eP9
            subst ex8
            subst eP7
            subst eP6
            have hG := hGn
            exact ih _ _ (spd + 100) _ _ _ _ _ hpl hp3 hh hSl (by first | assumption | omega) (by rw [hfS, fS_X7_leastSpeed_L77]; (try dsimp only); (try rw [if_pos c88, if_neg c126]); (try rfl)) (by rw [hfF, fF_X7_leastSpeed_L77]; (try dsimp only); (try rw [if_pos c88, if_neg c126]); (try rfl)) (by rw [hfR, fR_X7_leastSpeed_L77]; (try dsimp only); (try rw [if_pos c88, if_neg c126]); (try rfl)) hG hS (lv_sub hl [3, 4, 5, 6, 7, 1, 8, 0] rfl)
          · refine lv_iload hx hb dX7_leastSpeed_129 (lv_at hl 8 rfl) ?_
            refine lv_goto (tgt := 135) hx hb dX7_leastSpeed_131 (by decide) ?_
            refine lv_istore (lv' := [(5, .int (nI spd)), (8, .int x8), (0, .ref o), (1, .int pl), (2, .int tmp), (3, .int sn), (4, .int hrs), (6, .int cmp), (7, .int (nI spd))]) hx hb dX7_leastSpeed_135 hl (by decide) rfl (fun ls hl => ?_)
            refine lv_aload_n hx hb dX7_leastSpeed_137 rfl (lv_at hl 2 rfl) ?_
            refine getMs hx hb hts hown hK hG qF_X7_13 dX7_leastSpeed_138 ?_
            refine lv_iconst (v := 0) hx hb dX7_leastSpeed_141 (by decide) ?_
            refine lv_aload_n hx hb dX7_leastSpeed_142 rfl (lv_at hl 2 rfl) ?_
            refine getMm hx hb hts hown hK hG qF_X7_7 dX7_leastSpeed_143 ?_
            refine lv_iconst (v := 0) hx hb dX7_leastSpeed_146 (by decide) ?_
            refine gcSv (As := [.ref (o + 2), .int 0, .ref (o + 1), .int 0]) (rest := []) hx hb hml hown hts hl.1 hK (c_X7_bring_sm l D o P7 Sl V T Fl h 0 0 (by first | assumption | omega) (by first | assumption | omega)) (gaS qM_X7_33 qT_X7_bring qK_X7 qC_X7_bring) hds_X7_bring_sm ⟨Nat.le_of_ble_eq_true rfl, Nat.le_of_ble_eq_true rfl⟩ hG rfl (Nat.le_of_ble_eq_true rfl) ⟨Nat.zero_le _, Nat.zero_le _⟩ dX7_leastSpeed_147 hS hA (fun H locs hG _ _ hS => ?_)
            have hG : Md D o (fP_X7_bring_sm P7 Sl 0 0) Sl V T Fl h H := hG
            generalize eP10 : fP_X7_bring_sm P7 Sl 0 0 = P10 at hG
            have hnm : P10 = P := by subst_vars; exact (bring_back hSl (fun j hj => by rw [fr_hours (WF_speed hp3 hw) hj, upd_n (by omega)]))
            have hGn : Md D o P Sl V T Fl h H := by rw [← hnm]; exact hG
            clear hG
            have hG := hGn
            refine lv_iinc (v := nI (spd + 100)) (lv' := [(7, .int (nI (spd + 100))), (5, .int (nI spd)), (8, .int x8), (0, .ref o), (1, .int pl), (2, .int tmp), (3, .int sn), (4, .int hrs), (6, .int cmp)]) hx hb dX7_leastSpeed_150 hl (k := 8) rfl (nI_add spd 100) (by decide) rfl (fun ls hl => ?_)
            refine lv_goto (tgt := 77) hx hb dX7_leastSpeed_153 (by decide) ?_
            subst eP10
            subst ex8
            subst eP7
            subst eP6
            have hG := hGn
            exact ih _ _ (spd + 100) _ _ _ _ _ hpl hp3 hh hSl (by first | assumption | omega) (by rw [hfS, fS_X7_leastSpeed_L77]; (try dsimp only); (try rw [if_pos c88, if_pos c126]); (try rfl)) (by rw [hfF, fF_X7_leastSpeed_L77]; (try dsimp only); (try rw [if_pos c88, if_pos c126]); (try rfl)) (by rw [hfR, fR_X7_leastSpeed_L77]; (try dsimp only); (try rw [if_pos c88, if_pos c126]); (try rfl)) hG hS (lv_sub hl [3, 4, 5, 6, 7, 1, 8, 0] rfl)
  refine lv_aload_n hx hb dX7_leastSpeed_0 rfl (lv_at hl 0 rfl) ?_
  refine lv_aload_n hx hb dX7_leastSpeed_1 rfl (lv_at hl 0 rfl) ?_
  refine lv_iload_n hx hb dX7_leastSpeed_2 rfl (lv_at hl 1 rfl) ?_
  refine gcVi (As := [.int pl]) (rest := [.ref o]) hx hb hml hown hts hl.1 hK (c_X7_isPlow l D o P S V T F h pl) (gaV qM_X7_51 qI_X7_isPlow qS_X7_isPlow qK_X7 qC_X7_isPlow) hdv_X7_isPlow ⟨Nat.le_of_ble_eq_true rfl, Nat.le_of_ble_eq_true rfl⟩ hG (hG.recv hK) rfl (Nat.le_of_ble_eq_true rfl) ⟨Nat.zero_le _, Nat.zero_le _⟩ dX7_leastSpeed_3 hS hA (fun H locs hG _ _ hS => ?_)
  have hG : Md D o P S V T F h H := hG
  refine lv_if_ne (tgt := 13) hx hb dX7_leastSpeed_6 (by decide) (fun c6 => ?_) (fun c6 => ?_)
  · refine lv_iload_n hx hb dX7_leastSpeed_13 rfl (lv_at hl 2 rfl) ?_
    refine lv_iload_n hx hb dX7_leastSpeed_14 rfl (lv_at hl 3 rfl) ?_
    refine gcSi (As := [.int tmp, .int sn]) (rest := [.ref o]) hx hb hml hown hts hl.1 hK (c_X7_isWeather l D (fun H => Md D o P S V T F h H) tmp sn) (gaS qM_X7_100 qT_X7_isWeather qK_X7 qC_X7_isWeather) hds_X7_isWeather ⟨Nat.le_of_ble_eq_true rfl, Nat.le_of_ble_eq_true rfl⟩ hG rfl (Nat.le_of_ble_eq_true rfl) ⟨Nat.zero_le _, Nat.zero_le _⟩ dX7_leastSpeed_15 hS (fun _ (h : noA _) => False.elim h) (fun H locs hG _ _ hS => ?_)
    have hG : Md D o P S V T F h H := hG
    refine lv_if_eq (tgt := 36) hx hb dX7_leastSpeed_18 (by decide) (fun c18 => ?_) (fun c18 => ?_)
    · refine lv_iconst (v := 2) hx hb dX7_leastSpeed_36 (by decide) ?_
      refine putM 6 hx hb hts hown hK hG hS hA (by decide) qF_X7_26 rfl dX7_leastSpeed_37 (fun H locs hG hS => ?_)
      generalize eF1 : upd F 6 2 = F1 at hG
      refine lv_aload_n hx hb dX7_leastSpeed_40 rfl (lv_at hl 0 rfl) ?_
      refine getM 6 hx hb hts hown hK hG (by decide) qF_X7_26 rfl dX7_leastSpeed_41 ?_
      refine topE (y := 2) (by rw [← eF1, upd_s]) ?_
      refine lv_if_eq (tgt := 49) hx hb dX7_leastSpeed_44 (by decide) (fun c44 => ?_) (fun c44 => ?_)
      · exact absurd c44 (by decide)
      · refine lv_iconst (v := 0) hx hb dX7_leastSpeed_47 (by decide) ?_
        subst eF1
        have hG9 : Md D o P (fS_X7_leastSpeed P S F pl tmp sn hrs) V T (fF_X7_leastSpeed P S F pl tmp sn hrs) h H := by
          unfold fS_X7_leastSpeed; (try dsimp only); (try rw [if_neg c6, if_pos c18])
          unfold fF_X7_leastSpeed; (try dsimp only); (try rw [if_neg c6, if_pos c18])
          exact hG
        exact W.iret hx hb hr (fun t ht hW => gQi_of (by unfold fR_X7_leastSpeed; (try dsimp only); (try rw [if_neg c6, if_pos c18]); (try rfl)) hG9 hS ht) hS.2.2 dX7_leastSpeed_48
    · refine lv_iload hx hb dX7_leastSpeed_21 (lv_at hl 4 rfl) ?_
      refine lv_iconst (v := 0) hx hb dX7_leastSpeed_23 (by decide) ?_
      refine lv_bipush (v := 50) hx hb dX7_leastSpeed_24 (by decide) ?_
      refine gcSi (As := [.int hrs, .int 0, .int 50]) (rest := [.ref o]) hx hb hml hown hts hl.1 hK (c_X7_in l D (fun H => Md D o P S V T F h H) hrs 0 50) (gaS qM_X7_37 qT_X7_in qK_X7 qC_X7_in) hds_X7_in ⟨Nat.le_of_ble_eq_true rfl, Nat.le_of_ble_eq_true rfl⟩ hG rfl (Nat.le_of_ble_eq_true rfl) ⟨Nat.zero_le _, Nat.zero_le _⟩ dX7_leastSpeed_26 hS (fun _ (h : noA _) => False.elim h) (fun H locs hG _ _ hS => ?_)
      have hG : Md D o P S V T F h H := hG
      refine lv_if_eq (tgt := 36) hx hb dX7_leastSpeed_29 (by decide) (fun c29 => ?_) (fun c29 => ?_)
      · refine lv_iconst (v := 2) hx hb dX7_leastSpeed_36 (by decide) ?_
        refine putM 6 hx hb hts hown hK hG hS hA (by decide) qF_X7_26 rfl dX7_leastSpeed_37 (fun H locs hG hS => ?_)
        generalize eF2 : upd F 6 2 = F2 at hG
        refine lv_aload_n hx hb dX7_leastSpeed_40 rfl (lv_at hl 0 rfl) ?_
        refine getM 6 hx hb hts hown hK hG (by decide) qF_X7_26 rfl dX7_leastSpeed_41 ?_
        refine topE (y := 2) (by rw [← eF2, upd_s]) ?_
        refine lv_if_eq (tgt := 49) hx hb dX7_leastSpeed_44 (by decide) (fun c44 => ?_) (fun c44 => ?_)
        · exact absurd c44 (by decide)
        · refine lv_iconst (v := 0) hx hb dX7_leastSpeed_47 (by decide) ?_
          subst eF2
          have hG9 : Md D o P (fS_X7_leastSpeed P S F pl tmp sn hrs) V T (fF_X7_leastSpeed P S F pl tmp sn hrs) h H := by
            unfold fS_X7_leastSpeed; (try dsimp only); (try rw [if_neg c6, if_neg c18, if_pos c29])
            unfold fF_X7_leastSpeed; (try dsimp only); (try rw [if_neg c6, if_neg c18, if_pos c29])
            exact hG
          exact W.iret hx hb hr (fun t ht hW => gQi_of (by unfold fR_X7_leastSpeed; (try dsimp only); (try rw [if_neg c6, if_neg c18, if_pos c29]); (try rfl)) hG9 hS ht) hS.2.2 dX7_leastSpeed_48
      · refine lv_iconst (v := 0) hx hb dX7_leastSpeed_32 (by decide) ?_
        refine lv_goto (tgt := 37) hx hb dX7_leastSpeed_33 (by decide) ?_
        refine putM 6 hx hb hts hown hK hG hS hA (by decide) qF_X7_26 rfl dX7_leastSpeed_37 (fun H locs hG hS => ?_)
        generalize eF3 : upd F 6 0 = F3 at hG
        refine lv_aload_n hx hb dX7_leastSpeed_40 rfl (lv_at hl 0 rfl) ?_
        refine getM 6 hx hb hts hown hK hG (by decide) qF_X7_26 rfl dX7_leastSpeed_41 ?_
        refine topE (y := 0) (by rw [← eF3, upd_s]) ?_
        refine lv_if_eq (tgt := 49) hx hb dX7_leastSpeed_44 (by decide) (fun c44 => ?_) (fun c44 => ?_)
        · refine lv_aload_n hx hb dX7_leastSpeed_49 rfl (lv_at hl 0 rfl) ?_
          refine getMm hx hb hts hown hK hG qF_X7_7 dX7_leastSpeed_50 ?_
          refine lv_iconst (v := 0) hx hb dX7_leastSpeed_53 (by decide) ?_
          refine lv_aload_n hx hb dX7_leastSpeed_54 rfl (lv_at hl 0 rfl) ?_
          refine getMs hx hb hts hown hK hG qF_X7_13 dX7_leastSpeed_55 ?_
          refine lv_iconst (v := 0) hx hb dX7_leastSpeed_58 (by decide) ?_
          refine gcSv (As := [.ref (o + 1), .int 0, .ref (o + 2), .int 0]) (rest := []) hx hb hml hown hts hl.1 hK (c_X7_bring_ms l D o P S V T F3 h 0 0 (by first | assumption | omega) (by first | assumption | omega)) (gaS qM_X7_33 qT_X7_bring qK_X7 qC_X7_bring) hds_X7_bring_ms ⟨Nat.le_of_ble_eq_true rfl, Nat.le_of_ble_eq_true rfl⟩ hG rfl (Nat.le_of_ble_eq_true rfl) ⟨Nat.zero_le _, Nat.zero_le _⟩ dX7_leastSpeed_59 hS hA (fun H locs hG _ _ hS => ?_)
          have hG : Md D o P (fS_X7_bring_ms P S 0 0) V T F3 h H := hG
          generalize eS4 : fS_X7_bring_ms P S 0 0 = S4 at hG
          have hpl := isPlow_n hN c6
          have hp3 := isPlow_3 hN c6
          have hh := (in_n (n := 50) (by decide) c29)
          refine lv_iconst (v := (-1)) hx hb dX7_leastSpeed_62 (by decide) ?_
          refine lv_istore (lv' := [(5, .int (-1)), (0, .ref o), (1, .int pl), (2, .int tmp), (3, .int sn), (4, .int hrs)]) hx hb dX7_leastSpeed_63 hl (by decide) rfl (fun ls hl => ?_)
          refine lv_aload_n hx hb dX7_leastSpeed_65 rfl (lv_at hl 1 rfl) ?_
          refine getMm hx hb hts hown hK hG qF_X7_7 dX7_leastSpeed_66 ?_
          refine lv_iconst (v := 5) hx hb dX7_leastSpeed_69 (by decide) ?_
          refine aldMm (k := 5) hx hb hK hG (by omega) dX7_leastSpeed_70 ?_
          refine lv_topi (fun x5 ex5 => ?_)
          refine lv_istore (lv' := [(6, .int x5), (5, .int (-1)), (0, .ref o), (1, .int pl), (2, .int tmp), (3, .int sn), (4, .int hrs)]) hx hb dX7_leastSpeed_71 hl (by decide) rfl (fun ls hl => ?_)
          refine lv_bipush (v := 100) hx hb dX7_leastSpeed_73 (by decide) ?_
          refine lv_istore (lv' := [(7, .int 100), (6, .int x5), (5, .int (-1)), (0, .ref o), (1, .int pl), (2, .int tmp), (3, .int sn), (4, .int hrs)]) hx hb dX7_leastSpeed_75 hl (by decide) rfl (fun ls hl => ?_)
          subst ex5
          subst eS4
          subst eF3
          exact L77 50 _ _ 100 _ _ _ _ _ hpl hp3 hh (fun j hj => bring_ms hj) (by first | assumption | omega) (by unfold fS_X7_leastSpeed; (try dsimp only); (try rw [if_neg c6, if_neg c18, if_neg c29]); (try rfl)) (by unfold fF_X7_leastSpeed; (try dsimp only); (try rw [if_neg c6, if_neg c18, if_neg c29]); (try rfl)) (by unfold fR_X7_leastSpeed; (try dsimp only); (try rw [if_neg c6, if_neg c18, if_neg c29]); (try rfl)) hG hS (lv_sub hl [3, 4, 5, 6, 7, 2, 1, 0] rfl)
        · exact absurd c44 (by decide)
  · refine lv_iconst (v := 1) hx hb dX7_leastSpeed_9 (by decide) ?_
    refine lv_goto (tgt := 37) hx hb dX7_leastSpeed_10 (by decide) ?_
    refine putM 6 hx hb hts hown hK hG hS hA (by decide) qF_X7_26 rfl dX7_leastSpeed_37 (fun H locs hG hS => ?_)
    generalize eF11 : upd F 6 1 = F11 at hG
    refine lv_aload_n hx hb dX7_leastSpeed_40 rfl (lv_at hl 0 rfl) ?_
    refine getM 6 hx hb hts hown hK hG (by decide) qF_X7_26 rfl dX7_leastSpeed_41 ?_
    refine topE (y := 1) (by rw [← eF11, upd_s]) ?_
    refine lv_if_eq (tgt := 49) hx hb dX7_leastSpeed_44 (by decide) (fun c44 => ?_) (fun c44 => ?_)
    · exact absurd c44 (by decide)
    · refine lv_iconst (v := 0) hx hb dX7_leastSpeed_47 (by decide) ?_
      subst eF11
      have hG9 : Md D o P (fS_X7_leastSpeed P S F pl tmp sn hrs) V T (fF_X7_leastSpeed P S F pl tmp sn hrs) h H := by
        unfold fS_X7_leastSpeed; (try dsimp only); (try rw [if_pos c6])
        unfold fF_X7_leastSpeed; (try dsimp only); (try rw [if_pos c6])
        exact hG
      exact W.iret hx hb hr (fun t ht hW => gQi_of (by unfold fR_X7_leastSpeed; (try dsimp only); (try rw [if_pos c6]); (try rfl)) hG9 hS ht) hS.2.2 dX7_leastSpeed_48
theorem hdv_X7_emptyIn : yX7_emptyIn.cls = RX7 ∧ yX7_emptyIn.cls ≠ "java/lang/invoke/MethodHandle" ∧ yX7_emptyIn.cls ≠ "java/lang/invoke/VarHandle" ∧ (parseMethodDescriptor yX7_emptyIn.desc).map (fun d => d.parameters.length) = some 2 := by decide +kernel
def fP_X7_emptyIn_L41 (tmp : Int32) (sn : Int32) : Nat → Nat → (Nat → Int32) → (Nat → Int32) → (Nat → Int32) → Nat → Int32
  | 0, j, Pl, Sl, Fl =>
    if Pl 3 ≤ 0 then
      if Pl 3 = 0 then
        let P5 := fP_X7_bring_sm Pl Sl 0 0
        P5
      else
        let P4 := fP_X7_bring_sm Pl Sl 0 0
        P4
    else
      if Pl 3 = 0 then
        let P7 := fP_X7_bring_sm Pl Sl 0 0
        P7
      else
        let P6 := fP_X7_bring_sm Pl Sl 0 0
        P6
  | k + 1, j, Pl, Sl, Fl =>
    if Pl 3 ≤ 0 then
      if Pl 3 = 0 then
        let P9 := fP_X7_bring_sm Pl Sl 0 0
        P9
      else
        let P8 := fP_X7_bring_sm Pl Sl 0 0
        P8
    else
      let P10 := fP_X7_hour Pl tmp sn
      fP_X7_emptyIn_L41 tmp sn k (j + 1) P10 Sl Fl
def fS_X7_emptyIn_L41 (tmp : Int32) (sn : Int32) : Nat → Nat → (Nat → Int32) → (Nat → Int32) → (Nat → Int32) → Nat → Int32
  | 0, j, Pl, Sl, Fl =>
    if Pl 3 ≤ 0 then
      if Pl 3 = 0 then
        Sl
      else
        Sl
    else
      if Pl 3 = 0 then
        Sl
      else
        Sl
  | k + 1, j, Pl, Sl, Fl =>
    if Pl 3 ≤ 0 then
      if Pl 3 = 0 then
        Sl
      else
        Sl
    else
      let P10 := fP_X7_hour Pl tmp sn
      fS_X7_emptyIn_L41 tmp sn k (j + 1) P10 Sl Fl
def fF_X7_emptyIn_L41 (tmp : Int32) (sn : Int32) : Nat → Nat → (Nat → Int32) → (Nat → Int32) → (Nat → Int32) → Nat → Int32
  | 0, j, Pl, Sl, Fl =>
    if Pl 3 ≤ 0 then
      if Pl 3 = 0 then
        Fl
      else
        Fl
    else
      if Pl 3 = 0 then
        Fl
      else
        Fl
  | k + 1, j, Pl, Sl, Fl =>
    if Pl 3 ≤ 0 then
      if Pl 3 = 0 then
        Fl
      else
        Fl
    else
      let P10 := fP_X7_hour Pl tmp sn
      fF_X7_emptyIn_L41 tmp sn k (j + 1) P10 Sl Fl
def fR_X7_emptyIn_L41 (tmp : Int32) (sn : Int32) : Nat → Nat → (Nat → Int32) → (Nat → Int32) → (Nat → Int32) → Int32
  | 0, j, Pl, Sl, Fl =>
    if Pl 3 ≤ 0 then
      if Pl 3 = 0 then
        nI j
      else
        (-1)
    else
      if Pl 3 = 0 then
        nI j
      else
        (-1)
  | k + 1, j, Pl, Sl, Fl =>
    if Pl 3 ≤ 0 then
      if Pl 3 = 0 then
        nI j
      else
        (-1)
    else
      let P10 := fP_X7_hour Pl tmp sn
      fR_X7_emptyIn_L41 tmp sn k (j + 1) P10 Sl Fl
def fP_X7_emptyIn (P : Nat → Int32) (S : Nat → Int32) (F : Nat → Int32) (tmp : Int32) (sn : Int32) : Nat → Int32 :=
  if fR_X7_isWeather tmp sn = 0 then
    P
  else
    let F2 := upd F 6 0
    let S3 := fS_X7_bring_ms P S 0 0
    fP_X7_emptyIn_L41 tmp sn 200 0 P S3 F2
def fS_X7_emptyIn (P : Nat → Int32) (S : Nat → Int32) (F : Nat → Int32) (tmp : Int32) (sn : Int32) : Nat → Int32 :=
  if fR_X7_isWeather tmp sn = 0 then
    S
  else
    let F2 := upd F 6 0
    let S3 := fS_X7_bring_ms P S 0 0
    fS_X7_emptyIn_L41 tmp sn 200 0 P S3 F2
def fF_X7_emptyIn (P : Nat → Int32) (S : Nat → Int32) (F : Nat → Int32) (tmp : Int32) (sn : Int32) : Nat → Int32 :=
  if fR_X7_isWeather tmp sn = 0 then
    let F1 := upd F 6 1
    F1
  else
    let F2 := upd F 6 0
    let S3 := fS_X7_bring_ms P S 0 0
    fF_X7_emptyIn_L41 tmp sn 200 0 P S3 F2
def fR_X7_emptyIn (P : Nat → Int32) (S : Nat → Int32) (F : Nat → Int32) (tmp : Int32) (sn : Int32) : Int32 :=
  if fR_X7_isWeather tmp sn = 0 then
    0
  else
    let F2 := upd F 6 0
    let S3 := fS_X7_bring_ms P S 0 0
    fR_X7_emptyIn_L41 tmp sn 200 0 P S3 F2
set_option maxHeartbeats 4000000 in
set_option maxRecDepth 100000 in
theorem c_X7_emptyIn (l : Launch) (D : va_G) (o : Nat) (P S V T F : Nat → Int32) (h : Int64) (tmp : Int32) (sn : Int32) (hw : WF P) : Met l yX7_emptyIn (wA yX7_emptyIn cX7_emptyIn 5 (some .int)) (rmL 5) (gPc D [.ref o, .int tmp, .int sn] (fun H => Md D o P S V T F h H)) (gQi (inM o) (fR_X7_emptyIn P S F tmp sn) (fun H => Md D o (fP_X7_emptyIn P S F tmp sn) (fS_X7_emptyIn P S F tmp sn) V T (fF_X7_emptyIn P S F tmp sn) h H)) 0 0 (inM o) := by
  refine Met.ofW (cc := cX7_emptyIn) (maxL := 5) (ret := (some .int)) (by decide) rfl ?_
  intro p e s m args below meth c s₁ B hml hv
  obtain ⟨hav, hG, hK⟩ := hv
  have hx := B.exec
  have hb := B.bytes
  have hr := B.returns
  have hts0 := atoms_spec (ws := wA yX7_emptyIn cX7_emptyIn 5 (some .int)) B.pre
  have hts : ∀ w ∈ AW, w.before _ s = true := fun w h => hts0 w (List.mem_cons_of_mem _ h)
  have hown : s.vm.findClass RX7 = some m.cls := findClass_of_methodNamed B.named
  have hlocks := B.notSynchronized
  have hA : ∀ q, (inM o) q → (inM o) q := fun _ h => h
  have hS : va_S (inM o) s.heap s.heap [] := va_S.rf
  have hG : Md D o P S V T F h s.heap := hG
  have hl := lv_entry ([.ref o, .int tmp, .int sn]) (n := 5) (Nat.le_of_ble_eq_true rfl)
  refine W.eq (g2 := entryFrame m ([.ref o, .int tmp, .int sn] : List Value).toArray 5) (by rw [hav]) ?_
  rw [lg_entry_eq]
  generalize (lg_sl ([.ref o, .int tmp, .int sn]) ++ List.replicate (5 - (lg_sl ([.ref o, .int tmp, .int sn])).length) Slot.unset).toArray = ls at hl ⊢
  have hl : lv_has ls 5 [(0, .ref o), (1, .int tmp), (2, .int sn)] := hl
  have L41 : ∀ (k : Nat) (j : Nat) (Pl : Nat → Int32) (Sl : Nat → Int32) (Fl : Nat → Int32) (H : Heap) (locs : List Loc) (ls : Array Slot) (hwl : WF Pl) (hj : j + k = 200) (hfP : fP_X7_emptyIn P S F tmp sn = fP_X7_emptyIn_L41 tmp sn k j Pl Sl Fl) (hfS : fS_X7_emptyIn P S F tmp sn = fS_X7_emptyIn_L41 tmp sn k j Pl Sl Fl) (hfF : fF_X7_emptyIn P S F tmp sn = fF_X7_emptyIn_L41 tmp sn k j Pl Sl Fl) (hfR : fR_X7_emptyIn P S F tmp sn = fR_X7_emptyIn_L41 tmp sn k j Pl Sl Fl) (hG : Md D o Pl Sl V T Fl h H) (hS : va_S (inM o) s.heap H locs) (hl : lv_has ls 5 [(0, .ref o), (1, .int tmp), (2, .int sn), (3, .int (nI j))]), W p l e (headSpec (wA yX7_emptyIn cX7_emptyIn 5 (some .int)) (rmL 5)).room s m args below meth c H locs 0 0 (MQ below (gQi (inM o) (fR_X7_emptyIn P S F tmp sn) (fun H => Md D o (fP_X7_emptyIn P S F tmp sn) (fS_X7_emptyIn P S F tmp sn) V T (fF_X7_emptyIn P S F tmp sn) h H)) args s 0 0 (inM o)) (F0 m 41 ls []) := by
    intro k
    induction k with
    | zero =>
      intro j Pl Sl Fl H locs ls hwl hj hfP hfS hfF hfR hG hS hl
      refine lv_aload_n hx hb dX7_emptyIn_41 rfl (lv_at hl 0 rfl) ?_
      refine getMm hx hb hts hown hK hG qF_X7_7 dX7_emptyIn_42 ?_
      refine lv_iconst (v := 3) hx hb dX7_emptyIn_45 (by decide) ?_
      refine aldMm (k := 3) hx hb hK hG (by omega) dX7_emptyIn_46 ?_
      refine lv_if_le (tgt := 71) hx hb dX7_emptyIn_47 (by decide) (fun c47 => ?_) (fun c47 => ?_)
      · refine lv_aload_n hx hb dX7_emptyIn_71 rfl (lv_at hl 0 rfl) ?_
        refine getMm hx hb hts hown hK hG qF_X7_7 dX7_emptyIn_72 ?_
        refine lv_iconst (v := 3) hx hb dX7_emptyIn_75 (by decide) ?_
        refine aldMm (k := 3) hx hb hK hG (by omega) dX7_emptyIn_76 ?_
        refine lv_if_ne (tgt := 84) hx hb dX7_emptyIn_77 (by decide) (fun c77 => ?_) (fun c77 => ?_)
        · refine lv_iconst (v := 0) hx hb dX7_emptyIn_84 (by decide) ?_
          refine lv_istore (lv' := [(4, .int 0), (0, .ref o), (1, .int tmp), (2, .int sn), (3, .int (nI j))]) hx hb dX7_emptyIn_85 hl (by decide) rfl (fun ls hl => ?_)
          refine lv_aload_n hx hb dX7_emptyIn_87 rfl (lv_at hl 1 rfl) ?_
          refine getMs hx hb hts hown hK hG qF_X7_13 dX7_emptyIn_88 ?_
          refine lv_iconst (v := 0) hx hb dX7_emptyIn_91 (by decide) ?_
          refine lv_aload_n hx hb dX7_emptyIn_92 rfl (lv_at hl 1 rfl) ?_
          refine getMm hx hb hts hown hK hG qF_X7_7 dX7_emptyIn_93 ?_
          refine lv_iconst (v := 0) hx hb dX7_emptyIn_96 (by decide) ?_
          refine gcSv (As := [.ref (o + 2), .int 0, .ref (o + 1), .int 0]) (rest := []) hx hb hml hown hts hl.1 hK (c_X7_bring_sm l D o Pl Sl V T Fl h 0 0 (by first | assumption | omega) (by first | assumption | omega)) (gaS qM_X7_33 qT_X7_bring qK_X7 qC_X7_bring) hds_X7_bring_sm ⟨Nat.le_of_ble_eq_true rfl, Nat.le_of_ble_eq_true rfl⟩ hG rfl (Nat.le_of_ble_eq_true rfl) ⟨Nat.zero_le _, Nat.zero_le _⟩ dX7_emptyIn_97 hS hA (fun H locs hG _ _ hS => ?_)
          have hG : Md D o (fP_X7_bring_sm Pl Sl 0 0) Sl V T Fl h H := hG
          generalize eP4 : fP_X7_bring_sm Pl Sl 0 0 = P4 at hG
          refine lv_iload hx hb dX7_emptyIn_100 (lv_at hl 0 rfl) ?_
          refine lv_if_eq (tgt := 109) hx hb dX7_emptyIn_102 (by decide) (fun c102 => ?_) (fun c102 => ?_)
          · refine lv_iconst (v := (-1)) hx hb dX7_emptyIn_109 (by decide) ?_
            subst eP4
            have hG9 : Md D o (fP_X7_emptyIn P S F tmp sn) (fS_X7_emptyIn P S F tmp sn) V T (fF_X7_emptyIn P S F tmp sn) h H := by
              rw [hfP, fP_X7_emptyIn_L41]; (try dsimp only); (try rw [if_pos c47, if_neg c77])
              rw [hfS, fS_X7_emptyIn_L41]; (try dsimp only); (try rw [if_pos c47, if_neg c77])
              rw [hfF, fF_X7_emptyIn_L41]; (try dsimp only); (try rw [if_pos c47, if_neg c77])
              exact hG
            exact W.iret hx hb hr (fun t ht hW => gQi_of (by rw [hfR, fR_X7_emptyIn_L41]; (try dsimp only); (try rw [if_pos c47, if_neg c77]); (try rfl)) hG9 hS ht) hS.2.2 dX7_emptyIn_110
          · exact absurd c102 (by decide)
        · refine lv_iconst (v := 1) hx hb dX7_emptyIn_80 (by decide) ?_
          refine lv_goto (tgt := 85) hx hb dX7_emptyIn_81 (by decide) ?_
          refine lv_istore (lv' := [(4, .int 1), (0, .ref o), (1, .int tmp), (2, .int sn), (3, .int (nI j))]) hx hb dX7_emptyIn_85 hl (by decide) rfl (fun ls hl => ?_)
          refine lv_aload_n hx hb dX7_emptyIn_87 rfl (lv_at hl 1 rfl) ?_
          refine getMs hx hb hts hown hK hG qF_X7_13 dX7_emptyIn_88 ?_
          refine lv_iconst (v := 0) hx hb dX7_emptyIn_91 (by decide) ?_
          refine lv_aload_n hx hb dX7_emptyIn_92 rfl (lv_at hl 1 rfl) ?_
          refine getMm hx hb hts hown hK hG qF_X7_7 dX7_emptyIn_93 ?_
          refine lv_iconst (v := 0) hx hb dX7_emptyIn_96 (by decide) ?_
          refine gcSv (As := [.ref (o + 2), .int 0, .ref (o + 1), .int 0]) (rest := []) hx hb hml hown hts hl.1 hK (c_X7_bring_sm l D o Pl Sl V T Fl h 0 0 (by first | assumption | omega) (by first | assumption | omega)) (gaS qM_X7_33 qT_X7_bring qK_X7 qC_X7_bring) hds_X7_bring_sm ⟨Nat.le_of_ble_eq_true rfl, Nat.le_of_ble_eq_true rfl⟩ hG rfl (Nat.le_of_ble_eq_true rfl) ⟨Nat.zero_le _, Nat.zero_le _⟩ dX7_emptyIn_97 hS hA (fun H locs hG _ _ hS => ?_)
          have hG : Md D o (fP_X7_bring_sm Pl Sl 0 0) Sl V T Fl h H := hG
          generalize eP5 : fP_X7_bring_sm Pl Sl 0 0 = P5 at hG
          refine lv_iload hx hb dX7_emptyIn_100 (lv_at hl 0 rfl) ?_
          refine lv_if_eq (tgt := 109) hx hb dX7_emptyIn_102 (by decide) (fun c102 => ?_) (fun c102 => ?_)
          · exact absurd c102 (by decide)
          · refine lv_iload_n hx hb dX7_emptyIn_105 rfl (lv_at hl 4 rfl) ?_
            refine lv_goto (tgt := 110) hx hb dX7_emptyIn_106 (by decide) ?_
            subst eP5
            have hG9 : Md D o (fP_X7_emptyIn P S F tmp sn) (fS_X7_emptyIn P S F tmp sn) V T (fF_X7_emptyIn P S F tmp sn) h H := by
              rw [hfP, fP_X7_emptyIn_L41]; (try dsimp only); (try rw [if_pos c47, if_pos c77])
              rw [hfS, fS_X7_emptyIn_L41]; (try dsimp only); (try rw [if_pos c47, if_pos c77])
              rw [hfF, fF_X7_emptyIn_L41]; (try dsimp only); (try rw [if_pos c47, if_pos c77])
              exact hG
            exact W.iret hx hb hr (fun t ht hW => gQi_of (by rw [hfR, fR_X7_emptyIn_L41]; (try dsimp only); (try rw [if_pos c47, if_pos c77]); (try rfl)) hG9 hS ht) hS.2.2 dX7_emptyIn_110
      · refine lv_iload_n hx hb dX7_emptyIn_50 rfl (lv_at hl 3 rfl) ?_
        refine lv_sipush (v := 200) hx hb dX7_emptyIn_51 (by decide) ?_
        refine lv_icmp_ge (tgt := 71) hx hb dX7_emptyIn_54 (by decide) (fun c54 => ?_) (fun c54 => ?_)
        · have c54 : 200 ≤ j := (nI_leI (a := 200) (b := j) (by omega) (by omega)).mp c54
          refine lv_aload_n hx hb dX7_emptyIn_71 rfl (lv_at hl 0 rfl) ?_
          refine getMm hx hb hts hown hK hG qF_X7_7 dX7_emptyIn_72 ?_
          refine lv_iconst (v := 3) hx hb dX7_emptyIn_75 (by decide) ?_
          refine aldMm (k := 3) hx hb hK hG (by omega) dX7_emptyIn_76 ?_
          refine lv_if_ne (tgt := 84) hx hb dX7_emptyIn_77 (by decide) (fun c77 => ?_) (fun c77 => ?_)
          · refine lv_iconst (v := 0) hx hb dX7_emptyIn_84 (by decide) ?_
            refine lv_istore (lv' := [(4, .int 0), (0, .ref o), (1, .int tmp), (2, .int sn), (3, .int (nI j))]) hx hb dX7_emptyIn_85 hl (by decide) rfl (fun ls hl => ?_)
            refine lv_aload_n hx hb dX7_emptyIn_87 rfl (lv_at hl 1 rfl) ?_
            refine getMs hx hb hts hown hK hG qF_X7_13 dX7_emptyIn_88 ?_
            refine lv_iconst (v := 0) hx hb dX7_emptyIn_91 (by decide) ?_
            refine lv_aload_n hx hb dX7_emptyIn_92 rfl (lv_at hl 1 rfl) ?_
            refine getMm hx hb hts hown hK hG qF_X7_7 dX7_emptyIn_93 ?_
            refine lv_iconst (v := 0) hx hb dX7_emptyIn_96 (by decide) ?_
            refine gcSv (As := [.ref (o + 2), .int 0, .ref (o + 1), .int 0]) (rest := []) hx hb hml hown hts hl.1 hK (c_X7_bring_sm l D o Pl Sl V T Fl h 0 0 (by first | assumption | omega) (by first | assumption | omega)) (gaS qM_X7_33 qT_X7_bring qK_X7 qC_X7_bring) hds_X7_bring_sm ⟨Nat.le_of_ble_eq_true rfl, Nat.le_of_ble_eq_true rfl⟩ hG rfl (Nat.le_of_ble_eq_true rfl) ⟨Nat.zero_le _, Nat.zero_le _⟩ dX7_emptyIn_97 hS hA (fun H locs hG _ _ hS => ?_)
            have hG : Md D o (fP_X7_bring_sm Pl Sl 0 0) Sl V T Fl h H := hG
            generalize eP6 : fP_X7_bring_sm Pl Sl 0 0 = P6 at hG
            refine lv_iload hx hb dX7_emptyIn_100 (lv_at hl 0 rfl) ?_
            refine lv_if_eq (tgt := 109) hx hb dX7_emptyIn_102 (by decide) (fun c102 => ?_) (fun c102 => ?_)
            · refine lv_iconst (v := (-1)) hx hb dX7_emptyIn_109 (by decide) ?_
              subst eP6
              have hG9 : Md D o (fP_X7_emptyIn P S F tmp sn) (fS_X7_emptyIn P S F tmp sn) V T (fF_X7_emptyIn P S F tmp sn) h H := by
                rw [hfP, fP_X7_emptyIn_L41]; (try dsimp only); (try rw [if_neg c47, if_neg c77])
                rw [hfS, fS_X7_emptyIn_L41]; (try dsimp only); (try rw [if_neg c47, if_neg c77])
                rw [hfF, fF_X7_emptyIn_L41]; (try dsimp only); (try rw [if_neg c47, if_neg c77])
                exact hG
              exact W.iret hx hb hr (fun t ht hW => gQi_of (by rw [hfR, fR_X7_emptyIn_L41]; (try dsimp only); (try rw [if_neg c47, if_neg c77]); (try rfl)) hG9 hS ht) hS.2.2 dX7_emptyIn_110
            · exact absurd c102 (by decide)
          · refine lv_iconst (v := 1) hx hb dX7_emptyIn_80 (by decide) ?_
            refine lv_goto (tgt := 85) hx hb dX7_emptyIn_81 (by decide) ?_
            refine lv_istore (lv' := [(4, .int 1), (0, .ref o), (1, .int tmp), (2, .int sn), (3, .int (nI j))]) hx hb dX7_emptyIn_85 hl (by decide) rfl (fun ls hl => ?_)
            refine lv_aload_n hx hb dX7_emptyIn_87 rfl (lv_at hl 1 rfl) ?_
            refine getMs hx hb hts hown hK hG qF_X7_13 dX7_emptyIn_88 ?_
            refine lv_iconst (v := 0) hx hb dX7_emptyIn_91 (by decide) ?_
            refine lv_aload_n hx hb dX7_emptyIn_92 rfl (lv_at hl 1 rfl) ?_
            refine getMm hx hb hts hown hK hG qF_X7_7 dX7_emptyIn_93 ?_
            refine lv_iconst (v := 0) hx hb dX7_emptyIn_96 (by decide) ?_
            refine gcSv (As := [.ref (o + 2), .int 0, .ref (o + 1), .int 0]) (rest := []) hx hb hml hown hts hl.1 hK (c_X7_bring_sm l D o Pl Sl V T Fl h 0 0 (by first | assumption | omega) (by first | assumption | omega)) (gaS qM_X7_33 qT_X7_bring qK_X7 qC_X7_bring) hds_X7_bring_sm ⟨Nat.le_of_ble_eq_true rfl, Nat.le_of_ble_eq_true rfl⟩ hG rfl (Nat.le_of_ble_eq_true rfl) ⟨Nat.zero_le _, Nat.zero_le _⟩ dX7_emptyIn_97 hS hA (fun H locs hG _ _ hS => ?_)
            have hG : Md D o (fP_X7_bring_sm Pl Sl 0 0) Sl V T Fl h H := hG
            generalize eP7 : fP_X7_bring_sm Pl Sl 0 0 = P7 at hG
            refine lv_iload hx hb dX7_emptyIn_100 (lv_at hl 0 rfl) ?_
            refine lv_if_eq (tgt := 109) hx hb dX7_emptyIn_102 (by decide) (fun c102 => ?_) (fun c102 => ?_)
            · exact absurd c102 (by decide)
            · refine lv_iload_n hx hb dX7_emptyIn_105 rfl (lv_at hl 4 rfl) ?_
              refine lv_goto (tgt := 110) hx hb dX7_emptyIn_106 (by decide) ?_
              subst eP7
              have hG9 : Md D o (fP_X7_emptyIn P S F tmp sn) (fS_X7_emptyIn P S F tmp sn) V T (fF_X7_emptyIn P S F tmp sn) h H := by
                rw [hfP, fP_X7_emptyIn_L41]; (try dsimp only); (try rw [if_neg c47, if_pos c77])
                rw [hfS, fS_X7_emptyIn_L41]; (try dsimp only); (try rw [if_neg c47, if_pos c77])
                rw [hfF, fF_X7_emptyIn_L41]; (try dsimp only); (try rw [if_neg c47, if_pos c77])
                exact hG
              exact W.iret hx hb hr (fun t ht hW => gQi_of (by rw [hfR, fR_X7_emptyIn_L41]; (try dsimp only); (try rw [if_neg c47, if_pos c77]); (try rfl)) hG9 hS ht) hS.2.2 dX7_emptyIn_110
        · have c54 : ¬ 200 ≤ j := fun h => c54 ((nI_leI (a := 200) (b := j) (by omega) (by omega)).mpr h)
          exfalso; omega
    | succ k ih =>
      intro j Pl Sl Fl H locs ls hwl hj hfP hfS hfF hfR hG hS hl
      refine lv_aload_n hx hb dX7_emptyIn_41 rfl (lv_at hl 0 rfl) ?_
      refine getMm hx hb hts hown hK hG qF_X7_7 dX7_emptyIn_42 ?_
      refine lv_iconst (v := 3) hx hb dX7_emptyIn_45 (by decide) ?_
      refine aldMm (k := 3) hx hb hK hG (by omega) dX7_emptyIn_46 ?_
      refine lv_if_le (tgt := 71) hx hb dX7_emptyIn_47 (by decide) (fun c47 => ?_) (fun c47 => ?_)
      · refine lv_aload_n hx hb dX7_emptyIn_71 rfl (lv_at hl 0 rfl) ?_
        refine getMm hx hb hts hown hK hG qF_X7_7 dX7_emptyIn_72 ?_
        refine lv_iconst (v := 3) hx hb dX7_emptyIn_75 (by decide) ?_
        refine aldMm (k := 3) hx hb hK hG (by omega) dX7_emptyIn_76 ?_
        refine lv_if_ne (tgt := 84) hx hb dX7_emptyIn_77 (by decide) (fun c77 => ?_) (fun c77 => ?_)
        · refine lv_iconst (v := 0) hx hb dX7_emptyIn_84 (by decide) ?_
          refine lv_istore (lv' := [(4, .int 0), (0, .ref o), (1, .int tmp), (2, .int sn), (3, .int (nI j))]) hx hb dX7_emptyIn_85 hl (by decide) rfl (fun ls hl => ?_)
          refine lv_aload_n hx hb dX7_emptyIn_87 rfl (lv_at hl 1 rfl) ?_
          refine getMs hx hb hts hown hK hG qF_X7_13 dX7_emptyIn_88 ?_
          refine lv_iconst (v := 0) hx hb dX7_emptyIn_91 (by decide) ?_
          refine lv_aload_n hx hb dX7_emptyIn_92 rfl (lv_at hl 1 rfl) ?_
          refine getMm hx hb hts hown hK hG qF_X7_7 dX7_emptyIn_93 ?_
          refine lv_iconst (v := 0) hx hb dX7_emptyIn_96 (by decide) ?_
          refine gcSv (As := [.ref (o + 2), .int 0, .ref (o + 1), .int 0]) (rest := []) hx hb hml hown hts hl.1 hK (c_X7_bring_sm l D o Pl Sl V T Fl h 0 0 (by first | assumption | omega) (by first | assumption | omega)) (gaS qM_X7_33 qT_X7_bring qK_X7 qC_X7_bring) hds_X7_bring_sm ⟨Nat.le_of_ble_eq_true rfl, Nat.le_of_ble_eq_true rfl⟩ hG rfl (Nat.le_of_ble_eq_true rfl) ⟨Nat.zero_le _, Nat.zero_le _⟩ dX7_emptyIn_97 hS hA (fun H locs hG _ _ hS => ?_)
          have hG : Md D o (fP_X7_bring_sm Pl Sl 0 0) Sl V T Fl h H := hG
          generalize eP8 : fP_X7_bring_sm Pl Sl 0 0 = P8 at hG
          refine lv_iload hx hb dX7_emptyIn_100 (lv_at hl 0 rfl) ?_
          refine lv_if_eq (tgt := 109) hx hb dX7_emptyIn_102 (by decide) (fun c102 => ?_) (fun c102 => ?_)
          · refine lv_iconst (v := (-1)) hx hb dX7_emptyIn_109 (by decide) ?_
            subst eP8
            have hG9 : Md D o (fP_X7_emptyIn P S F tmp sn) (fS_X7_emptyIn P S F tmp sn) V T (fF_X7_emptyIn P S F tmp sn) h H := by
              rw [hfP, fP_X7_emptyIn_L41]; (try dsimp only); (try rw [if_pos c47, if_neg c77])
              rw [hfS, fS_X7_emptyIn_L41]; (try dsimp only); (try rw [if_pos c47, if_neg c77])
              rw [hfF, fF_X7_emptyIn_L41]; (try dsimp only); (try rw [if_pos c47, if_neg c77])
              exact hG
            exact W.iret hx hb hr (fun t ht hW => gQi_of (by rw [hfR, fR_X7_emptyIn_L41]; (try dsimp only); (try rw [if_pos c47, if_neg c77]); (try rfl)) hG9 hS ht) hS.2.2 dX7_emptyIn_110
          · exact absurd c102 (by decide)
        · refine lv_iconst (v := 1) hx hb dX7_emptyIn_80 (by decide) ?_
          refine lv_goto (tgt := 85) hx hb dX7_emptyIn_81 (by decide) ?_
          refine lv_istore (lv' := [(4, .int 1), (0, .ref o), (1, .int tmp), (2, .int sn), (3, .int (nI j))]) hx hb dX7_emptyIn_85 hl (by decide) rfl (fun ls hl => ?_)
          refine lv_aload_n hx hb dX7_emptyIn_87 rfl (lv_at hl 1 rfl) ?_
          refine getMs hx hb hts hown hK hG qF_X7_13 dX7_emptyIn_88 ?_
          refine lv_iconst (v := 0) hx hb dX7_emptyIn_91 (by decide) ?_
          refine lv_aload_n hx hb dX7_emptyIn_92 rfl (lv_at hl 1 rfl) ?_
          refine getMm hx hb hts hown hK hG qF_X7_7 dX7_emptyIn_93 ?_
          refine lv_iconst (v := 0) hx hb dX7_emptyIn_96 (by decide) ?_
          refine gcSv (As := [.ref (o + 2), .int 0, .ref (o + 1), .int 0]) (rest := []) hx hb hml hown hts hl.1 hK (c_X7_bring_sm l D o Pl Sl V T Fl h 0 0 (by first | assumption | omega) (by first | assumption | omega)) (gaS qM_X7_33 qT_X7_bring qK_X7 qC_X7_bring) hds_X7_bring_sm ⟨Nat.le_of_ble_eq_true rfl, Nat.le_of_ble_eq_true rfl⟩ hG rfl (Nat.le_of_ble_eq_true rfl) ⟨Nat.zero_le _, Nat.zero_le _⟩ dX7_emptyIn_97 hS hA (fun H locs hG _ _ hS => ?_)
          have hG : Md D o (fP_X7_bring_sm Pl Sl 0 0) Sl V T Fl h H := hG
          generalize eP9 : fP_X7_bring_sm Pl Sl 0 0 = P9 at hG
          refine lv_iload hx hb dX7_emptyIn_100 (lv_at hl 0 rfl) ?_
          refine lv_if_eq (tgt := 109) hx hb dX7_emptyIn_102 (by decide) (fun c102 => ?_) (fun c102 => ?_)
          · exact absurd c102 (by decide)
          · refine lv_iload_n hx hb dX7_emptyIn_105 rfl (lv_at hl 4 rfl) ?_
            refine lv_goto (tgt := 110) hx hb dX7_emptyIn_106 (by decide) ?_
            subst eP9
            have hG9 : Md D o (fP_X7_emptyIn P S F tmp sn) (fS_X7_emptyIn P S F tmp sn) V T (fF_X7_emptyIn P S F tmp sn) h H := by
              rw [hfP, fP_X7_emptyIn_L41]; (try dsimp only); (try rw [if_pos c47, if_pos c77])
              rw [hfS, fS_X7_emptyIn_L41]; (try dsimp only); (try rw [if_pos c47, if_pos c77])
              rw [hfF, fF_X7_emptyIn_L41]; (try dsimp only); (try rw [if_pos c47, if_pos c77])
              exact hG
            exact W.iret hx hb hr (fun t ht hW => gQi_of (by rw [hfR, fR_X7_emptyIn_L41]; (try dsimp only); (try rw [if_pos c47, if_pos c77]); (try rfl)) hG9 hS ht) hS.2.2 dX7_emptyIn_110
      · refine lv_iload_n hx hb dX7_emptyIn_50 rfl (lv_at hl 3 rfl) ?_
        refine lv_sipush (v := 200) hx hb dX7_emptyIn_51 (by decide) ?_
        refine lv_icmp_ge (tgt := 71) hx hb dX7_emptyIn_54 (by decide) (fun c54 => ?_) (fun c54 => ?_)
        · have c54 : 200 ≤ j := (nI_leI (a := 200) (b := j) (by omega) (by omega)).mp c54
          exfalso; omega
        · have c54 : ¬ 200 ≤ j := fun h => c54 ((nI_leI (a := 200) (b := j) (by omega) (by omega)).mpr h)
          refine lv_aload_n hx hb dX7_emptyIn_57 rfl (lv_at hl 0 rfl) ?_
          refine lv_iload_n hx hb dX7_emptyIn_58 rfl (lv_at hl 1 rfl) ?_
          refine lv_iload_n hx hb dX7_emptyIn_59 rfl (lv_at hl 2 rfl) ?_
          refine gcVi (As := [.int tmp, .int sn]) (rest := []) hx hb hml hown hts hl.1 hK (c_X7_hour l D o Pl Sl V T Fl h tmp sn hwl) (gaV qM_X7_97 qI_X7_hour qS_X7_hour qK_X7 qC_X7_hour) hdv_X7_hour ⟨Nat.le_of_ble_eq_true rfl, Nat.le_of_ble_eq_true rfl⟩ hG (hG.recv hK) rfl (Nat.le_of_ble_eq_true rfl) ⟨Nat.zero_le _, Nat.zero_le _⟩ dX7_emptyIn_60 hS hA (fun H locs hG _ _ hS => ?_)
          have hG : Md D o (fP_X7_hour Pl tmp sn) Sl V T Fl h H := hG
          generalize eP10 : fP_X7_hour Pl tmp sn = P10 at hG
          refine lv_topi (fun x11 ex11 => ?_)
          refine lv_istore (lv' := [(4, .int x11), (0, .ref o), (1, .int tmp), (2, .int sn), (3, .int (nI j))]) hx hb dX7_emptyIn_63 hl (by decide) rfl (fun ls hl => ?_)
          refine lv_iinc (v := nI (j + 1)) (lv' := [(3, .int (nI (j + 1))), (4, .int x11), (0, .ref o), (1, .int tmp), (2, .int sn)]) hx hb dX7_emptyIn_65 hl (k := 4) rfl (nI_add j 1) (by decide) rfl (fun ls hl => ?_)
          refine lv_goto (tgt := 41) hx hb dX7_emptyIn_68 (by decide) ?_
          subst ex11
          subst eP10
          exact ih (j + 1) _ _ _ _ _ _ (WF_hour hwl) (by first | assumption | omega) (by rw [hfP, fP_X7_emptyIn_L41]; (try dsimp only); (try rw [if_neg c47]); (try rfl)) (by rw [hfS, fS_X7_emptyIn_L41]; (try dsimp only); (try rw [if_neg c47]); (try rfl)) (by rw [hfF, fF_X7_emptyIn_L41]; (try dsimp only); (try rw [if_neg c47]); (try rfl)) (by rw [hfR, fR_X7_emptyIn_L41]; (try dsimp only); (try rw [if_neg c47]); (try rfl)) hG hS (lv_sub hl [2, 3, 4, 0] rfl)
  refine lv_aload_n hx hb dX7_emptyIn_0 rfl (lv_at hl 0 rfl) ?_
  refine lv_iload_n hx hb dX7_emptyIn_1 rfl (lv_at hl 1 rfl) ?_
  refine lv_iload_n hx hb dX7_emptyIn_2 rfl (lv_at hl 2 rfl) ?_
  refine gcSi (As := [.int tmp, .int sn]) (rest := [.ref o]) hx hb hml hown hts hl.1 hK (c_X7_isWeather l D (fun H => Md D o P S V T F h H) tmp sn) (gaS qM_X7_100 qT_X7_isWeather qK_X7 qC_X7_isWeather) hds_X7_isWeather ⟨Nat.le_of_ble_eq_true rfl, Nat.le_of_ble_eq_true rfl⟩ hG rfl (Nat.le_of_ble_eq_true rfl) ⟨Nat.zero_le _, Nat.zero_le _⟩ dX7_emptyIn_3 hS (fun _ (h : noA _) => False.elim h) (fun H locs hG _ _ hS => ?_)
  have hG : Md D o P S V T F h H := hG
  refine lv_if_eq (tgt := 13) hx hb dX7_emptyIn_6 (by decide) (fun c6 => ?_) (fun c6 => ?_)
  · refine lv_iconst (v := 1) hx hb dX7_emptyIn_13 (by decide) ?_
    refine putM 6 hx hb hts hown hK hG hS hA (by decide) qF_X7_26 rfl dX7_emptyIn_14 (fun H locs hG hS => ?_)
    generalize eF1 : upd F 6 1 = F1 at hG
    refine lv_aload_n hx hb dX7_emptyIn_17 rfl (lv_at hl 0 rfl) ?_
    refine getM 6 hx hb hts hown hK hG (by decide) qF_X7_26 rfl dX7_emptyIn_18 ?_
    refine topE (y := 1) (by rw [← eF1, upd_s]) ?_
    refine lv_if_eq (tgt := 26) hx hb dX7_emptyIn_21 (by decide) (fun c21 => ?_) (fun c21 => ?_)
    · exact absurd c21 (by decide)
    · refine lv_iconst (v := 0) hx hb dX7_emptyIn_24 (by decide) ?_
      subst eF1
      have hG9 : Md D o (fP_X7_emptyIn P S F tmp sn) (fS_X7_emptyIn P S F tmp sn) V T (fF_X7_emptyIn P S F tmp sn) h H := by
        unfold fP_X7_emptyIn; (try dsimp only); (try rw [if_pos c6])
        unfold fS_X7_emptyIn; (try dsimp only); (try rw [if_pos c6])
        unfold fF_X7_emptyIn; (try dsimp only); (try rw [if_pos c6])
        exact hG
      exact W.iret hx hb hr (fun t ht hW => gQi_of (by unfold fR_X7_emptyIn; (try dsimp only); (try rw [if_pos c6]); (try rfl)) hG9 hS ht) hS.2.2 dX7_emptyIn_25
  · refine lv_iconst (v := 0) hx hb dX7_emptyIn_9 (by decide) ?_
    refine lv_goto (tgt := 14) hx hb dX7_emptyIn_10 (by decide) ?_
    refine putM 6 hx hb hts hown hK hG hS hA (by decide) qF_X7_26 rfl dX7_emptyIn_14 (fun H locs hG hS => ?_)
    generalize eF2 : upd F 6 0 = F2 at hG
    refine lv_aload_n hx hb dX7_emptyIn_17 rfl (lv_at hl 0 rfl) ?_
    refine getM 6 hx hb hts hown hK hG (by decide) qF_X7_26 rfl dX7_emptyIn_18 ?_
    refine topE (y := 0) (by rw [← eF2, upd_s]) ?_
    refine lv_if_eq (tgt := 26) hx hb dX7_emptyIn_21 (by decide) (fun c21 => ?_) (fun c21 => ?_)
    · refine lv_aload_n hx hb dX7_emptyIn_26 rfl (lv_at hl 0 rfl) ?_
      refine getMm hx hb hts hown hK hG qF_X7_7 dX7_emptyIn_27 ?_
      refine lv_iconst (v := 0) hx hb dX7_emptyIn_30 (by decide) ?_
      refine lv_aload_n hx hb dX7_emptyIn_31 rfl (lv_at hl 0 rfl) ?_
      refine getMs hx hb hts hown hK hG qF_X7_13 dX7_emptyIn_32 ?_
      refine lv_iconst (v := 0) hx hb dX7_emptyIn_35 (by decide) ?_
      refine gcSv (As := [.ref (o + 1), .int 0, .ref (o + 2), .int 0]) (rest := []) hx hb hml hown hts hl.1 hK (c_X7_bring_ms l D o P S V T F2 h 0 0 (by first | assumption | omega) (by first | assumption | omega)) (gaS qM_X7_33 qT_X7_bring qK_X7 qC_X7_bring) hds_X7_bring_ms ⟨Nat.le_of_ble_eq_true rfl, Nat.le_of_ble_eq_true rfl⟩ hG rfl (Nat.le_of_ble_eq_true rfl) ⟨Nat.zero_le _, Nat.zero_le _⟩ dX7_emptyIn_36 hS hA (fun H locs hG _ _ hS => ?_)
      have hG : Md D o P (fS_X7_bring_ms P S 0 0) V T F2 h H := hG
      generalize eS3 : fS_X7_bring_ms P S 0 0 = S3 at hG
      refine lv_iconst (v := 0) hx hb dX7_emptyIn_39 (by decide) ?_
      refine lv_istore_n (lv' := [(3, .int 0), (0, .ref o), (1, .int tmp), (2, .int sn)]) hx hb dX7_emptyIn_40 rfl hl (by decide) rfl (fun ls hl => ?_)
      subst eS3
      subst eF2
      exact L41 200 0 _ _ _ _ _ _ hw (by first | assumption | omega) (by unfold fP_X7_emptyIn; (try dsimp only); (try rw [if_neg c6]); (try rfl)) (by unfold fS_X7_emptyIn; (try dsimp only); (try rw [if_neg c6]); (try rfl)) (by unfold fF_X7_emptyIn; (try dsimp only); (try rw [if_neg c6]); (try rfl)) (by unfold fR_X7_emptyIn; (try dsimp only); (try rw [if_neg c6]); (try rfl)) hG hS (lv_sub hl [1, 2, 3, 0] rfl)
    · exact absurd c21 (by decide)
