theorem hdv_X6_addStreet : yX6_addStreet.cls = RX6 ∧ yX6_addStreet.cls ≠ "java/lang/invoke/MethodHandle" ∧ yX6_addStreet.cls ≠ "java/lang/invoke/VarHandle" ∧ (parseMethodDescriptor yX6_addStreet.desc).map (fun d => d.parameters.length) = some 2 := by decide +kernel
def fC_X6_addStreet (C : Nat → Int32) (G : Nat → Nat → Int32) (n : Nat) (len : Int32) (pri : Int32) : Nat → Int32 :=
  if fE_X6_checkArgument len 10 2000 = 0 then
    if fE_X6_checkArgument pri 0 2 = 0 then
      if (ns C) < 20 then
        let C3 := fP_X3_begin C (ns C) len pri
        let x4 := (C3 1) + 1
        let C5 := upd C3 1 x4
        C5
      else
        C
    else
      C
  else
    C
def fG_X6_addStreet (C : Nat → Int32) (G : Nat → Nat → Int32) (n : Nat) (len : Int32) (pri : Int32) : Nat → Nat → Int32 :=
  if fE_X6_checkArgument len 10 2000 = 0 then
    if fE_X6_checkArgument pri 0 2 = 0 then
      if (ns C) < 20 then
        let G1 := fG_X2_save C G n
        G1
      else
        G
    else
      G
  else
    G
def fn_X6_addStreet (C : Nat → Int32) (G : Nat → Nat → Int32) (n : Nat) (len : Int32) (pri : Int32) : Nat :=
  if fE_X6_checkArgument len 10 2000 = 0 then
    if fE_X6_checkArgument pri 0 2 = 0 then
      if (ns C) < 20 then
        let n2 := fn_X2_save C G n
        n2
      else
        n
    else
      n
  else
    n
def fR_X6_addStreet (C : Nat → Int32) (G : Nat → Nat → Int32) (n : Nat) (len : Int32) (pri : Int32) : Int32 :=
  if fE_X6_checkArgument len 10 2000 = 0 then
    if fE_X6_checkArgument pri 0 2 = 0 then
      if (ns C) < 20 then
        let C3 := fP_X3_begin C (ns C) len pri
        let x4 := (C3 1) + 1
        let C5 := upd C3 1 x4
        (C5 1) - 1
      else
        0
    else
      0
  else
    0
def fE_X6_addStreet (C : Nat → Int32) (G : Nat → Nat → Int32) (n : Nat) (len : Int32) (pri : Int32) : Nat :=
  if fE_X6_checkArgument len 10 2000 = 0 then
    if fE_X6_checkArgument pri 0 2 = 0 then
      if (ns C) < 20 then
        0
      else
        2
    else
      fE_X6_checkArgument pri 0 2
  else
    fE_X6_checkArgument len 10 2000
set_option maxHeartbeats 4000000 in
set_option maxRecDepth 100000 in
theorem c_X6_addStreet (l : Launch) (hl0 : l.stackTraces = false) (D : va_G) (r : Nat) (C J : Nat → Int32) (G : Nat → Nat → Int32) (n : Nat) (Y X U Z F : Nat → Int32) (len : Int32) (pri : Int32) (hN : okN C) (hn4 : n ≤ 4) : vx_Met l yX6_addStreet (wA yX6_addStreet cX6_addStreet 3 (some .int)) (rmX 7 3 18) (xPc D r [.ref r, .int len, .int pri] (fun H => Sn D r C J G n Y X U Z F H)) (xQi (inS r) (fE_X6_addStreet C G n len pri) (fR_X6_addStreet C G n len pri) (fun H => Sn D r (fC_X6_addStreet C G n len pri) J (fG_X6_addStreet C G n len pri) (fn_X6_addStreet C G n len pri) Y X U Z F H)) (xX (inS r) (fE_X6_addStreet C G n len pri) (fun H => Sn D r (fC_X6_addStreet C G n len pri) J (fG_X6_addStreet C G n len pri) (fn_X6_addStreet C G n len pri) Y X U Z F H)) 3 18 (inS r) := by
  refine vx_ofW (cc := cX6_addStreet) (maxL := 3) (ret := (some .int)) (by decide) rfl ?_
  intro p e s m args below meth c s₁ B hml hex hv
  obtain ⟨hav, hG, hK, hKx⟩ := hv
  have hr0 : ∀ q, inS r q → r ≤ q := fun q h => h.1
  have hx := B.exec
  have hb := B.bytes
  have hr := B.returns
  have hts0 := atoms_spec (ws := wA yX6_addStreet cX6_addStreet 3 (some .int)) B.pre
  have hts : ∀ w ∈ AW, w.before _ s = true := fun w h => hts0 w (List.mem_cons_of_mem _ h)
  have hown : s.vm.findClass RX6 = some m.cls := findClass_of_methodNamed B.named
  have hlocks := B.notSynchronized
  have hA : ∀ q, (inS r) q → (inS r) q := fun _ h => h
  have hS : va_S (inS r) s.heap s.heap [] := va_S.rf
  have hG : Sn D r C J G n Y X U Z F s.heap := hG
  have hl := lv_entry ([.ref r, .int len, .int pri]) (n := 3) (Nat.le_of_ble_eq_true rfl)
  refine W.eq (g2 := entryFrame m ([.ref r, .int len, .int pri] : List Value).toArray 3) (by rw [hav]) ?_
  rw [lg_entry_eq]
  generalize (lg_sl ([.ref r, .int len, .int pri]) ++ List.replicate (3 - (lg_sl ([.ref r, .int len, .int pri])).length) Slot.unset).toArray = ls at hl ⊢
  have hl : lv_has ls 3 [(0, .ref r), (1, .int len), (2, .int pri)] := hl
  have hn20 := hN.2.1
  refine lv_iload_n hx hb dX6_addStreet_0 rfl (lv_at hl 1 rfl) ?_
  refine lv_bipush (v := 10) hx hb dX6_addStreet_1 (by decide) ?_
  refine lv_sipush (v := 2000) hx hb dX6_addStreet_3 (by decide) ?_
  refine xcSv (As := [.int len, .int 10, .int 2000]) (rest := []) hx hb hml hown hts hl.1 hK hKx hr0 (c_X6_checkArgument l hl0 D r C J G n Y X U Z F len 10 2000) (gaS qM_X6_33 qT_X6_checkArgument qK_X6 qC_X6_checkArgument) hds_X6_checkArgument ⟨Nat.le_of_ble_eq_true rfl, Nat.le_of_ble_eq_true rfl⟩ hG rfl (Nat.le_of_ble_eq_true rfl) ⟨Nat.le_of_ble_eq_true rfl, Nat.le_of_ble_eq_true rfl⟩ dX6_addStreet_6 hS hA (fun ce q9 H locs hcx hG hz hq hS hce hv hcl => ?_) (fun H locs hc6 hG hz hq hS => ?_)
  · have hG : Sn D r C J G n Y X U Z F H := hG
    have hG9 : Sn D r (fC_X6_addStreet C G n len pri) J (fG_X6_addStreet C G n len pri) (fn_X6_addStreet C G n len pri) Y X U Z F H := by
      unfold fC_X6_addStreet; (try dsimp only); (try rw [if_neg hcx])
      unfold fG_X6_addStreet; (try dsimp only); (try rw [if_neg hcx])
      unfold fn_X6_addStreet; (try dsimp only); (try rw [if_neg hcx])
      exact hG
    have hE : fE_X6_addStreet C G n len pri = fE_X6_checkArgument len 10 2000 := by unfold fE_X6_addStreet; (try dsimp only); (try rw [if_neg hcx]); (try rfl)
    exact xout hex hlocks hS (by rw [hE]; exact hcx) hG9 hce hv hE.symm hcl (by omega) (by omega)
  have hG : Sn D r C J G n Y X U Z F H := hG
  · refine lv_iload_n hx hb dX6_addStreet_9 rfl (lv_at hl 2 rfl) ?_
    refine lv_iconst (v := 0) hx hb dX6_addStreet_10 (by decide) ?_
    refine lv_iconst (v := 2) hx hb dX6_addStreet_11 (by decide) ?_
    refine xcSv (As := [.int pri, .int 0, .int 2]) (rest := []) hx hb hml hown hts hl.1 hK hKx hr0 (c_X6_checkArgument l hl0 D r C J G n Y X U Z F pri 0 2) (gaS qM_X6_33 qT_X6_checkArgument qK_X6 qC_X6_checkArgument) hds_X6_checkArgument ⟨Nat.le_of_ble_eq_true rfl, Nat.le_of_ble_eq_true rfl⟩ hG rfl (Nat.le_of_ble_eq_true rfl) ⟨Nat.le_of_ble_eq_true rfl, Nat.le_of_ble_eq_true rfl⟩ dX6_addStreet_12 hS hA (fun ce q9 H locs hcx hG hz hq hS hce hv hcl => ?_) (fun H locs hc12 hG hz hq hS => ?_)
    · have hG : Sn D r C J G n Y X U Z F H := hG
      have hG9 : Sn D r (fC_X6_addStreet C G n len pri) J (fG_X6_addStreet C G n len pri) (fn_X6_addStreet C G n len pri) Y X U Z F H := by
        unfold fC_X6_addStreet; (try dsimp only); (try rw [if_pos hc6, if_neg hcx])
        unfold fG_X6_addStreet; (try dsimp only); (try rw [if_pos hc6, if_neg hcx])
        unfold fn_X6_addStreet; (try dsimp only); (try rw [if_pos hc6, if_neg hcx])
        exact hG
      have hE : fE_X6_addStreet C G n len pri = fE_X6_checkArgument pri 0 2 := by unfold fE_X6_addStreet; (try dsimp only); (try rw [if_pos hc6, if_neg hcx]); (try rfl)
      exact xout hex hlocks hS (by rw [hE]; exact hcx) hG9 hce hv hE.symm hcl (by omega) (by omega)
    have hG : Sn D r C J G n Y X U Z F H := hG
    · refine lv_aload_n hx hb dX6_addStreet_15 rfl (lv_at hl 0 rfl) ?_
      refine getQc hx hb hts hown hK hG qF_X6_10 dX6_addStreet_16 ?_
      refine getC 1 1 rfl hx hb hts hown hK hG.gc (by decide) (by decide) (by decide) (by decide) qF_X6_37 rfl dX6_addStreet_19 ?_
      refine topN (n := (ns C)) hN.1 ?_
      refine lv_bipush (v := 20) hx hb dX6_addStreet_22 (by decide) ?_
      refine lv_icmp_lt (tgt := 37) hx hb dX6_addStreet_24 (by decide) (fun c24 => ?_) (fun c24 => ?_)
      · have c24 : (ns C) < 20 := (nI_ltI (a := (ns C)) (b := 20) (by omega) (by omega)).mp c24
        refine lv_aload_n hx hb dX6_addStreet_37 rfl (lv_at hl 0 rfl) ?_
        refine getQv hx hb hts hown hK hG qF_X6_22 dX6_addStreet_38 ?_
        refine lv_aload_n hx hb dX6_addStreet_41 rfl (lv_at hl 0 rfl) ?_
        refine getQc hx hb hts hown hK hG qF_X6_10 dX6_addStreet_42 ?_
        refine gcVv (As := [.ref (r + 1)]) (rest := []) hx hb hml hown hts hl.1 hK (c_X2_save l D r C J G n Y X U Z F hn4 hN) (gaV qM_X6_48 qI_X2_save qS_X2_save qK_X2 qC_X2_save) hdv_X2_save ⟨Nat.le_of_ble_eq_true rfl, Nat.le_of_ble_eq_true rfl⟩ hG (Sn.recvV hK hG) rfl (Nat.le_of_ble_eq_true rfl) ⟨Nat.le_of_ble_eq_true rfl, Nat.le_of_ble_eq_true rfl⟩ dX6_addStreet_45 hS hA (fun H locs hG hz hq hS => ?_)
        have hG : Sn D r C J (fG_X2_save C G n) (fn_X2_save C G n) Y X U Z F H := hG
        generalize eG1 : fG_X2_save C G n = G1 at hG
        generalize en2 : fn_X2_save C G n = n2 at hG
        refine lv_aload_n hx hb dX6_addStreet_48 rfl (lv_at hl 0 rfl) ?_
        refine getQc hx hb hts hown hK hG qF_X6_10 dX6_addStreet_49 ?_
        refine getCs hx hb hts hown hK hG.gc qF_X6_52 dX6_addStreet_52 ?_
        refine lv_aload_n hx hb dX6_addStreet_55 rfl (lv_at hl 0 rfl) ?_
        refine getQc hx hb hts hown hK hG qF_X6_10 dX6_addStreet_56 ?_
        refine getC 1 1 rfl hx hb hts hown hK hG.gc (by decide) (by decide) (by decide) (by decide) qF_X6_37 rfl dX6_addStreet_59 ?_
        refine topN (n := (ns C)) hN.1 ?_
        refine aldS (i := (ns C)) hx hb hK hG.gc (by omega) dX6_addStreet_62 ?_
        refine lv_iload_n hx hb dX6_addStreet_63 rfl (lv_at hl 1 rfl) ?_
        refine lv_iload_n hx hb dX6_addStreet_64 rfl (lv_at hl 2 rfl) ?_
        refine gcVv (As := [.int len, .int pri]) (rest := []) hx hb hml hown hts hl.1 hK (c_X3_begin l D (r + 1) C (ns C) len pri (by first | assumption | omega)) (gaV qM_X6_56 qI_X3_begin qS_X3_begin qK_X3 qC_X3_begin) hdv_X3_begin ⟨Nat.le_of_ble_eq_true rfl, Nat.le_of_ble_eq_true rfl⟩ hG.gc (hG.gc.recvS hK (by omega)) rfl (Nat.le_of_ble_eq_true rfl) ⟨Nat.le_of_ble_eq_true rfl, Nat.le_of_ble_eq_true rfl⟩ dX6_addStreet_65 hS (fun q h => by unfold inG at h; unfold inS; omega) (fun H locs hG1 hz hq hS => ?_)
        have hG : Sn D r (fP_X3_begin C (ns C) len pri) J G1 n2 Y X U Z F H := Sn.setC hG hG1 hq
        generalize eC3 : fP_X3_begin C (ns C) len pri = C3 at hG
        refine lv_aload_n hx hb dX6_addStreet_68 rfl (lv_at hl 0 rfl) ?_
        refine getQc hx hb hts hown hK hG qF_X6_10 dX6_addStreet_69 ?_
        refine lv_dup hx hb dX6_addStreet_72 rfl ?_
        refine getC 1 1 rfl hx hb hts hown hK hG.gc (by decide) (by decide) (by decide) (by decide) qF_X6_37 rfl dX6_addStreet_73 ?_
        refine lv_iconst (v := 1) hx hb dX6_addStreet_76 (by decide) ?_
        refine lv_iadd hx hb dX6_addStreet_77 ?_
        refine lv_topi (fun x4 ex4 => ?_)
        refine qputCc 1 1 rfl hx hb hts hown hK hG hS hA (by decide) (by decide) (by decide) (by decide) qF_X6_37 rfl dX6_addStreet_78 (fun H locs hG hS => ?_)
        generalize eC5 : upd C3 1 x4 = C5 at hG
        refine lv_aload_n hx hb dX6_addStreet_81 rfl (lv_at hl 0 rfl) ?_
        refine getQc hx hb hts hown hK hG qF_X6_10 dX6_addStreet_82 ?_
        refine getC 1 1 rfl hx hb hts hown hK hG.gc (by decide) (by decide) (by decide) (by decide) qF_X6_37 rfl dX6_addStreet_85 ?_
        refine lv_iconst (v := 1) hx hb dX6_addStreet_88 (by decide) ?_
        refine lv_isub hx hb dX6_addStreet_89 ?_
        subst eC5
        subst ex4
        subst eC3
        subst en2
        subst eG1
        have hG9 : Sn D r (fC_X6_addStreet C G n len pri) J (fG_X6_addStreet C G n len pri) (fn_X6_addStreet C G n len pri) Y X U Z F H := by
          unfold fC_X6_addStreet; (try dsimp only); (try rw [if_pos hc6, if_pos hc12, if_pos c24])
          unfold fG_X6_addStreet; (try dsimp only); (try rw [if_pos hc6, if_pos hc12, if_pos c24])
          unfold fn_X6_addStreet; (try dsimp only); (try rw [if_pos hc6, if_pos hc12, if_pos c24])
          exact hG
        refine vx_ret (W.widen (k := 3) (n := 18) (by omega) (by omega) ?_)
        exact W.iret hx hb hr (fun t ht hW => xQi_of (by unfold fE_X6_addStreet; (try dsimp only); (try rw [if_pos hc6, if_pos hc12, if_pos c24]); (try rfl)) (by unfold fR_X6_addStreet; (try dsimp only); (try rw [if_pos hc6, if_pos hc12, if_pos c24]); (try rfl)) hG9 hS ht) hS.2.2 dX6_addStreet_90
      · have c24 : ¬ (ns C) < 20 := fun h => c24 ((nI_ltI (a := (ns C)) (b := 20) (by omega) (by omega)).mpr h)
        have hG9 : Sn D r (fC_X6_addStreet C G n len pri) J (fG_X6_addStreet C G n len pri) (fn_X6_addStreet C G n len pri) Y X U Z F H := by
          unfold fC_X6_addStreet; (try dsimp only); (try rw [if_pos hc6, if_pos hc12, if_neg c24])
          unfold fG_X6_addStreet; (try dsimp only); (try rw [if_pos hc6, if_pos hc12, if_neg c24])
          unfold fn_X6_addStreet; (try dsimp only); (try rw [if_pos hc6, if_pos hc12, if_neg c24])
          exact hG
        have hE : fE_X6_addStreet C G n len pri = 2 := by unfold fE_X6_addStreet; (try dsimp only); (try rw [if_pos hc6, if_pos hc12, if_neg c24]); (try rfl)
        exact xthr 2 ⟨by decide, by decide⟩ (ik := 41) (is := 43) (text := "there are 20 streets") exg2 exk2 exo2 hx hb hl0 hml hown hts hl.1 hKx hr0 qL_X6_41 qK_IllegalStateException (by decide +kernel) hS dX6_addStreet_27 dX6_addStreet_30 dX6_addStreet_31 dX6_addStreet_33 dX6_addStreet_36 hex hlocks ⟨Nat.le_of_ble_eq_true rfl, Nat.le_of_ble_eq_true rfl⟩ (Nat.le_of_ble_eq_true rfl) (Nat.le_of_ble_eq_true rfl) hE (fun H1 hz1 hq1 => hG9.keep hz1 hq1) (by omega) (by omega)
theorem hdv_X6_addPlow : yX6_addPlow.cls = RX6 ∧ yX6_addPlow.cls ≠ "java/lang/invoke/MethodHandle" ∧ yX6_addPlow.cls ≠ "java/lang/invoke/VarHandle" ∧ (parseMethodDescriptor yX6_addPlow.desc).map (fun d => d.parameters.length) = some 2 := by decide +kernel
def fC_X6_addPlow (C : Nat → Int32) (G : Nat → Nat → Int32) (n : Nat) (spd : Int32) (cap : Int32) : Nat → Int32 :=
  if fE_X6_checkArgument spd 100 5000 = 0 then
    if fE_X6_checkArgument cap 0 5000 = 0 then
      if (np C) < 3 then
        let C3 := fP_X1_begin C (np C) spd cap
        let x4 := (C3 2) + 1
        let C5 := upd C3 2 x4
        C5
      else
        C
    else
      C
  else
    C
def fG_X6_addPlow (C : Nat → Int32) (G : Nat → Nat → Int32) (n : Nat) (spd : Int32) (cap : Int32) : Nat → Nat → Int32 :=
  if fE_X6_checkArgument spd 100 5000 = 0 then
    if fE_X6_checkArgument cap 0 5000 = 0 then
      if (np C) < 3 then
        let G1 := fG_X2_save C G n
        G1
      else
        G
    else
      G
  else
    G
def fn_X6_addPlow (C : Nat → Int32) (G : Nat → Nat → Int32) (n : Nat) (spd : Int32) (cap : Int32) : Nat :=
  if fE_X6_checkArgument spd 100 5000 = 0 then
    if fE_X6_checkArgument cap 0 5000 = 0 then
      if (np C) < 3 then
        let n2 := fn_X2_save C G n
        n2
      else
        n
    else
      n
  else
    n
def fR_X6_addPlow (C : Nat → Int32) (G : Nat → Nat → Int32) (n : Nat) (spd : Int32) (cap : Int32) : Int32 :=
  if fE_X6_checkArgument spd 100 5000 = 0 then
    if fE_X6_checkArgument cap 0 5000 = 0 then
      if (np C) < 3 then
        let C3 := fP_X1_begin C (np C) spd cap
        let x4 := (C3 2) + 1
        let C5 := upd C3 2 x4
        (C5 2) - 1
      else
        0
    else
      0
  else
    0
def fE_X6_addPlow (C : Nat → Int32) (G : Nat → Nat → Int32) (n : Nat) (spd : Int32) (cap : Int32) : Nat :=
  if fE_X6_checkArgument spd 100 5000 = 0 then
    if fE_X6_checkArgument cap 0 5000 = 0 then
      if (np C) < 3 then
        0
      else
        2
    else
      fE_X6_checkArgument cap 0 5000
  else
    fE_X6_checkArgument spd 100 5000
set_option maxHeartbeats 4000000 in
set_option maxRecDepth 100000 in
theorem c_X6_addPlow (l : Launch) (hl0 : l.stackTraces = false) (D : va_G) (r : Nat) (C J : Nat → Int32) (G : Nat → Nat → Int32) (n : Nat) (Y X U Z F : Nat → Int32) (spd : Int32) (cap : Int32) (hN : okN C) (hn4 : n ≤ 4) : vx_Met l yX6_addPlow (wA yX6_addPlow cX6_addPlow 3 (some .int)) (rmX 7 3 18) (xPc D r [.ref r, .int spd, .int cap] (fun H => Sn D r C J G n Y X U Z F H)) (xQi (inS r) (fE_X6_addPlow C G n spd cap) (fR_X6_addPlow C G n spd cap) (fun H => Sn D r (fC_X6_addPlow C G n spd cap) J (fG_X6_addPlow C G n spd cap) (fn_X6_addPlow C G n spd cap) Y X U Z F H)) (xX (inS r) (fE_X6_addPlow C G n spd cap) (fun H => Sn D r (fC_X6_addPlow C G n spd cap) J (fG_X6_addPlow C G n spd cap) (fn_X6_addPlow C G n spd cap) Y X U Z F H)) 3 18 (inS r) := by
  refine vx_ofW (cc := cX6_addPlow) (maxL := 3) (ret := (some .int)) (by decide) rfl ?_
  intro p e s m args below meth c s₁ B hml hex hv
  obtain ⟨hav, hG, hK, hKx⟩ := hv
  have hr0 : ∀ q, inS r q → r ≤ q := fun q h => h.1
  have hx := B.exec
  have hb := B.bytes
  have hr := B.returns
  have hts0 := atoms_spec (ws := wA yX6_addPlow cX6_addPlow 3 (some .int)) B.pre
  have hts : ∀ w ∈ AW, w.before _ s = true := fun w h => hts0 w (List.mem_cons_of_mem _ h)
  have hown : s.vm.findClass RX6 = some m.cls := findClass_of_methodNamed B.named
  have hlocks := B.notSynchronized
  have hA : ∀ q, (inS r) q → (inS r) q := fun _ h => h
  have hS : va_S (inS r) s.heap s.heap [] := va_S.rf
  have hG : Sn D r C J G n Y X U Z F s.heap := hG
  have hl := lv_entry ([.ref r, .int spd, .int cap]) (n := 3) (Nat.le_of_ble_eq_true rfl)
  refine W.eq (g2 := entryFrame m ([.ref r, .int spd, .int cap] : List Value).toArray 3) (by rw [hav]) ?_
  rw [lg_entry_eq]
  generalize (lg_sl ([.ref r, .int spd, .int cap]) ++ List.replicate (3 - (lg_sl ([.ref r, .int spd, .int cap])).length) Slot.unset).toArray = ls at hl ⊢
  have hl : lv_has ls 3 [(0, .ref r), (1, .int spd), (2, .int cap)] := hl
  have hn3 := hN.2.2.2
  refine lv_iload_n hx hb dX6_addPlow_0 rfl (lv_at hl 1 rfl) ?_
  refine lv_bipush (v := 100) hx hb dX6_addPlow_1 (by decide) ?_
  refine lv_sipush (v := 5000) hx hb dX6_addPlow_3 (by decide) ?_
  refine xcSv (As := [.int spd, .int 100, .int 5000]) (rest := []) hx hb hml hown hts hl.1 hK hKx hr0 (c_X6_checkArgument l hl0 D r C J G n Y X U Z F spd 100 5000) (gaS qM_X6_33 qT_X6_checkArgument qK_X6 qC_X6_checkArgument) hds_X6_checkArgument ⟨Nat.le_of_ble_eq_true rfl, Nat.le_of_ble_eq_true rfl⟩ hG rfl (Nat.le_of_ble_eq_true rfl) ⟨Nat.le_of_ble_eq_true rfl, Nat.le_of_ble_eq_true rfl⟩ dX6_addPlow_6 hS hA (fun ce q9 H locs hcx hG hz hq hS hce hv hcl => ?_) (fun H locs hc6 hG hz hq hS => ?_)
  · have hG : Sn D r C J G n Y X U Z F H := hG
    have hG9 : Sn D r (fC_X6_addPlow C G n spd cap) J (fG_X6_addPlow C G n spd cap) (fn_X6_addPlow C G n spd cap) Y X U Z F H := by
      unfold fC_X6_addPlow; (try dsimp only); (try rw [if_neg hcx])
      unfold fG_X6_addPlow; (try dsimp only); (try rw [if_neg hcx])
      unfold fn_X6_addPlow; (try dsimp only); (try rw [if_neg hcx])
      exact hG
    have hE : fE_X6_addPlow C G n spd cap = fE_X6_checkArgument spd 100 5000 := by unfold fE_X6_addPlow; (try dsimp only); (try rw [if_neg hcx]); (try rfl)
    exact xout hex hlocks hS (by rw [hE]; exact hcx) hG9 hce hv hE.symm hcl (by omega) (by omega)
  have hG : Sn D r C J G n Y X U Z F H := hG
  · refine lv_iload_n hx hb dX6_addPlow_9 rfl (lv_at hl 2 rfl) ?_
    refine lv_iconst (v := 0) hx hb dX6_addPlow_10 (by decide) ?_
    refine lv_sipush (v := 5000) hx hb dX6_addPlow_11 (by decide) ?_
    refine xcSv (As := [.int cap, .int 0, .int 5000]) (rest := []) hx hb hml hown hts hl.1 hK hKx hr0 (c_X6_checkArgument l hl0 D r C J G n Y X U Z F cap 0 5000) (gaS qM_X6_33 qT_X6_checkArgument qK_X6 qC_X6_checkArgument) hds_X6_checkArgument ⟨Nat.le_of_ble_eq_true rfl, Nat.le_of_ble_eq_true rfl⟩ hG rfl (Nat.le_of_ble_eq_true rfl) ⟨Nat.le_of_ble_eq_true rfl, Nat.le_of_ble_eq_true rfl⟩ dX6_addPlow_14 hS hA (fun ce q9 H locs hcx hG hz hq hS hce hv hcl => ?_) (fun H locs hc14 hG hz hq hS => ?_)
    · have hG : Sn D r C J G n Y X U Z F H := hG
      have hG9 : Sn D r (fC_X6_addPlow C G n spd cap) J (fG_X6_addPlow C G n spd cap) (fn_X6_addPlow C G n spd cap) Y X U Z F H := by
        unfold fC_X6_addPlow; (try dsimp only); (try rw [if_pos hc6, if_neg hcx])
        unfold fG_X6_addPlow; (try dsimp only); (try rw [if_pos hc6, if_neg hcx])
        unfold fn_X6_addPlow; (try dsimp only); (try rw [if_pos hc6, if_neg hcx])
        exact hG
      have hE : fE_X6_addPlow C G n spd cap = fE_X6_checkArgument cap 0 5000 := by unfold fE_X6_addPlow; (try dsimp only); (try rw [if_pos hc6, if_neg hcx]); (try rfl)
      exact xout hex hlocks hS (by rw [hE]; exact hcx) hG9 hce hv hE.symm hcl (by omega) (by omega)
    have hG : Sn D r C J G n Y X U Z F H := hG
    · refine lv_aload_n hx hb dX6_addPlow_17 rfl (lv_at hl 0 rfl) ?_
      refine getQc hx hb hts hown hK hG qF_X6_10 dX6_addPlow_18 ?_
      refine getC 3 2 rfl hx hb hts hown hK hG.gc (by decide) (by decide) (by decide) (by decide) qF_X6_62 rfl dX6_addPlow_21 ?_
      refine topN (n := (np C)) hN.2.2.1 ?_
      refine lv_iconst (v := 3) hx hb dX6_addPlow_24 (by decide) ?_
      refine lv_icmp_lt (tgt := 38) hx hb dX6_addPlow_25 (by decide) (fun c25 => ?_) (fun c25 => ?_)
      · have c25 : (np C) < 3 := (nI_ltI (a := (np C)) (b := 3) (by omega) (by omega)).mp c25
        refine lv_aload_n hx hb dX6_addPlow_38 rfl (lv_at hl 0 rfl) ?_
        refine getQv hx hb hts hown hK hG qF_X6_22 dX6_addPlow_39 ?_
        refine lv_aload_n hx hb dX6_addPlow_42 rfl (lv_at hl 0 rfl) ?_
        refine getQc hx hb hts hown hK hG qF_X6_10 dX6_addPlow_43 ?_
        refine gcVv (As := [.ref (r + 1)]) (rest := []) hx hb hml hown hts hl.1 hK (c_X2_save l D r C J G n Y X U Z F hn4 hN) (gaV qM_X6_48 qI_X2_save qS_X2_save qK_X2 qC_X2_save) hdv_X2_save ⟨Nat.le_of_ble_eq_true rfl, Nat.le_of_ble_eq_true rfl⟩ hG (Sn.recvV hK hG) rfl (Nat.le_of_ble_eq_true rfl) ⟨Nat.le_of_ble_eq_true rfl, Nat.le_of_ble_eq_true rfl⟩ dX6_addPlow_46 hS hA (fun H locs hG hz hq hS => ?_)
        have hG : Sn D r C J (fG_X2_save C G n) (fn_X2_save C G n) Y X U Z F H := hG
        generalize eG1 : fG_X2_save C G n = G1 at hG
        generalize en2 : fn_X2_save C G n = n2 at hG
        refine lv_aload_n hx hb dX6_addPlow_49 rfl (lv_at hl 0 rfl) ?_
        refine getQc hx hb hts hown hK hG qF_X6_10 dX6_addPlow_50 ?_
        refine getCp hx hb hts hown hK hG.gc qF_X6_67 dX6_addPlow_53 ?_
        refine lv_aload_n hx hb dX6_addPlow_56 rfl (lv_at hl 0 rfl) ?_
        refine getQc hx hb hts hown hK hG qF_X6_10 dX6_addPlow_57 ?_
        refine getC 3 2 rfl hx hb hts hown hK hG.gc (by decide) (by decide) (by decide) (by decide) qF_X6_62 rfl dX6_addPlow_60 ?_
        refine topN (n := (np C)) hN.2.2.1 ?_
        refine aldP (i := (np C)) hx hb hK hG.gc (by omega) dX6_addPlow_63 ?_
        refine lv_iload_n hx hb dX6_addPlow_64 rfl (lv_at hl 1 rfl) ?_
        refine lv_iload_n hx hb dX6_addPlow_65 rfl (lv_at hl 2 rfl) ?_
        refine gcVv (As := [.int spd, .int cap]) (rest := []) hx hb hml hown hts hl.1 hK (c_X1_begin l D (r + 1) C (np C) spd cap (by first | assumption | omega)) (gaV qM_X6_71 qI_X1_begin qS_X1_begin qK_X1 qC_X1_begin) hdv_X1_begin ⟨Nat.le_of_ble_eq_true rfl, Nat.le_of_ble_eq_true rfl⟩ hG.gc (hG.gc.recvP hK (by omega)) rfl (Nat.le_of_ble_eq_true rfl) ⟨Nat.le_of_ble_eq_true rfl, Nat.le_of_ble_eq_true rfl⟩ dX6_addPlow_66 hS (fun q h => by unfold inG at h; unfold inS; omega) (fun H locs hG1 hz hq hS => ?_)
        have hG : Sn D r (fP_X1_begin C (np C) spd cap) J G1 n2 Y X U Z F H := Sn.setC hG hG1 hq
        generalize eC3 : fP_X1_begin C (np C) spd cap = C3 at hG
        refine lv_aload_n hx hb dX6_addPlow_69 rfl (lv_at hl 0 rfl) ?_
        refine getQc hx hb hts hown hK hG qF_X6_10 dX6_addPlow_70 ?_
        refine lv_dup hx hb dX6_addPlow_73 rfl ?_
        refine getC 3 2 rfl hx hb hts hown hK hG.gc (by decide) (by decide) (by decide) (by decide) qF_X6_62 rfl dX6_addPlow_74 ?_
        refine lv_iconst (v := 1) hx hb dX6_addPlow_77 (by decide) ?_
        refine lv_iadd hx hb dX6_addPlow_78 ?_
        refine lv_topi (fun x4 ex4 => ?_)
        refine qputCc 3 2 rfl hx hb hts hown hK hG hS hA (by decide) (by decide) (by decide) (by decide) qF_X6_62 rfl dX6_addPlow_79 (fun H locs hG hS => ?_)
        generalize eC5 : upd C3 2 x4 = C5 at hG
        refine lv_aload_n hx hb dX6_addPlow_82 rfl (lv_at hl 0 rfl) ?_
        refine getQc hx hb hts hown hK hG qF_X6_10 dX6_addPlow_83 ?_
        refine getC 3 2 rfl hx hb hts hown hK hG.gc (by decide) (by decide) (by decide) (by decide) qF_X6_62 rfl dX6_addPlow_86 ?_
        refine lv_iconst (v := 1) hx hb dX6_addPlow_89 (by decide) ?_
        refine lv_isub hx hb dX6_addPlow_90 ?_
        subst eC5
        subst ex4
        subst eC3
        subst en2
        subst eG1
        have hG9 : Sn D r (fC_X6_addPlow C G n spd cap) J (fG_X6_addPlow C G n spd cap) (fn_X6_addPlow C G n spd cap) Y X U Z F H := by
          unfold fC_X6_addPlow; (try dsimp only); (try rw [if_pos hc6, if_pos hc14, if_pos c25])
          unfold fG_X6_addPlow; (try dsimp only); (try rw [if_pos hc6, if_pos hc14, if_pos c25])
          unfold fn_X6_addPlow; (try dsimp only); (try rw [if_pos hc6, if_pos hc14, if_pos c25])
          exact hG
        refine vx_ret (W.widen (k := 3) (n := 18) (by omega) (by omega) ?_)
        exact W.iret hx hb hr (fun t ht hW => xQi_of (by unfold fE_X6_addPlow; (try dsimp only); (try rw [if_pos hc6, if_pos hc14, if_pos c25]); (try rfl)) (by unfold fR_X6_addPlow; (try dsimp only); (try rw [if_pos hc6, if_pos hc14, if_pos c25]); (try rfl)) hG9 hS ht) hS.2.2 dX6_addPlow_91
      · have c25 : ¬ (np C) < 3 := fun h => c25 ((nI_ltI (a := (np C)) (b := 3) (by omega) (by omega)).mpr h)
        have hG9 : Sn D r (fC_X6_addPlow C G n spd cap) J (fG_X6_addPlow C G n spd cap) (fn_X6_addPlow C G n spd cap) Y X U Z F H := by
          unfold fC_X6_addPlow; (try dsimp only); (try rw [if_pos hc6, if_pos hc14, if_neg c25])
          unfold fG_X6_addPlow; (try dsimp only); (try rw [if_pos hc6, if_pos hc14, if_neg c25])
          unfold fn_X6_addPlow; (try dsimp only); (try rw [if_pos hc6, if_pos hc14, if_neg c25])
          exact hG
        have hE : fE_X6_addPlow C G n spd cap = 2 := by unfold fE_X6_addPlow; (try dsimp only); (try rw [if_pos hc6, if_pos hc14, if_neg c25]); (try rfl)
        exact xthr 2 ⟨by decide, by decide⟩ (ik := 41) (is := 65) (text := "there are 3 plows") exg2 exk2 exo2 hx hb hl0 hml hown hts hl.1 hKx hr0 qL_X6_41 qK_IllegalStateException (by decide +kernel) hS dX6_addPlow_28 dX6_addPlow_31 dX6_addPlow_32 dX6_addPlow_34 dX6_addPlow_37 hex hlocks ⟨Nat.le_of_ble_eq_true rfl, Nat.le_of_ble_eq_true rfl⟩ (Nat.le_of_ble_eq_true rfl) (Nat.le_of_ble_eq_true rfl) hE (fun H1 hz1 hq1 => hG9.keep hz1 hq1) (by omega) (by omega)
theorem hdv_X6_addStop : yX6_addStop.cls = RX6 ∧ yX6_addStop.cls ≠ "java/lang/invoke/MethodHandle" ∧ yX6_addStop.cls ≠ "java/lang/invoke/VarHandle" ∧ (parseMethodDescriptor yX6_addStop.desc).map (fun d => d.parameters.length) = some 2 := by decide +kernel
def fC_X6_addStop (C : Nat → Int32) (G : Nat → Nat → Int32) (n : Nat) (pl : Int32) (str : Int32) : Nat → Int32 :=
  if fE_X6_checkPlow C pl = 0 then
    if fE_X6_checkStreet C str = 0 then
      if (nc C pl.toNatClampNeg) < 12 then
        let C3 := upd C (169 + 20 * pl.toNatClampNeg + 8 + (nc C pl.toNatClampNeg)) str
        let x4 := (C3 (169 + 20 * pl.toNatClampNeg + 3)) + 1
        let C5 := upd C3 (169 + 20 * pl.toNatClampNeg + 3) x4
        C5
      else
        C
    else
      C
  else
    C
def fG_X6_addStop (C : Nat → Int32) (G : Nat → Nat → Int32) (n : Nat) (pl : Int32) (str : Int32) : Nat → Nat → Int32 :=
  if fE_X6_checkPlow C pl = 0 then
    if fE_X6_checkStreet C str = 0 then
      if (nc C pl.toNatClampNeg) < 12 then
        let G1 := fG_X2_save C G n
        G1
      else
        G
    else
      G
  else
    G
def fn_X6_addStop (C : Nat → Int32) (G : Nat → Nat → Int32) (n : Nat) (pl : Int32) (str : Int32) : Nat :=
  if fE_X6_checkPlow C pl = 0 then
    if fE_X6_checkStreet C str = 0 then
      if (nc C pl.toNatClampNeg) < 12 then
        let n2 := fn_X2_save C G n
        n2
      else
        n
    else
      n
  else
    n
def fR_X6_addStop (C : Nat → Int32) (G : Nat → Nat → Int32) (n : Nat) (pl : Int32) (str : Int32) : Int32 :=
  if fE_X6_checkPlow C pl = 0 then
    if fE_X6_checkStreet C str = 0 then
      if (nc C pl.toNatClampNeg) < 12 then
        let C3 := upd C (169 + 20 * pl.toNatClampNeg + 8 + (nc C pl.toNatClampNeg)) str
        let x4 := (C3 (169 + 20 * pl.toNatClampNeg + 3)) + 1
        let C5 := upd C3 (169 + 20 * pl.toNatClampNeg + 3) x4
        C5 (169 + 20 * pl.toNatClampNeg + 3)
      else
        0
    else
      0
  else
    0
def fE_X6_addStop (C : Nat → Int32) (G : Nat → Nat → Int32) (n : Nat) (pl : Int32) (str : Int32) : Nat :=
  if fE_X6_checkPlow C pl = 0 then
    if fE_X6_checkStreet C str = 0 then
      if (nc C pl.toNatClampNeg) < 12 then
        0
      else
        2
    else
      fE_X6_checkStreet C str
  else
    fE_X6_checkPlow C pl
set_option maxHeartbeats 4000000 in
set_option maxRecDepth 100000 in
theorem c_X6_addStop (l : Launch) (hl0 : l.stackTraces = false) (D : va_G) (r : Nat) (C J : Nat → Int32) (G : Nat → Nat → Int32) (n : Nat) (Y X U Z F : Nat → Int32) (pl : Int32) (str : Int32) (hN : okN C) (hn4 : n ≤ 4) (hQ : ∀ q, q < np C → okQ C q) : vx_Met l yX6_addStop (wA yX6_addStop cX6_addStop 4 (some .int)) (rmX 8 3 18) (xPc D r [.ref r, .int pl, .int str] (fun H => Sn D r C J G n Y X U Z F H)) (xQi (inS r) (fE_X6_addStop C G n pl str) (fR_X6_addStop C G n pl str) (fun H => Sn D r (fC_X6_addStop C G n pl str) J (fG_X6_addStop C G n pl str) (fn_X6_addStop C G n pl str) Y X U Z F H)) (xX (inS r) (fE_X6_addStop C G n pl str) (fun H => Sn D r (fC_X6_addStop C G n pl str) J (fG_X6_addStop C G n pl str) (fn_X6_addStop C G n pl str) Y X U Z F H)) 3 18 (inS r) := by
  refine vx_ofW (cc := cX6_addStop) (maxL := 4) (ret := (some .int)) (by decide) rfl ?_
  intro p e s m args below meth c s₁ B hml hex hv
  obtain ⟨hav, hG, hK, hKx⟩ := hv
  have hr0 : ∀ q, inS r q → r ≤ q := fun q h => h.1
  have hx := B.exec
  have hb := B.bytes
  have hr := B.returns
  have hts0 := atoms_spec (ws := wA yX6_addStop cX6_addStop 4 (some .int)) B.pre
  have hts : ∀ w ∈ AW, w.before _ s = true := fun w h => hts0 w (List.mem_cons_of_mem _ h)
  have hown : s.vm.findClass RX6 = some m.cls := findClass_of_methodNamed B.named
  have hlocks := B.notSynchronized
  have hA : ∀ q, (inS r) q → (inS r) q := fun _ h => h
  have hS : va_S (inS r) s.heap s.heap [] := va_S.rf
  have hG : Sn D r C J G n Y X U Z F s.heap := hG
  have hl := lv_entry ([.ref r, .int pl, .int str]) (n := 4) (Nat.le_of_ble_eq_true rfl)
  refine W.eq (g2 := entryFrame m ([.ref r, .int pl, .int str] : List Value).toArray 4) (by rw [hav]) ?_
  rw [lg_entry_eq]
  generalize (lg_sl ([.ref r, .int pl, .int str]) ++ List.replicate (4 - (lg_sl ([.ref r, .int pl, .int str])).length) Slot.unset).toArray = ls at hl ⊢
  have hl : lv_has ls 4 [(0, .ref r), (1, .int pl), (2, .int str)] := hl
  refine lv_aload_n hx hb dX6_addStop_0 rfl (lv_at hl 0 rfl) ?_
  refine lv_iload_n hx hb dX6_addStop_1 rfl (lv_at hl 1 rfl) ?_
  refine xcVv (As := [.int pl]) (rest := []) hx hb hml hown hts hl.1 hK hKx hr0 (c_X6_checkPlow l hl0 D r C J G n Y X U Z F pl) (gaV qM_X6_74 qI_X6_checkPlow qS_X6_checkPlow qK_X6 qC_X6_checkPlow) hdv_X6_checkPlow ⟨Nat.le_of_ble_eq_true rfl, Nat.le_of_ble_eq_true rfl⟩ hG (Sn.recv hK hG) rfl (Nat.le_of_ble_eq_true rfl) ⟨Nat.le_of_ble_eq_true rfl, Nat.le_of_ble_eq_true rfl⟩ dX6_addStop_2 hS hA (fun ce q9 H locs hcx hG hz hq hS hce hv hcl => ?_) (fun H locs hc2 hG hz hq hS => ?_)
  · have hG : Sn D r C J G n Y X U Z F H := hG
    have hG9 : Sn D r (fC_X6_addStop C G n pl str) J (fG_X6_addStop C G n pl str) (fn_X6_addStop C G n pl str) Y X U Z F H := by
      unfold fC_X6_addStop; (try dsimp only); (try rw [if_neg hcx])
      unfold fG_X6_addStop; (try dsimp only); (try rw [if_neg hcx])
      unfold fn_X6_addStop; (try dsimp only); (try rw [if_neg hcx])
      exact hG
    have hE : fE_X6_addStop C G n pl str = fE_X6_checkPlow C pl := by unfold fE_X6_addStop; (try dsimp only); (try rw [if_neg hcx]); (try rfl)
    exact xout hex hlocks hS (by rw [hE]; exact hcx) hG9 hce hv hE.symm hcl (by omega) (by omega)
  have hG : Sn D r C J G n Y X U Z F H := hG
  · refine lv_aload_n hx hb dX6_addStop_5 rfl (lv_at hl 0 rfl) ?_
    refine lv_iload_n hx hb dX6_addStop_6 rfl (lv_at hl 2 rfl) ?_
    refine xcVv (As := [.int str]) (rest := []) hx hb hml hown hts hl.1 hK hKx hr0 (c_X6_checkStreet l hl0 D r C J G n Y X U Z F str) (gaV qM_X6_78 qI_X6_checkStreet qS_X6_checkStreet qK_X6 qC_X6_checkStreet) hdv_X6_checkStreet ⟨Nat.le_of_ble_eq_true rfl, Nat.le_of_ble_eq_true rfl⟩ hG (Sn.recv hK hG) rfl (Nat.le_of_ble_eq_true rfl) ⟨Nat.le_of_ble_eq_true rfl, Nat.le_of_ble_eq_true rfl⟩ dX6_addStop_7 hS hA (fun ce q9 H locs hcx hG hz hq hS hce hv hcl => ?_) (fun H locs hc7 hG hz hq hS => ?_)
    · have hG : Sn D r C J G n Y X U Z F H := hG
      have hG9 : Sn D r (fC_X6_addStop C G n pl str) J (fG_X6_addStop C G n pl str) (fn_X6_addStop C G n pl str) Y X U Z F H := by
        unfold fC_X6_addStop; (try dsimp only); (try rw [if_pos hc2, if_neg hcx])
        unfold fG_X6_addStop; (try dsimp only); (try rw [if_pos hc2, if_neg hcx])
        unfold fn_X6_addStop; (try dsimp only); (try rw [if_pos hc2, if_neg hcx])
        exact hG
      have hE : fE_X6_addStop C G n pl str = fE_X6_checkStreet C str := by unfold fE_X6_addStop; (try dsimp only); (try rw [if_pos hc2, if_neg hcx]); (try rfl)
      exact xout hex hlocks hS (by rw [hE]; exact hcx) hG9 hce hv hE.symm hcl (by omega) (by omega)
    have hG : Sn D r C J G n Y X U Z F H := hG
    · have hpl := cP_n hN hc2
      have hn3 := hN.2.2.2
      have hp3 : pl.toNatClampNeg < 3 := by have := hpl.2; omega
      have hc12 := (hQ _ hpl.2).2
      refine lv_aload_n hx hb dX6_addStop_10 rfl (lv_at hl 0 rfl) ?_
      refine getQc hx hb hts hown hK hG qF_X6_10 dX6_addStop_11 ?_
      refine getCp hx hb hts hown hK hG.gc qF_X6_67 dX6_addStop_14 ?_
      refine lv_iload_n hx hb dX6_addStop_17 rfl (lv_at hl 1 rfl) ?_
      refine topN (n := pl.toNatClampNeg) hpl.1 ?_
      refine aldP (i := pl.toNatClampNeg) hx hb hK hG.gc (by omega) dX6_addStop_18 ?_
      refine lv_astore_n (lv' := [(3, .ref (r + 1 + 24 + 2 * pl.toNatClampNeg)), (0, .ref r), (1, .int pl), (2, .int str)]) hx hb dX6_addStop_19 rfl hl (by decide) rfl (fun ls hl => ?_)
      refine lv_aload_n hx hb dX6_addStop_20 rfl (lv_at hl 0 rfl) ?_
      refine getP 4 3 (i := pl.toNatClampNeg) rfl hx hb hts hown hK hG.gc (by omega) (by decide) (by decide) qF_X6_81 rfl dX6_addStop_21 ?_
      refine topN (n := (nc C pl.toNatClampNeg)) (hQ _ hpl.2).1 ?_
      refine lv_bipush (v := 12) hx hb dX6_addStop_24 (by decide) ?_
      refine lv_icmp_lt (tgt := 39) hx hb dX6_addStop_26 (by decide) (fun c26 => ?_) (fun c26 => ?_)
      · have c26 : (nc C pl.toNatClampNeg) < 12 := (nI_ltI (a := (nc C pl.toNatClampNeg)) (b := 12) (by omega) (by omega)).mp c26
        refine lv_aload_n hx hb dX6_addStop_39 rfl (lv_at hl 1 rfl) ?_
        refine getQv hx hb hts hown hK hG qF_X6_22 dX6_addStop_40 ?_
        refine lv_aload_n hx hb dX6_addStop_43 rfl (lv_at hl 1 rfl) ?_
        refine getQc hx hb hts hown hK hG qF_X6_10 dX6_addStop_44 ?_
        refine gcVv (As := [.ref (r + 1)]) (rest := []) hx hb hml hown hts hl.1 hK (c_X2_save l D r C J G n Y X U Z F hn4 hN) (gaV qM_X6_48 qI_X2_save qS_X2_save qK_X2 qC_X2_save) hdv_X2_save ⟨Nat.le_of_ble_eq_true rfl, Nat.le_of_ble_eq_true rfl⟩ hG (Sn.recvV hK hG) rfl (Nat.le_of_ble_eq_true rfl) ⟨Nat.le_of_ble_eq_true rfl, Nat.le_of_ble_eq_true rfl⟩ dX6_addStop_47 hS hA (fun H locs hG hz hq hS => ?_)
        have hG : Sn D r C J (fG_X2_save C G n) (fn_X2_save C G n) Y X U Z F H := hG
        generalize eG1 : fG_X2_save C G n = G1 at hG
        generalize en2 : fn_X2_save C G n = n2 at hG
        refine lv_aload_n hx hb dX6_addStop_50 rfl (lv_at hl 0 rfl) ?_
        refine getPr (i := pl.toNatClampNeg) hx hb hts hown hK hG.gc (by omega) qF_X6_86 dX6_addStop_51 ?_
        refine lv_aload_n hx hb dX6_addStop_54 rfl (lv_at hl 0 rfl) ?_
        refine getP 4 3 (i := pl.toNatClampNeg) rfl hx hb hts hown hK hG.gc (by omega) (by decide) (by decide) qF_X6_81 rfl dX6_addStop_55 ?_
        refine topN (n := (nc C pl.toNatClampNeg)) (hQ _ hpl.2).1 ?_
        refine lv_iload_n hx hb dX6_addStop_58 rfl (lv_at hl 3 rfl) ?_
        refine qastRc (i := pl.toNatClampNeg) (k := (nc C pl.toNatClampNeg)) hx hb hK hG hS hA (by omega) (by omega) dX6_addStop_59 (fun H locs hG hS => ?_)
        generalize eC3 : upd C (169 + 20 * pl.toNatClampNeg + 8 + (nc C pl.toNatClampNeg)) str = C3 at hG
        refine lv_aload_n hx hb dX6_addStop_60 rfl (lv_at hl 0 rfl) ?_
        refine lv_dup hx hb dX6_addStop_61 rfl ?_
        refine getP 4 3 (i := pl.toNatClampNeg) rfl hx hb hts hown hK hG.gc (by omega) (by decide) (by decide) qF_X6_81 rfl dX6_addStop_62 ?_
        refine lv_iconst (v := 1) hx hb dX6_addStop_65 (by decide) ?_
        refine lv_iadd hx hb dX6_addStop_66 ?_
        refine lv_topi (fun x4 ex4 => ?_)
        refine qputPc 4 3 (i := pl.toNatClampNeg) rfl hx hb hts hown hK hG hS hA (by omega) (by decide) (by decide) qF_X6_81 rfl dX6_addStop_67 (fun H locs hG hS => ?_)
        generalize eC5 : upd C3 (169 + 20 * pl.toNatClampNeg + 3) x4 = C5 at hG
        refine lv_aload_n hx hb dX6_addStop_70 rfl (lv_at hl 0 rfl) ?_
        refine getP 4 3 (i := pl.toNatClampNeg) rfl hx hb hts hown hK hG.gc (by omega) (by decide) (by decide) qF_X6_81 rfl dX6_addStop_71 ?_
        subst eC5
        subst ex4
        subst eC3
        subst en2
        subst eG1
        have hG9 : Sn D r (fC_X6_addStop C G n pl str) J (fG_X6_addStop C G n pl str) (fn_X6_addStop C G n pl str) Y X U Z F H := by
          unfold fC_X6_addStop; (try dsimp only); (try rw [if_pos hc2, if_pos hc7, if_pos c26])
          unfold fG_X6_addStop; (try dsimp only); (try rw [if_pos hc2, if_pos hc7, if_pos c26])
          unfold fn_X6_addStop; (try dsimp only); (try rw [if_pos hc2, if_pos hc7, if_pos c26])
          exact hG
        refine vx_ret (W.widen (k := 3) (n := 18) (by omega) (by omega) ?_)
        exact W.iret hx hb hr (fun t ht hW => xQi_of (by unfold fE_X6_addStop; (try dsimp only); (try rw [if_pos hc2, if_pos hc7, if_pos c26]); (try rfl)) (by unfold fR_X6_addStop; (try dsimp only); (try rw [if_pos hc2, if_pos hc7, if_pos c26]); (try rfl)) hG9 hS ht) hS.2.2 dX6_addStop_74
      · have c26 : ¬ (nc C pl.toNatClampNeg) < 12 := fun h => c26 ((nI_ltI (a := (nc C pl.toNatClampNeg)) (b := 12) (by omega) (by omega)).mpr h)
        have hG9 : Sn D r (fC_X6_addStop C G n pl str) J (fG_X6_addStop C G n pl str) (fn_X6_addStop C G n pl str) Y X U Z F H := by
          unfold fC_X6_addStop; (try dsimp only); (try rw [if_pos hc2, if_pos hc7, if_neg c26])
          unfold fG_X6_addStop; (try dsimp only); (try rw [if_pos hc2, if_pos hc7, if_neg c26])
          unfold fn_X6_addStop; (try dsimp only); (try rw [if_pos hc2, if_pos hc7, if_neg c26])
          exact hG
        have hE : fE_X6_addStop C G n pl str = 2 := by unfold fE_X6_addStop; (try dsimp only); (try rw [if_pos hc2, if_pos hc7, if_neg c26]); (try rfl)
        exact xthr 2 ⟨by decide, by decide⟩ (ik := 41) (is := 84) (text := "the route has 12 places") exg2 exk2 exo2 hx hb hl0 hml hown hts hl.1 hKx hr0 qL_X6_41 qK_IllegalStateException (by decide +kernel) hS dX6_addStop_29 dX6_addStop_32 dX6_addStop_33 dX6_addStop_35 dX6_addStop_38 hex hlocks ⟨Nat.le_of_ble_eq_true rfl, Nat.le_of_ble_eq_true rfl⟩ (Nat.le_of_ble_eq_true rfl) (Nat.le_of_ble_eq_true rfl) hE (fun H1 hz1 hq1 => hG9.keep hz1 hq1) (by omega) (by omega)
theorem hdv_X6_clearRoute : yX6_clearRoute.cls = RX6 ∧ yX6_clearRoute.cls ≠ "java/lang/invoke/MethodHandle" ∧ yX6_clearRoute.cls ≠ "java/lang/invoke/VarHandle" ∧ (parseMethodDescriptor yX6_clearRoute.desc).map (fun d => d.parameters.length) = some 1 := by decide +kernel
def fC_X6_clearRoute (C : Nat → Int32) (G : Nat → Nat → Int32) (n : Nat) (pl : Int32) : Nat → Int32 :=
  if fE_X6_checkPlow C pl = 0 then
    let C3 := fP_X1_forgetRoute C pl.toNatClampNeg
    C3
  else
    C
def fG_X6_clearRoute (C : Nat → Int32) (G : Nat → Nat → Int32) (n : Nat) (pl : Int32) : Nat → Nat → Int32 :=
  if fE_X6_checkPlow C pl = 0 then
    let G1 := fG_X2_save C G n
    G1
  else
    G
def fn_X6_clearRoute (C : Nat → Int32) (G : Nat → Nat → Int32) (n : Nat) (pl : Int32) : Nat :=
  if fE_X6_checkPlow C pl = 0 then
    let n2 := fn_X2_save C G n
    n2
  else
    n
def fR_X6_clearRoute (C : Nat → Int32) (G : Nat → Nat → Int32) (n : Nat) (pl : Int32) : Int32 :=
  if fE_X6_checkPlow C pl = 0 then
    fR_X1_forgetRoute C pl.toNatClampNeg
  else
    0
def fE_X6_clearRoute (C : Nat → Int32) (G : Nat → Nat → Int32) (n : Nat) (pl : Int32) : Nat :=
  if fE_X6_checkPlow C pl = 0 then
    0
  else
    fE_X6_checkPlow C pl
set_option maxHeartbeats 4000000 in
set_option maxRecDepth 100000 in
theorem c_X6_clearRoute (l : Launch) (hl0 : l.stackTraces = false) (D : va_G) (r : Nat) (C J : Nat → Int32) (G : Nat → Nat → Int32) (n : Nat) (Y X U Z F : Nat → Int32) (pl : Int32) (hN : okN C) (hn4 : n ≤ 4) : vx_Met l yX6_clearRoute (wA yX6_clearRoute cX6_clearRoute 2 (some .int)) (rmX 8 1 6) (xPc D r [.ref r, .int pl] (fun H => Sn D r C J G n Y X U Z F H)) (xQi (inS r) (fE_X6_clearRoute C G n pl) (fR_X6_clearRoute C G n pl) (fun H => Sn D r (fC_X6_clearRoute C G n pl) J (fG_X6_clearRoute C G n pl) (fn_X6_clearRoute C G n pl) Y X U Z F H)) (xX (inS r) (fE_X6_clearRoute C G n pl) (fun H => Sn D r (fC_X6_clearRoute C G n pl) J (fG_X6_clearRoute C G n pl) (fn_X6_clearRoute C G n pl) Y X U Z F H)) 1 6 (inS r) := by
  refine vx_ofW (cc := cX6_clearRoute) (maxL := 2) (ret := (some .int)) (by decide) rfl ?_
  intro p e s m args below meth c s₁ B hml hex hv
  obtain ⟨hav, hG, hK, hKx⟩ := hv
  have hr0 : ∀ q, inS r q → r ≤ q := fun q h => h.1
  have hx := B.exec
  have hb := B.bytes
  have hr := B.returns
  have hts0 := atoms_spec (ws := wA yX6_clearRoute cX6_clearRoute 2 (some .int)) B.pre
  have hts : ∀ w ∈ AW, w.before _ s = true := fun w h => hts0 w (List.mem_cons_of_mem _ h)
  have hown : s.vm.findClass RX6 = some m.cls := findClass_of_methodNamed B.named
  have hlocks := B.notSynchronized
  have hA : ∀ q, (inS r) q → (inS r) q := fun _ h => h
  have hS : va_S (inS r) s.heap s.heap [] := va_S.rf
  have hG : Sn D r C J G n Y X U Z F s.heap := hG
  have hl := lv_entry ([.ref r, .int pl]) (n := 2) (Nat.le_of_ble_eq_true rfl)
  refine W.eq (g2 := entryFrame m ([.ref r, .int pl] : List Value).toArray 2) (by rw [hav]) ?_
  rw [lg_entry_eq]
  generalize (lg_sl ([.ref r, .int pl]) ++ List.replicate (2 - (lg_sl ([.ref r, .int pl])).length) Slot.unset).toArray = ls at hl ⊢
  have hl : lv_has ls 2 [(0, .ref r), (1, .int pl)] := hl
  refine lv_aload_n hx hb dX6_clearRoute_0 rfl (lv_at hl 0 rfl) ?_
  refine lv_iload_n hx hb dX6_clearRoute_1 rfl (lv_at hl 1 rfl) ?_
  refine xcVv (As := [.int pl]) (rest := []) hx hb hml hown hts hl.1 hK hKx hr0 (c_X6_checkPlow l hl0 D r C J G n Y X U Z F pl) (gaV qM_X6_74 qI_X6_checkPlow qS_X6_checkPlow qK_X6 qC_X6_checkPlow) hdv_X6_checkPlow ⟨Nat.le_of_ble_eq_true rfl, Nat.le_of_ble_eq_true rfl⟩ hG (Sn.recv hK hG) rfl (Nat.le_of_ble_eq_true rfl) ⟨Nat.le_of_ble_eq_true rfl, Nat.le_of_ble_eq_true rfl⟩ dX6_clearRoute_2 hS hA (fun ce q9 H locs hcx hG hz hq hS hce hv hcl => ?_) (fun H locs hc2 hG hz hq hS => ?_)
  · have hG : Sn D r C J G n Y X U Z F H := hG
    have hG9 : Sn D r (fC_X6_clearRoute C G n pl) J (fG_X6_clearRoute C G n pl) (fn_X6_clearRoute C G n pl) Y X U Z F H := by
      unfold fC_X6_clearRoute; (try dsimp only); (try rw [if_neg hcx])
      unfold fG_X6_clearRoute; (try dsimp only); (try rw [if_neg hcx])
      unfold fn_X6_clearRoute; (try dsimp only); (try rw [if_neg hcx])
      exact hG
    have hE : fE_X6_clearRoute C G n pl = fE_X6_checkPlow C pl := by unfold fE_X6_clearRoute; (try dsimp only); (try rw [if_neg hcx]); (try rfl)
    exact xout hex hlocks hS (by rw [hE]; exact hcx) hG9 hce hv hE.symm hcl (by omega) (by omega)
  have hG : Sn D r C J G n Y X U Z F H := hG
  · have hpl := cP_n hN hc2
    have hn3 := hN.2.2.2
    have hp3 : pl.toNatClampNeg < 3 := by have := hpl.2; omega
    refine lv_aload_n hx hb dX6_clearRoute_5 rfl (lv_at hl 0 rfl) ?_
    refine getQv hx hb hts hown hK hG qF_X6_22 dX6_clearRoute_6 ?_
    refine lv_aload_n hx hb dX6_clearRoute_9 rfl (lv_at hl 0 rfl) ?_
    refine getQc hx hb hts hown hK hG qF_X6_10 dX6_clearRoute_10 ?_
    refine gcVv (As := [.ref (r + 1)]) (rest := []) hx hb hml hown hts hl.1 hK (c_X2_save l D r C J G n Y X U Z F hn4 hN) (gaV qM_X6_48 qI_X2_save qS_X2_save qK_X2 qC_X2_save) hdv_X2_save ⟨Nat.le_of_ble_eq_true rfl, Nat.le_of_ble_eq_true rfl⟩ hG (Sn.recvV hK hG) rfl (Nat.le_of_ble_eq_true rfl) ⟨Nat.le_of_ble_eq_true rfl, Nat.le_of_ble_eq_true rfl⟩ dX6_clearRoute_13 hS hA (fun H locs hG hz hq hS => ?_)
    have hG : Sn D r C J (fG_X2_save C G n) (fn_X2_save C G n) Y X U Z F H := hG
    generalize eG1 : fG_X2_save C G n = G1 at hG
    generalize en2 : fn_X2_save C G n = n2 at hG
    refine lv_aload_n hx hb dX6_clearRoute_16 rfl (lv_at hl 0 rfl) ?_
    refine getQc hx hb hts hown hK hG qF_X6_10 dX6_clearRoute_17 ?_
    refine getCp hx hb hts hown hK hG.gc qF_X6_67 dX6_clearRoute_20 ?_
    refine lv_iload_n hx hb dX6_clearRoute_23 rfl (lv_at hl 1 rfl) ?_
    refine topN (n := pl.toNatClampNeg) hpl.1 ?_
    refine aldP (i := pl.toNatClampNeg) hx hb hK hG.gc (by omega) dX6_clearRoute_24 ?_
    refine gcVi (As := []) (rest := []) hx hb hml hown hts hl.1 hK (c_X1_forgetRoute l D (r + 1) C pl.toNatClampNeg (by first | assumption | omega)) (gaV qM_X6_90 qI_X1_forgetRoute qS_X1_forgetRoute qK_X1 qC_X1_forgetRoute) hdv_X1_forgetRoute ⟨Nat.le_of_ble_eq_true rfl, Nat.le_of_ble_eq_true rfl⟩ hG.gc (hG.gc.recvP hK (by omega)) rfl (Nat.le_of_ble_eq_true rfl) ⟨Nat.le_of_ble_eq_true rfl, Nat.le_of_ble_eq_true rfl⟩ dX6_clearRoute_25 hS (fun q h => by unfold inG at h; unfold inS; omega) (fun H locs hG1 hz hq hS => ?_)
    have hG : Sn D r (fP_X1_forgetRoute C pl.toNatClampNeg) J G1 n2 Y X U Z F H := Sn.setC hG hG1 hq
    generalize eC3 : fP_X1_forgetRoute C pl.toNatClampNeg = C3 at hG
    subst eC3
    subst en2
    subst eG1
    have hG9 : Sn D r (fC_X6_clearRoute C G n pl) J (fG_X6_clearRoute C G n pl) (fn_X6_clearRoute C G n pl) Y X U Z F H := by
      unfold fC_X6_clearRoute; (try dsimp only); (try rw [if_pos hc2])
      unfold fG_X6_clearRoute; (try dsimp only); (try rw [if_pos hc2])
      unfold fn_X6_clearRoute; (try dsimp only); (try rw [if_pos hc2])
      exact hG
    refine vx_ret (W.widen (k := 1) (n := 6) (by omega) (by omega) ?_)
    exact W.iret hx hb hr (fun t ht hW => xQi_of (by unfold fE_X6_clearRoute; (try dsimp only); (try rw [if_pos hc2]); (try rfl)) (by unfold fR_X6_clearRoute; (try dsimp only); (try rw [if_pos hc2]); (try rfl)) hG9 hS ht) hS.2.2 dX6_clearRoute_28
theorem hdv_X6_exchange : yX6_exchange.cls = RX6 ∧ yX6_exchange.cls ≠ "java/lang/invoke/MethodHandle" ∧ yX6_exchange.cls ≠ "java/lang/invoke/VarHandle" ∧ (parseMethodDescriptor yX6_exchange.desc).map (fun d => d.parameters.length) = some 2 := by decide +kernel
def fC_X6_exchange (C : Nat → Int32) (G : Nat → Nat → Int32) (n : Nat) (pl : Int32) (x : Int32) : Nat → Int32 :=
  if fE_X6_checkPlow C pl = 0 then
    if fE_X6_checkIndex x ((C (169 + 20 * pl.toNatClampNeg + 3)) - 1) = 0 then
      if fR_X1_isBusyAtPair C pl.toNatClampNeg x = 0 then
        let C3 := fP_X1_swapWithNext C pl.toNatClampNeg x.toNatClampNeg
        C3
      else
        C
    else
      C
  else
    C
def fG_X6_exchange (C : Nat → Int32) (G : Nat → Nat → Int32) (n : Nat) (pl : Int32) (x : Int32) : Nat → Nat → Int32 :=
  if fE_X6_checkPlow C pl = 0 then
    if fE_X6_checkIndex x ((C (169 + 20 * pl.toNatClampNeg + 3)) - 1) = 0 then
      if fR_X1_isBusyAtPair C pl.toNatClampNeg x = 0 then
        let G1 := fG_X2_save C G n
        G1
      else
        G
    else
      G
  else
    G
def fn_X6_exchange (C : Nat → Int32) (G : Nat → Nat → Int32) (n : Nat) (pl : Int32) (x : Int32) : Nat :=
  if fE_X6_checkPlow C pl = 0 then
    if fE_X6_checkIndex x ((C (169 + 20 * pl.toNatClampNeg + 3)) - 1) = 0 then
      if fR_X1_isBusyAtPair C pl.toNatClampNeg x = 0 then
        let n2 := fn_X2_save C G n
        n2
      else
        n
    else
      n
  else
    n
def fR_X6_exchange (C : Nat → Int32) (G : Nat → Nat → Int32) (n : Nat) (pl : Int32) (x : Int32) : Int32 :=
  if fE_X6_checkPlow C pl = 0 then
    if fE_X6_checkIndex x ((C (169 + 20 * pl.toNatClampNeg + 3)) - 1) = 0 then
      if fR_X1_isBusyAtPair C pl.toNatClampNeg x = 0 then
        let C3 := fP_X1_swapWithNext C pl.toNatClampNeg x.toNatClampNeg
        C3 (169 + 20 * pl.toNatClampNeg + 8 + x.toNatClampNeg)
      else
        0
    else
      0
  else
    0
def fE_X6_exchange (C : Nat → Int32) (G : Nat → Nat → Int32) (n : Nat) (pl : Int32) (x : Int32) : Nat :=
  if fE_X6_checkPlow C pl = 0 then
    if fE_X6_checkIndex x ((C (169 + 20 * pl.toNatClampNeg + 3)) - 1) = 0 then
      if fR_X1_isBusyAtPair C pl.toNatClampNeg x = 0 then
        0
      else
        2
    else
      fE_X6_checkIndex x ((C (169 + 20 * pl.toNatClampNeg + 3)) - 1)
  else
    fE_X6_checkPlow C pl
set_option maxHeartbeats 4000000 in
set_option maxRecDepth 100000 in
theorem c_X6_exchange (l : Launch) (hl0 : l.stackTraces = false) (D : va_G) (r : Nat) (C J : Nat → Int32) (G : Nat → Nat → Int32) (n : Nat) (Y X U Z F : Nat → Int32) (pl : Int32) (x : Int32) (hN : okN C) (hn4 : n ≤ 4) (hQ : ∀ q, q < np C → okQ C q) : vx_Met l yX6_exchange (wA yX6_exchange cX6_exchange 4 (some .int)) (rmX 8 3 18) (xPc D r [.ref r, .int pl, .int x] (fun H => Sn D r C J G n Y X U Z F H)) (xQi (inS r) (fE_X6_exchange C G n pl x) (fR_X6_exchange C G n pl x) (fun H => Sn D r (fC_X6_exchange C G n pl x) J (fG_X6_exchange C G n pl x) (fn_X6_exchange C G n pl x) Y X U Z F H)) (xX (inS r) (fE_X6_exchange C G n pl x) (fun H => Sn D r (fC_X6_exchange C G n pl x) J (fG_X6_exchange C G n pl x) (fn_X6_exchange C G n pl x) Y X U Z F H)) 3 18 (inS r) := by
  refine vx_ofW (cc := cX6_exchange) (maxL := 4) (ret := (some .int)) (by decide) rfl ?_
  intro p e s m args below meth c s₁ B hml hex hv
  obtain ⟨hav, hG, hK, hKx⟩ := hv
  have hr0 : ∀ q, inS r q → r ≤ q := fun q h => h.1
  have hx := B.exec
  have hb := B.bytes
  have hr := B.returns
  have hts0 := atoms_spec (ws := wA yX6_exchange cX6_exchange 4 (some .int)) B.pre
  have hts : ∀ w ∈ AW, w.before _ s = true := fun w h => hts0 w (List.mem_cons_of_mem _ h)
  have hown : s.vm.findClass RX6 = some m.cls := findClass_of_methodNamed B.named
  have hlocks := B.notSynchronized
  have hA : ∀ q, (inS r) q → (inS r) q := fun _ h => h
  have hS : va_S (inS r) s.heap s.heap [] := va_S.rf
  have hG : Sn D r C J G n Y X U Z F s.heap := hG
  have hl := lv_entry ([.ref r, .int pl, .int x]) (n := 4) (Nat.le_of_ble_eq_true rfl)
  refine W.eq (g2 := entryFrame m ([.ref r, .int pl, .int x] : List Value).toArray 4) (by rw [hav]) ?_
  rw [lg_entry_eq]
  generalize (lg_sl ([.ref r, .int pl, .int x]) ++ List.replicate (4 - (lg_sl ([.ref r, .int pl, .int x])).length) Slot.unset).toArray = ls at hl ⊢
  have hl : lv_has ls 4 [(0, .ref r), (1, .int pl), (2, .int x)] := hl
  refine lv_aload_n hx hb dX6_exchange_0 rfl (lv_at hl 0 rfl) ?_
  refine lv_iload_n hx hb dX6_exchange_1 rfl (lv_at hl 1 rfl) ?_
  refine xcVv (As := [.int pl]) (rest := []) hx hb hml hown hts hl.1 hK hKx hr0 (c_X6_checkPlow l hl0 D r C J G n Y X U Z F pl) (gaV qM_X6_74 qI_X6_checkPlow qS_X6_checkPlow qK_X6 qC_X6_checkPlow) hdv_X6_checkPlow ⟨Nat.le_of_ble_eq_true rfl, Nat.le_of_ble_eq_true rfl⟩ hG (Sn.recv hK hG) rfl (Nat.le_of_ble_eq_true rfl) ⟨Nat.le_of_ble_eq_true rfl, Nat.le_of_ble_eq_true rfl⟩ dX6_exchange_2 hS hA (fun ce q9 H locs hcx hG hz hq hS hce hv hcl => ?_) (fun H locs hc2 hG hz hq hS => ?_)
  · have hG : Sn D r C J G n Y X U Z F H := hG
    have hG9 : Sn D r (fC_X6_exchange C G n pl x) J (fG_X6_exchange C G n pl x) (fn_X6_exchange C G n pl x) Y X U Z F H := by
      unfold fC_X6_exchange; (try dsimp only); (try rw [if_neg hcx])
      unfold fG_X6_exchange; (try dsimp only); (try rw [if_neg hcx])
      unfold fn_X6_exchange; (try dsimp only); (try rw [if_neg hcx])
      exact hG
    have hE : fE_X6_exchange C G n pl x = fE_X6_checkPlow C pl := by unfold fE_X6_exchange; (try dsimp only); (try rw [if_neg hcx]); (try rfl)
    exact xout hex hlocks hS (by rw [hE]; exact hcx) hG9 hce hv hE.symm hcl (by omega) (by omega)
  have hG : Sn D r C J G n Y X U Z F H := hG
  · have hpl := cP_n hN hc2
    have hn3 := hN.2.2.2
    have hp3 : pl.toNatClampNeg < 3 := by have := hpl.2; omega
    refine lv_aload_n hx hb dX6_exchange_5 rfl (lv_at hl 0 rfl) ?_
    refine getQc hx hb hts hown hK hG qF_X6_10 dX6_exchange_6 ?_
    refine getCp hx hb hts hown hK hG.gc qF_X6_67 dX6_exchange_9 ?_
    refine lv_iload_n hx hb dX6_exchange_12 rfl (lv_at hl 1 rfl) ?_
    refine topN (n := pl.toNatClampNeg) hpl.1 ?_
    refine aldP (i := pl.toNatClampNeg) hx hb hK hG.gc (by omega) dX6_exchange_13 ?_
    refine lv_astore_n (lv' := [(3, .ref (r + 1 + 24 + 2 * pl.toNatClampNeg)), (0, .ref r), (1, .int pl), (2, .int x)]) hx hb dX6_exchange_14 rfl hl (by decide) rfl (fun ls hl => ?_)
    refine lv_iload_n hx hb dX6_exchange_15 rfl (lv_at hl 3 rfl) ?_
    refine lv_aload_n hx hb dX6_exchange_16 rfl (lv_at hl 0 rfl) ?_
    refine getP 4 3 (i := pl.toNatClampNeg) rfl hx hb hts hown hK hG.gc (by omega) (by decide) (by decide) qF_X6_81 rfl dX6_exchange_17 ?_
    refine lv_iconst (v := 1) hx hb dX6_exchange_20 (by decide) ?_
    refine lv_isub hx hb dX6_exchange_21 ?_
    refine xcSv (As := [.int x, .int ((C (169 + 20 * pl.toNatClampNeg + 3)) - 1)]) (rest := []) hx hb hml hown hts hl.1 hK hKx hr0 (c_X6_checkIndex l hl0 D r C J G n Y X U Z F x ((C (169 + 20 * pl.toNatClampNeg + 3)) - 1)) (gaS qM_X6_94 qT_X6_checkIndex qK_X6 qC_X6_checkIndex) hds_X6_checkIndex ⟨Nat.le_of_ble_eq_true rfl, Nat.le_of_ble_eq_true rfl⟩ hG rfl (Nat.le_of_ble_eq_true rfl) ⟨Nat.le_of_ble_eq_true rfl, Nat.le_of_ble_eq_true rfl⟩ dX6_exchange_22 hS hA (fun ce q9 H locs hcx hG hz hq hS hce hv hcl => ?_) (fun H locs hc22 hG hz hq hS => ?_)
    · have hG : Sn D r C J G n Y X U Z F H := hG
      have hG9 : Sn D r (fC_X6_exchange C G n pl x) J (fG_X6_exchange C G n pl x) (fn_X6_exchange C G n pl x) Y X U Z F H := by
        unfold fC_X6_exchange; (try dsimp only); (try rw [if_pos hc2, if_neg hcx])
        unfold fG_X6_exchange; (try dsimp only); (try rw [if_pos hc2, if_neg hcx])
        unfold fn_X6_exchange; (try dsimp only); (try rw [if_pos hc2, if_neg hcx])
        exact hG
      have hE : fE_X6_exchange C G n pl x = fE_X6_checkIndex x ((C (169 + 20 * pl.toNatClampNeg + 3)) - 1) := by unfold fE_X6_exchange; (try dsimp only); (try rw [if_pos hc2, if_neg hcx]); (try rfl)
      exact xout hex hlocks hS (by rw [hE]; exact hcx) hG9 hce hv hE.symm hcl (by omega) (by omega)
    have hG : Sn D r C J G n Y X U Z F H := hG
    · have hxx := cX_n (hQ _ hpl.2) hc22
      refine lv_aload_n hx hb dX6_exchange_25 rfl (lv_at hl 0 rfl) ?_
      refine lv_iload_n hx hb dX6_exchange_26 rfl (lv_at hl 3 rfl) ?_
      refine gcVi (As := [.int x]) (rest := []) hx hb hml hown hts hl.1 hK (c_X1_isBusyAtPair l D (r + 1) C pl.toNatClampNeg x (by first | assumption | omega)) (gaV qM_X6_97 qI_X1_isBusyAtPair qS_X1_isBusyAtPair qK_X1 qC_X1_isBusyAtPair) hdv_X1_isBusyAtPair ⟨Nat.le_of_ble_eq_true rfl, Nat.le_of_ble_eq_true rfl⟩ hG.gc (hG.gc.recvP hK (by omega)) rfl (Nat.le_of_ble_eq_true rfl) ⟨Nat.le_of_ble_eq_true rfl, Nat.le_of_ble_eq_true rfl⟩ dX6_exchange_27 hS (fun q h => by unfold inG at h; unfold inS; omega) (fun H locs hG1 hz hq hS => ?_)
      have hG : Sn D r C J G n Y X U Z F H := Sn.setC hG hG1 hq
      refine lv_if_eq (tgt := 43) hx hb dX6_exchange_30 (by decide) (fun c30 => ?_) (fun c30 => ?_)
      · refine lv_aload_n hx hb dX6_exchange_43 rfl (lv_at hl 1 rfl) ?_
        refine getQv hx hb hts hown hK hG qF_X6_22 dX6_exchange_44 ?_
        refine lv_aload_n hx hb dX6_exchange_47 rfl (lv_at hl 1 rfl) ?_
        refine getQc hx hb hts hown hK hG qF_X6_10 dX6_exchange_48 ?_
        refine gcVv (As := [.ref (r + 1)]) (rest := []) hx hb hml hown hts hl.1 hK (c_X2_save l D r C J G n Y X U Z F hn4 hN) (gaV qM_X6_48 qI_X2_save qS_X2_save qK_X2 qC_X2_save) hdv_X2_save ⟨Nat.le_of_ble_eq_true rfl, Nat.le_of_ble_eq_true rfl⟩ hG (Sn.recvV hK hG) rfl (Nat.le_of_ble_eq_true rfl) ⟨Nat.le_of_ble_eq_true rfl, Nat.le_of_ble_eq_true rfl⟩ dX6_exchange_51 hS hA (fun H locs hG hz hq hS => ?_)
        have hG : Sn D r C J (fG_X2_save C G n) (fn_X2_save C G n) Y X U Z F H := hG
        generalize eG1 : fG_X2_save C G n = G1 at hG
        generalize en2 : fn_X2_save C G n = n2 at hG
        refine lv_aload_n hx hb dX6_exchange_54 rfl (lv_at hl 0 rfl) ?_
        refine lv_iload_n hx hb dX6_exchange_55 rfl (lv_at hl 3 rfl) ?_
        refine topN (n := x.toNatClampNeg) hxx.1 ?_
        refine gcVv (As := [.int (nI x.toNatClampNeg)]) (rest := []) hx hb hml hown hts hl.1 hK (c_X1_swapWithNext l D (r + 1) C pl.toNatClampNeg x.toNatClampNeg (by first | assumption | omega) hxx.2.2) (gaV qM_X6_103 qI_X1_swapWithNext qS_X1_swapWithNext qK_X1 qC_X1_swapWithNext) hdv_X1_swapWithNext ⟨Nat.le_of_ble_eq_true rfl, Nat.le_of_ble_eq_true rfl⟩ hG.gc (hG.gc.recvP hK (by omega)) rfl (Nat.le_of_ble_eq_true rfl) ⟨Nat.le_of_ble_eq_true rfl, Nat.le_of_ble_eq_true rfl⟩ dX6_exchange_56 hS (fun q h => by unfold inG at h; unfold inS; omega) (fun H locs hG1 hz hq hS => ?_)
        have hG : Sn D r (fP_X1_swapWithNext C pl.toNatClampNeg x.toNatClampNeg) J G1 n2 Y X U Z F H := Sn.setC hG hG1 hq
        generalize eC3 : fP_X1_swapWithNext C pl.toNatClampNeg x.toNatClampNeg = C3 at hG
        refine lv_aload_n hx hb dX6_exchange_59 rfl (lv_at hl 0 rfl) ?_
        refine getPr (i := pl.toNatClampNeg) hx hb hts hown hK hG.gc (by omega) qF_X6_86 dX6_exchange_60 ?_
        refine lv_iload_n hx hb dX6_exchange_63 rfl (lv_at hl 3 rfl) ?_
        refine topN (n := x.toNatClampNeg) hxx.1 ?_
        refine aldR (i := pl.toNatClampNeg) (k := x.toNatClampNeg) hx hb hK hG.gc (by omega) (by have := hxx.2.2; omega) dX6_exchange_64 ?_
        subst eC3
        subst en2
        subst eG1
        have hG9 : Sn D r (fC_X6_exchange C G n pl x) J (fG_X6_exchange C G n pl x) (fn_X6_exchange C G n pl x) Y X U Z F H := by
          unfold fC_X6_exchange; (try dsimp only); (try rw [if_pos hc2, if_pos hc22, if_pos c30])
          unfold fG_X6_exchange; (try dsimp only); (try rw [if_pos hc2, if_pos hc22, if_pos c30])
          unfold fn_X6_exchange; (try dsimp only); (try rw [if_pos hc2, if_pos hc22, if_pos c30])
          exact hG
        refine vx_ret (W.widen (k := 3) (n := 18) (by omega) (by omega) ?_)
        exact W.iret hx hb hr (fun t ht hW => xQi_of (by unfold fE_X6_exchange; (try dsimp only); (try rw [if_pos hc2, if_pos hc22, if_pos c30]); (try rfl)) (by unfold fR_X6_exchange; (try dsimp only); (try rw [if_pos hc2, if_pos hc22, if_pos c30]); (try rfl)) hG9 hS ht) hS.2.2 dX6_exchange_65
      · have hG9 : Sn D r (fC_X6_exchange C G n pl x) J (fG_X6_exchange C G n pl x) (fn_X6_exchange C G n pl x) Y X U Z F H := by
          unfold fC_X6_exchange; (try dsimp only); (try rw [if_pos hc2, if_pos hc22, if_neg c30])
          unfold fG_X6_exchange; (try dsimp only); (try rw [if_pos hc2, if_pos hc22, if_neg c30])
          unfold fn_X6_exchange; (try dsimp only); (try rw [if_pos hc2, if_pos hc22, if_neg c30])
          exact hG
        have hE : fE_X6_exchange C G n pl x = 2 := by unfold fE_X6_exchange; (try dsimp only); (try rw [if_pos hc2, if_pos hc22, if_neg c30]); (try rfl)
        exact xthr 2 ⟨by decide, by decide⟩ (ik := 41) (is := 101) (text := "the plow has begun one of both places") exg2 exk2 exo2 hx hb hl0 hml hown hts hl.1 hKx hr0 qL_X6_41 qK_IllegalStateException (by decide +kernel) hS dX6_exchange_33 dX6_exchange_36 dX6_exchange_37 dX6_exchange_39 dX6_exchange_42 hex hlocks ⟨Nat.le_of_ble_eq_true rfl, Nat.le_of_ble_eq_true rfl⟩ (Nat.le_of_ble_eq_true rfl) (Nat.le_of_ble_eq_true rfl) hE (fun H1 hz1 hq1 => hG9.keep hz1 hq1) (by omega) (by omega)
theorem hdv_X6_setTerms : yX6_setTerms.cls = RX6 ∧ yX6_setTerms.cls ≠ "java/lang/invoke/MethodHandle" ∧ yX6_setTerms.cls ≠ "java/lang/invoke/VarHandle" ∧ (parseMethodDescriptor yX6_setTerms.desc).map (fun d => d.parameters.length) = some 4 := by decide +kernel
def fC_X6_setTerms (C : Nat → Int32) (G : Nat → Nat → Int32) (n : Nat) (pri : Int32) (tr : Int32) (li : Int32) (cr : Int32) : Nat → Int32 :=
  if fE_X6_checkIndex pri 3 = 0 then
    if fE_X6_checkArgument tr 1 200 = 0 then
      if fE_X6_checkArgument li 1 48 = 0 then
        if fE_X6_checkArgument cr 0 1000 = 0 then
          let C4 := upd C (229 + 4 * pri.toNatClampNeg + 0) tr
          let C5 := upd C4 (229 + 4 * pri.toNatClampNeg + 1) li
          let C6 := upd C5 (229 + 4 * pri.toNatClampNeg + 2) cr
          C6
        else
          C
      else
        C
    else
      C
  else
    C
def fG_X6_setTerms (C : Nat → Int32) (G : Nat → Nat → Int32) (n : Nat) (pri : Int32) (tr : Int32) (li : Int32) (cr : Int32) : Nat → Nat → Int32 :=
  if fE_X6_checkIndex pri 3 = 0 then
    if fE_X6_checkArgument tr 1 200 = 0 then
      if fE_X6_checkArgument li 1 48 = 0 then
        if fE_X6_checkArgument cr 0 1000 = 0 then
          let G1 := fG_X2_save C G n
          G1
        else
          G
      else
        G
    else
      G
  else
    G
def fn_X6_setTerms (C : Nat → Int32) (G : Nat → Nat → Int32) (n : Nat) (pri : Int32) (tr : Int32) (li : Int32) (cr : Int32) : Nat :=
  if fE_X6_checkIndex pri 3 = 0 then
    if fE_X6_checkArgument tr 1 200 = 0 then
      if fE_X6_checkArgument li 1 48 = 0 then
        if fE_X6_checkArgument cr 0 1000 = 0 then
          let n2 := fn_X2_save C G n
          n2
        else
          n
      else
        n
    else
      n
  else
    n
def fR_X6_setTerms (C : Nat → Int32) (G : Nat → Nat → Int32) (n : Nat) (pri : Int32) (tr : Int32) (li : Int32) (cr : Int32) : Int32 :=
  if fE_X6_checkIndex pri 3 = 0 then
    if fE_X6_checkArgument tr 1 200 = 0 then
      if fE_X6_checkArgument li 1 48 = 0 then
        if fE_X6_checkArgument cr 0 1000 = 0 then
          let x3 := C (229 + 4 * pri.toNatClampNeg + 0)
          x3
        else
          0
      else
        0
    else
      0
  else
    0
def fE_X6_setTerms (C : Nat → Int32) (G : Nat → Nat → Int32) (n : Nat) (pri : Int32) (tr : Int32) (li : Int32) (cr : Int32) : Nat :=
  if fE_X6_checkIndex pri 3 = 0 then
    if fE_X6_checkArgument tr 1 200 = 0 then
      if fE_X6_checkArgument li 1 48 = 0 then
        if fE_X6_checkArgument cr 0 1000 = 0 then
          0
        else
          fE_X6_checkArgument cr 0 1000
      else
        fE_X6_checkArgument li 1 48
    else
      fE_X6_checkArgument tr 1 200
  else
    fE_X6_checkIndex pri 3
set_option maxHeartbeats 4000000 in
set_option maxRecDepth 100000 in
theorem c_X6_setTerms (l : Launch) (hl0 : l.stackTraces = false) (D : va_G) (r : Nat) (C J : Nat → Int32) (G : Nat → Nat → Int32) (n : Nat) (Y X U Z F : Nat → Int32) (pri : Int32) (tr : Int32) (li : Int32) (cr : Int32) (hN : okN C) (hn4 : n ≤ 4) : vx_Met l yX6_setTerms (wA yX6_setTerms cX6_setTerms 7 (some .int)) (rmX 7 4 24) (xPc D r [.ref r, .int pri, .int tr, .int li, .int cr] (fun H => Sn D r C J G n Y X U Z F H)) (xQi (inS r) (fE_X6_setTerms C G n pri tr li cr) (fR_X6_setTerms C G n pri tr li cr) (fun H => Sn D r (fC_X6_setTerms C G n pri tr li cr) J (fG_X6_setTerms C G n pri tr li cr) (fn_X6_setTerms C G n pri tr li cr) Y X U Z F H)) (xX (inS r) (fE_X6_setTerms C G n pri tr li cr) (fun H => Sn D r (fC_X6_setTerms C G n pri tr li cr) J (fG_X6_setTerms C G n pri tr li cr) (fn_X6_setTerms C G n pri tr li cr) Y X U Z F H)) 4 24 (inS r) := by
  refine vx_ofW (cc := cX6_setTerms) (maxL := 7) (ret := (some .int)) (by decide) rfl ?_
  intro p e s m args below meth c s₁ B hml hex hv
  obtain ⟨hav, hG, hK, hKx⟩ := hv
  have hr0 : ∀ q, inS r q → r ≤ q := fun q h => h.1
  have hx := B.exec
  have hb := B.bytes
  have hr := B.returns
  have hts0 := atoms_spec (ws := wA yX6_setTerms cX6_setTerms 7 (some .int)) B.pre
  have hts : ∀ w ∈ AW, w.before _ s = true := fun w h => hts0 w (List.mem_cons_of_mem _ h)
  have hown : s.vm.findClass RX6 = some m.cls := findClass_of_methodNamed B.named
  have hlocks := B.notSynchronized
  have hA : ∀ q, (inS r) q → (inS r) q := fun _ h => h
  have hS : va_S (inS r) s.heap s.heap [] := va_S.rf
  have hG : Sn D r C J G n Y X U Z F s.heap := hG
  have hl := lv_entry ([.ref r, .int pri, .int tr, .int li, .int cr]) (n := 7) (Nat.le_of_ble_eq_true rfl)
  refine W.eq (g2 := entryFrame m ([.ref r, .int pri, .int tr, .int li, .int cr] : List Value).toArray 7) (by rw [hav]) ?_
  rw [lg_entry_eq]
  generalize (lg_sl ([.ref r, .int pri, .int tr, .int li, .int cr]) ++ List.replicate (7 - (lg_sl ([.ref r, .int pri, .int tr, .int li, .int cr])).length) Slot.unset).toArray = ls at hl ⊢
  have hl : lv_has ls 7 [(0, .ref r), (1, .int pri), (2, .int tr), (3, .int li), (4, .int cr)] := hl
  refine lv_iload_n hx hb dX6_setTerms_0 rfl (lv_at hl 1 rfl) ?_
  refine lv_iconst (v := 3) hx hb dX6_setTerms_1 (by decide) ?_
  refine xcSv (As := [.int pri, .int 3]) (rest := []) hx hb hml hown hts hl.1 hK hKx hr0 (c_X6_checkIndex l hl0 D r C J G n Y X U Z F pri 3) (gaS qM_X6_94 qT_X6_checkIndex qK_X6 qC_X6_checkIndex) hds_X6_checkIndex ⟨Nat.le_of_ble_eq_true rfl, Nat.le_of_ble_eq_true rfl⟩ hG rfl (Nat.le_of_ble_eq_true rfl) ⟨Nat.le_of_ble_eq_true rfl, Nat.le_of_ble_eq_true rfl⟩ dX6_setTerms_2 hS hA (fun ce q9 H locs hcx hG hz hq hS hce hv hcl => ?_) (fun H locs hc2 hG hz hq hS => ?_)
  · have hG : Sn D r C J G n Y X U Z F H := hG
    have hG9 : Sn D r (fC_X6_setTerms C G n pri tr li cr) J (fG_X6_setTerms C G n pri tr li cr) (fn_X6_setTerms C G n pri tr li cr) Y X U Z F H := by
      unfold fC_X6_setTerms; (try dsimp only); (try rw [if_neg hcx])
      unfold fG_X6_setTerms; (try dsimp only); (try rw [if_neg hcx])
      unfold fn_X6_setTerms; (try dsimp only); (try rw [if_neg hcx])
      exact hG
    have hE : fE_X6_setTerms C G n pri tr li cr = fE_X6_checkIndex pri 3 := by unfold fE_X6_setTerms; (try dsimp only); (try rw [if_neg hcx]); (try rfl)
    exact xout hex hlocks hS (by rw [hE]; exact hcx) hG9 hce hv hE.symm hcl (by omega) (by omega)
  have hG : Sn D r C J G n Y X U Z F H := hG
  · have hpp := cI_n (n := 3) (by decide) hc2
    have hp3 := hpp.2
    refine lv_iload_n hx hb dX6_setTerms_5 rfl (lv_at hl 2 rfl) ?_
    refine lv_iconst (v := 1) hx hb dX6_setTerms_6 (by decide) ?_
    refine lv_sipush (v := 200) hx hb dX6_setTerms_7 (by decide) ?_
    refine xcSv (As := [.int tr, .int 1, .int 200]) (rest := []) hx hb hml hown hts hl.1 hK hKx hr0 (c_X6_checkArgument l hl0 D r C J G n Y X U Z F tr 1 200) (gaS qM_X6_33 qT_X6_checkArgument qK_X6 qC_X6_checkArgument) hds_X6_checkArgument ⟨Nat.le_of_ble_eq_true rfl, Nat.le_of_ble_eq_true rfl⟩ hG rfl (Nat.le_of_ble_eq_true rfl) ⟨Nat.le_of_ble_eq_true rfl, Nat.le_of_ble_eq_true rfl⟩ dX6_setTerms_10 hS hA (fun ce q9 H locs hcx hG hz hq hS hce hv hcl => ?_) (fun H locs hc10 hG hz hq hS => ?_)
    · have hG : Sn D r C J G n Y X U Z F H := hG
      have hG9 : Sn D r (fC_X6_setTerms C G n pri tr li cr) J (fG_X6_setTerms C G n pri tr li cr) (fn_X6_setTerms C G n pri tr li cr) Y X U Z F H := by
        unfold fC_X6_setTerms; (try dsimp only); (try rw [if_pos hc2, if_neg hcx])
        unfold fG_X6_setTerms; (try dsimp only); (try rw [if_pos hc2, if_neg hcx])
        unfold fn_X6_setTerms; (try dsimp only); (try rw [if_pos hc2, if_neg hcx])
        exact hG
      have hE : fE_X6_setTerms C G n pri tr li cr = fE_X6_checkArgument tr 1 200 := by unfold fE_X6_setTerms; (try dsimp only); (try rw [if_pos hc2, if_neg hcx]); (try rfl)
      exact xout hex hlocks hS (by rw [hE]; exact hcx) hG9 hce hv hE.symm hcl (by omega) (by omega)
    have hG : Sn D r C J G n Y X U Z F H := hG
    · refine lv_iload_n hx hb dX6_setTerms_13 rfl (lv_at hl 3 rfl) ?_
      refine lv_iconst (v := 1) hx hb dX6_setTerms_14 (by decide) ?_
      refine lv_bipush (v := 48) hx hb dX6_setTerms_15 (by decide) ?_
      refine xcSv (As := [.int li, .int 1, .int 48]) (rest := []) hx hb hml hown hts hl.1 hK hKx hr0 (c_X6_checkArgument l hl0 D r C J G n Y X U Z F li 1 48) (gaS qM_X6_33 qT_X6_checkArgument qK_X6 qC_X6_checkArgument) hds_X6_checkArgument ⟨Nat.le_of_ble_eq_true rfl, Nat.le_of_ble_eq_true rfl⟩ hG rfl (Nat.le_of_ble_eq_true rfl) ⟨Nat.le_of_ble_eq_true rfl, Nat.le_of_ble_eq_true rfl⟩ dX6_setTerms_17 hS hA (fun ce q9 H locs hcx hG hz hq hS hce hv hcl => ?_) (fun H locs hc17 hG hz hq hS => ?_)
      · have hG : Sn D r C J G n Y X U Z F H := hG
        have hG9 : Sn D r (fC_X6_setTerms C G n pri tr li cr) J (fG_X6_setTerms C G n pri tr li cr) (fn_X6_setTerms C G n pri tr li cr) Y X U Z F H := by
          unfold fC_X6_setTerms; (try dsimp only); (try rw [if_pos hc2, if_pos hc10, if_neg hcx])
          unfold fG_X6_setTerms; (try dsimp only); (try rw [if_pos hc2, if_pos hc10, if_neg hcx])
          unfold fn_X6_setTerms; (try dsimp only); (try rw [if_pos hc2, if_pos hc10, if_neg hcx])
          exact hG
        have hE : fE_X6_setTerms C G n pri tr li cr = fE_X6_checkArgument li 1 48 := by unfold fE_X6_setTerms; (try dsimp only); (try rw [if_pos hc2, if_pos hc10, if_neg hcx]); (try rfl)
        exact xout hex hlocks hS (by rw [hE]; exact hcx) hG9 hce hv hE.symm hcl (by omega) (by omega)
      have hG : Sn D r C J G n Y X U Z F H := hG
      · refine lv_iload hx hb dX6_setTerms_20 (lv_at hl 4 rfl) ?_
        refine lv_iconst (v := 0) hx hb dX6_setTerms_22 (by decide) ?_
        refine lv_sipush (v := 1000) hx hb dX6_setTerms_23 (by decide) ?_
        refine xcSv (As := [.int cr, .int 0, .int 1000]) (rest := []) hx hb hml hown hts hl.1 hK hKx hr0 (c_X6_checkArgument l hl0 D r C J G n Y X U Z F cr 0 1000) (gaS qM_X6_33 qT_X6_checkArgument qK_X6 qC_X6_checkArgument) hds_X6_checkArgument ⟨Nat.le_of_ble_eq_true rfl, Nat.le_of_ble_eq_true rfl⟩ hG rfl (Nat.le_of_ble_eq_true rfl) ⟨Nat.le_of_ble_eq_true rfl, Nat.le_of_ble_eq_true rfl⟩ dX6_setTerms_26 hS hA (fun ce q9 H locs hcx hG hz hq hS hce hv hcl => ?_) (fun H locs hc26 hG hz hq hS => ?_)
        · have hG : Sn D r C J G n Y X U Z F H := hG
          have hG9 : Sn D r (fC_X6_setTerms C G n pri tr li cr) J (fG_X6_setTerms C G n pri tr li cr) (fn_X6_setTerms C G n pri tr li cr) Y X U Z F H := by
            unfold fC_X6_setTerms; (try dsimp only); (try rw [if_pos hc2, if_pos hc10, if_pos hc17, if_neg hcx])
            unfold fG_X6_setTerms; (try dsimp only); (try rw [if_pos hc2, if_pos hc10, if_pos hc17, if_neg hcx])
            unfold fn_X6_setTerms; (try dsimp only); (try rw [if_pos hc2, if_pos hc10, if_pos hc17, if_neg hcx])
            exact hG
          have hE : fE_X6_setTerms C G n pri tr li cr = fE_X6_checkArgument cr 0 1000 := by unfold fE_X6_setTerms; (try dsimp only); (try rw [if_pos hc2, if_pos hc10, if_pos hc17, if_neg hcx]); (try rfl)
          exact xout hex hlocks hS (by rw [hE]; exact hcx) hG9 hce hv hE.symm hcl (by omega) (by omega)
        have hG : Sn D r C J G n Y X U Z F H := hG
        · refine lv_aload_n hx hb dX6_setTerms_29 rfl (lv_at hl 0 rfl) ?_
          refine getQv hx hb hts hown hK hG qF_X6_22 dX6_setTerms_30 ?_
          refine lv_aload_n hx hb dX6_setTerms_33 rfl (lv_at hl 0 rfl) ?_
          refine getQc hx hb hts hown hK hG qF_X6_10 dX6_setTerms_34 ?_
          refine gcVv (As := [.ref (r + 1)]) (rest := []) hx hb hml hown hts hl.1 hK (c_X2_save l D r C J G n Y X U Z F hn4 hN) (gaV qM_X6_48 qI_X2_save qS_X2_save qK_X2 qC_X2_save) hdv_X2_save ⟨Nat.le_of_ble_eq_true rfl, Nat.le_of_ble_eq_true rfl⟩ hG (Sn.recvV hK hG) rfl (Nat.le_of_ble_eq_true rfl) ⟨Nat.le_of_ble_eq_true rfl, Nat.le_of_ble_eq_true rfl⟩ dX6_setTerms_37 hS hA (fun H locs hG hz hq hS => ?_)
          have hG : Sn D r C J (fG_X2_save C G n) (fn_X2_save C G n) Y X U Z F H := hG
          generalize eG1 : fG_X2_save C G n = G1 at hG
          generalize en2 : fn_X2_save C G n = n2 at hG
          refine lv_aload_n hx hb dX6_setTerms_40 rfl (lv_at hl 0 rfl) ?_
          refine getQc hx hb hts hown hK hG qF_X6_10 dX6_setTerms_41 ?_
          refine getCt hx hb hts hown hK hG.gc qF_X6_106 dX6_setTerms_44 ?_
          refine lv_iload_n hx hb dX6_setTerms_47 rfl (lv_at hl 1 rfl) ?_
          refine topN (n := pri.toNatClampNeg) hpp.1 ?_
          refine aldT (i := pri.toNatClampNeg) hx hb hK hG.gc (by omega) dX6_setTerms_48 ?_
          refine lv_astore (lv' := [(5, .ref (r + 1 + 30 + pri.toNatClampNeg)), (0, .ref r), (1, .int pri), (2, .int tr), (3, .int li), (4, .int cr)]) hx hb dX6_setTerms_49 hl (by decide) rfl (fun ls hl => ?_)
          refine lv_aload hx hb dX6_setTerms_51 (lv_at hl 0 rfl) ?_
          refine getT 0 (i := pri.toNatClampNeg) hx hb hts hown hK hG.gc (by omega) (by decide) qF_X6_110 rfl dX6_setTerms_53 ?_
          refine lv_topi (fun x3 ex3 => ?_)
          refine lv_istore (lv' := [(6, .int x3), (5, .ref (r + 1 + 30 + pri.toNatClampNeg)), (0, .ref r), (1, .int pri), (2, .int tr), (3, .int li), (4, .int cr)]) hx hb dX6_setTerms_56 hl (by decide) rfl (fun ls hl => ?_)
          refine lv_aload hx hb dX6_setTerms_58 (lv_at hl 1 rfl) ?_
          refine lv_iload_n hx hb dX6_setTerms_60 rfl (lv_at hl 4 rfl) ?_
          refine qputTc 0 (i := pri.toNatClampNeg) hx hb hts hown hK hG hS hA (by omega) (by decide) qF_X6_110 rfl dX6_setTerms_61 (fun H locs hG hS => ?_)
          generalize eC4 : upd C (229 + 4 * pri.toNatClampNeg + 0) tr = C4 at hG
          refine lv_aload hx hb dX6_setTerms_64 (lv_at hl 1 rfl) ?_
          refine lv_iload_n hx hb dX6_setTerms_66 rfl (lv_at hl 5 rfl) ?_
          refine qputTc 1 (i := pri.toNatClampNeg) hx hb hts hown hK hG hS hA (by omega) (by decide) qF_X6_115 rfl dX6_setTerms_67 (fun H locs hG hS => ?_)
          generalize eC5 : upd C4 (229 + 4 * pri.toNatClampNeg + 1) li = C5 at hG
          refine lv_aload hx hb dX6_setTerms_70 (lv_at hl 1 rfl) ?_
          refine lv_iload hx hb dX6_setTerms_72 (lv_at hl 6 rfl) ?_
          refine qputTc 2 (i := pri.toNatClampNeg) hx hb hts hown hK hG hS hA (by omega) (by decide) qF_X6_118 rfl dX6_setTerms_74 (fun H locs hG hS => ?_)
          generalize eC6 : upd C5 (229 + 4 * pri.toNatClampNeg + 2) cr = C6 at hG
          refine lv_iload hx hb dX6_setTerms_77 (lv_at hl 0 rfl) ?_
          subst eC6
          subst eC5
          subst eC4
          subst ex3
          subst en2
          subst eG1
          have hG9 : Sn D r (fC_X6_setTerms C G n pri tr li cr) J (fG_X6_setTerms C G n pri tr li cr) (fn_X6_setTerms C G n pri tr li cr) Y X U Z F H := by
            unfold fC_X6_setTerms; (try dsimp only); (try rw [if_pos hc2, if_pos hc10, if_pos hc17, if_pos hc26])
            unfold fG_X6_setTerms; (try dsimp only); (try rw [if_pos hc2, if_pos hc10, if_pos hc17, if_pos hc26])
            unfold fn_X6_setTerms; (try dsimp only); (try rw [if_pos hc2, if_pos hc10, if_pos hc17, if_pos hc26])
            exact hG
          refine vx_ret (W.widen (k := 4) (n := 24) (by omega) (by omega) ?_)
          exact W.iret hx hb hr (fun t ht hW => xQi_of (by unfold fE_X6_setTerms; (try dsimp only); (try rw [if_pos hc2, if_pos hc10, if_pos hc17, if_pos hc26]); (try rfl)) (by unfold fR_X6_setTerms; (try dsimp only); (try rw [if_pos hc2, if_pos hc10, if_pos hc17, if_pos hc26]); (try rfl)) hG9 hS ht) hS.2.2 dX6_setTerms_79
theorem hdv_X6_setSpread : yX6_setSpread.cls = RX6 ∧ yX6_setSpread.cls ≠ "java/lang/invoke/MethodHandle" ∧ yX6_setSpread.cls ≠ "java/lang/invoke/VarHandle" ∧ (parseMethodDescriptor yX6_setSpread.desc).map (fun d => d.parameters.length) = some 1 := by decide +kernel
def fC_X6_setSpread (C : Nat → Int32) (G : Nat → Nat → Int32) (n : Nat) (sp : Int32) : Nat → Int32 :=
  if fE_X6_checkArgument sp 0 50 = 0 then
    let C4 := upd C 4 sp
    C4
  else
    C
def fG_X6_setSpread (C : Nat → Int32) (G : Nat → Nat → Int32) (n : Nat) (sp : Int32) : Nat → Nat → Int32 :=
  if fE_X6_checkArgument sp 0 50 = 0 then
    let G1 := fG_X2_save C G n
    G1
  else
    G
def fn_X6_setSpread (C : Nat → Int32) (G : Nat → Nat → Int32) (n : Nat) (sp : Int32) : Nat :=
  if fE_X6_checkArgument sp 0 50 = 0 then
    let n2 := fn_X2_save C G n
    n2
  else
    n
def fR_X6_setSpread (C : Nat → Int32) (G : Nat → Nat → Int32) (n : Nat) (sp : Int32) : Int32 :=
  if fE_X6_checkArgument sp 0 50 = 0 then
    let x3 := C 4
    x3
  else
    0
def fE_X6_setSpread (C : Nat → Int32) (G : Nat → Nat → Int32) (n : Nat) (sp : Int32) : Nat :=
  if fE_X6_checkArgument sp 0 50 = 0 then
    0
  else
    fE_X6_checkArgument sp 0 50
set_option maxHeartbeats 4000000 in
set_option maxRecDepth 100000 in
theorem c_X6_setSpread (l : Launch) (hl0 : l.stackTraces = false) (D : va_G) (r : Nat) (C J : Nat → Int32) (G : Nat → Nat → Int32) (n : Nat) (Y X U Z F : Nat → Int32) (sp : Int32) (hN : okN C) (hn4 : n ≤ 4) : vx_Met l yX6_setSpread (wA yX6_setSpread cX6_setSpread 3 (some .int)) (rmX 7 1 6) (xPc D r [.ref r, .int sp] (fun H => Sn D r C J G n Y X U Z F H)) (xQi (inS r) (fE_X6_setSpread C G n sp) (fR_X6_setSpread C G n sp) (fun H => Sn D r (fC_X6_setSpread C G n sp) J (fG_X6_setSpread C G n sp) (fn_X6_setSpread C G n sp) Y X U Z F H)) (xX (inS r) (fE_X6_setSpread C G n sp) (fun H => Sn D r (fC_X6_setSpread C G n sp) J (fG_X6_setSpread C G n sp) (fn_X6_setSpread C G n sp) Y X U Z F H)) 1 6 (inS r) := by
  refine vx_ofW (cc := cX6_setSpread) (maxL := 3) (ret := (some .int)) (by decide) rfl ?_
  intro p e s m args below meth c s₁ B hml hex hv
  obtain ⟨hav, hG, hK, hKx⟩ := hv
  have hr0 : ∀ q, inS r q → r ≤ q := fun q h => h.1
  have hx := B.exec
  have hb := B.bytes
  have hr := B.returns
  have hts0 := atoms_spec (ws := wA yX6_setSpread cX6_setSpread 3 (some .int)) B.pre
  have hts : ∀ w ∈ AW, w.before _ s = true := fun w h => hts0 w (List.mem_cons_of_mem _ h)
  have hown : s.vm.findClass RX6 = some m.cls := findClass_of_methodNamed B.named
  have hlocks := B.notSynchronized
  have hA : ∀ q, (inS r) q → (inS r) q := fun _ h => h
  have hS : va_S (inS r) s.heap s.heap [] := va_S.rf
  have hG : Sn D r C J G n Y X U Z F s.heap := hG
  have hl := lv_entry ([.ref r, .int sp]) (n := 3) (Nat.le_of_ble_eq_true rfl)
  refine W.eq (g2 := entryFrame m ([.ref r, .int sp] : List Value).toArray 3) (by rw [hav]) ?_
  rw [lg_entry_eq]
  generalize (lg_sl ([.ref r, .int sp]) ++ List.replicate (3 - (lg_sl ([.ref r, .int sp])).length) Slot.unset).toArray = ls at hl ⊢
  have hl : lv_has ls 3 [(0, .ref r), (1, .int sp)] := hl
  refine lv_iload_n hx hb dX6_setSpread_0 rfl (lv_at hl 1 rfl) ?_
  refine lv_iconst (v := 0) hx hb dX6_setSpread_1 (by decide) ?_
  refine lv_bipush (v := 50) hx hb dX6_setSpread_2 (by decide) ?_
  refine xcSv (As := [.int sp, .int 0, .int 50]) (rest := []) hx hb hml hown hts hl.1 hK hKx hr0 (c_X6_checkArgument l hl0 D r C J G n Y X U Z F sp 0 50) (gaS qM_X6_33 qT_X6_checkArgument qK_X6 qC_X6_checkArgument) hds_X6_checkArgument ⟨Nat.le_of_ble_eq_true rfl, Nat.le_of_ble_eq_true rfl⟩ hG rfl (Nat.le_of_ble_eq_true rfl) ⟨Nat.le_of_ble_eq_true rfl, Nat.le_of_ble_eq_true rfl⟩ dX6_setSpread_4 hS hA (fun ce q9 H locs hcx hG hz hq hS hce hv hcl => ?_) (fun H locs hc4 hG hz hq hS => ?_)
  · have hG : Sn D r C J G n Y X U Z F H := hG
    have hG9 : Sn D r (fC_X6_setSpread C G n sp) J (fG_X6_setSpread C G n sp) (fn_X6_setSpread C G n sp) Y X U Z F H := by
      unfold fC_X6_setSpread; (try dsimp only); (try rw [if_neg hcx])
      unfold fG_X6_setSpread; (try dsimp only); (try rw [if_neg hcx])
      unfold fn_X6_setSpread; (try dsimp only); (try rw [if_neg hcx])
      exact hG
    have hE : fE_X6_setSpread C G n sp = fE_X6_checkArgument sp 0 50 := by unfold fE_X6_setSpread; (try dsimp only); (try rw [if_neg hcx]); (try rfl)
    exact xout hex hlocks hS (by rw [hE]; exact hcx) hG9 hce hv hE.symm hcl (by omega) (by omega)
  have hG : Sn D r C J G n Y X U Z F H := hG
  · refine lv_aload_n hx hb dX6_setSpread_7 rfl (lv_at hl 0 rfl) ?_
    refine getQv hx hb hts hown hK hG qF_X6_22 dX6_setSpread_8 ?_
    refine lv_aload_n hx hb dX6_setSpread_11 rfl (lv_at hl 0 rfl) ?_
    refine getQc hx hb hts hown hK hG qF_X6_10 dX6_setSpread_12 ?_
    refine gcVv (As := [.ref (r + 1)]) (rest := []) hx hb hml hown hts hl.1 hK (c_X2_save l D r C J G n Y X U Z F hn4 hN) (gaV qM_X6_48 qI_X2_save qS_X2_save qK_X2 qC_X2_save) hdv_X2_save ⟨Nat.le_of_ble_eq_true rfl, Nat.le_of_ble_eq_true rfl⟩ hG (Sn.recvV hK hG) rfl (Nat.le_of_ble_eq_true rfl) ⟨Nat.le_of_ble_eq_true rfl, Nat.le_of_ble_eq_true rfl⟩ dX6_setSpread_15 hS hA (fun H locs hG hz hq hS => ?_)
    have hG : Sn D r C J (fG_X2_save C G n) (fn_X2_save C G n) Y X U Z F H := hG
    generalize eG1 : fG_X2_save C G n = G1 at hG
    generalize en2 : fn_X2_save C G n = n2 at hG
    refine lv_aload_n hx hb dX6_setSpread_18 rfl (lv_at hl 0 rfl) ?_
    refine getQc hx hb hts hown hK hG qF_X6_10 dX6_setSpread_19 ?_
    refine getC 7 4 rfl hx hb hts hown hK hG.gc (by decide) (by decide) (by decide) (by decide) qF_X6_121 rfl dX6_setSpread_22 ?_
    refine lv_topi (fun x3 ex3 => ?_)
    refine lv_istore_n (lv' := [(2, .int x3), (0, .ref r), (1, .int sp)]) hx hb dX6_setSpread_25 rfl hl (by decide) rfl (fun ls hl => ?_)
    refine lv_aload_n hx hb dX6_setSpread_26 rfl (lv_at hl 1 rfl) ?_
    refine getQc hx hb hts hown hK hG qF_X6_10 dX6_setSpread_27 ?_
    refine lv_iload_n hx hb dX6_setSpread_30 rfl (lv_at hl 2 rfl) ?_
    refine qputCc 7 4 rfl hx hb hts hown hK hG hS hA (by decide) (by decide) (by decide) (by decide) qF_X6_121 rfl dX6_setSpread_31 (fun H locs hG hS => ?_)
    generalize eC4 : upd C 4 sp = C4 at hG
    refine lv_iload_n hx hb dX6_setSpread_34 rfl (lv_at hl 0 rfl) ?_
    subst eC4
    subst ex3
    subst en2
    subst eG1
    have hG9 : Sn D r (fC_X6_setSpread C G n sp) J (fG_X6_setSpread C G n sp) (fn_X6_setSpread C G n sp) Y X U Z F H := by
      unfold fC_X6_setSpread; (try dsimp only); (try rw [if_pos hc4])
      unfold fG_X6_setSpread; (try dsimp only); (try rw [if_pos hc4])
      unfold fn_X6_setSpread; (try dsimp only); (try rw [if_pos hc4])
      exact hG
    refine vx_ret (W.widen (k := 1) (n := 6) (by omega) (by omega) ?_)
    exact W.iret hx hb hr (fun t ht hW => xQi_of (by unfold fE_X6_setSpread; (try dsimp only); (try rw [if_pos hc4]); (try rfl)) (by unfold fR_X6_setSpread; (try dsimp only); (try rw [if_pos hc4]); (try rfl)) hG9 hS ht) hS.2.2 dX6_setSpread_35
theorem hdv_X6_deliver : yX6_deliver.cls = RX6 ∧ yX6_deliver.cls ≠ "java/lang/invoke/MethodHandle" ∧ yX6_deliver.cls ≠ "java/lang/invoke/VarHandle" ∧ (parseMethodDescriptor yX6_deliver.desc).map (fun d => d.parameters.length) = some 1 := by decide +kernel
def fC_X6_deliver (C : Nat → Int32) (G : Nat → Nat → Int32) (n : Nat) (kg : Int32) : Nat → Int32 :=
  if fE_X6_checkArgument kg 0 100000 = 0 then
    if (C 3) + kg ≤ 100000 then
      let x3 := (C 3) + kg
      let C4 := upd C 3 x3
      let x5 := (C4 7) + kg
      let C6 := upd C4 7 x5
      C6
    else
      C
  else
    C
def fG_X6_deliver (C : Nat → Int32) (G : Nat → Nat → Int32) (n : Nat) (kg : Int32) : Nat → Nat → Int32 :=
  if fE_X6_checkArgument kg 0 100000 = 0 then
    if (C 3) + kg ≤ 100000 then
      let G1 := fG_X2_save C G n
      G1
    else
      G
  else
    G
def fn_X6_deliver (C : Nat → Int32) (G : Nat → Nat → Int32) (n : Nat) (kg : Int32) : Nat :=
  if fE_X6_checkArgument kg 0 100000 = 0 then
    if (C 3) + kg ≤ 100000 then
      let n2 := fn_X2_save C G n
      n2
    else
      n
  else
    n
def fR_X6_deliver (C : Nat → Int32) (G : Nat → Nat → Int32) (n : Nat) (kg : Int32) : Int32 :=
  if fE_X6_checkArgument kg 0 100000 = 0 then
    if (C 3) + kg ≤ 100000 then
      let x3 := (C 3) + kg
      let C4 := upd C 3 x3
      let x5 := (C4 7) + kg
      let C6 := upd C4 7 x5
      C6 3
    else
      0
  else
    0
def fE_X6_deliver (C : Nat → Int32) (G : Nat → Nat → Int32) (n : Nat) (kg : Int32) : Nat :=
  if fE_X6_checkArgument kg 0 100000 = 0 then
    if (C 3) + kg ≤ 100000 then
      0
    else
      2
  else
    fE_X6_checkArgument kg 0 100000
set_option maxHeartbeats 4000000 in
set_option maxRecDepth 100000 in
theorem c_X6_deliver (l : Launch) (hl0 : l.stackTraces = false) (D : va_G) (r : Nat) (C J : Nat → Int32) (G : Nat → Nat → Int32) (n : Nat) (Y X U Z F : Nat → Int32) (kg : Int32) (hN : okN C) (hn4 : n ≤ 4) : vx_Met l yX6_deliver (wA yX6_deliver cX6_deliver 2 (some .int)) (rmX 7 2 12) (xPc D r [.ref r, .int kg] (fun H => Sn D r C J G n Y X U Z F H)) (xQi (inS r) (fE_X6_deliver C G n kg) (fR_X6_deliver C G n kg) (fun H => Sn D r (fC_X6_deliver C G n kg) J (fG_X6_deliver C G n kg) (fn_X6_deliver C G n kg) Y X U Z F H)) (xX (inS r) (fE_X6_deliver C G n kg) (fun H => Sn D r (fC_X6_deliver C G n kg) J (fG_X6_deliver C G n kg) (fn_X6_deliver C G n kg) Y X U Z F H)) 2 12 (inS r) := by
  refine vx_ofW (cc := cX6_deliver) (maxL := 2) (ret := (some .int)) (by decide) rfl ?_
  intro p e s m args below meth c s₁ B hml hex hv
  obtain ⟨hav, hG, hK, hKx⟩ := hv
  have hr0 : ∀ q, inS r q → r ≤ q := fun q h => h.1
  have hx := B.exec
  have hb := B.bytes
  have hr := B.returns
  have hts0 := atoms_spec (ws := wA yX6_deliver cX6_deliver 2 (some .int)) B.pre
  have hts : ∀ w ∈ AW, w.before _ s = true := fun w h => hts0 w (List.mem_cons_of_mem _ h)
  have hown : s.vm.findClass RX6 = some m.cls := findClass_of_methodNamed B.named
  have hlocks := B.notSynchronized
  have hA : ∀ q, (inS r) q → (inS r) q := fun _ h => h
  have hS : va_S (inS r) s.heap s.heap [] := va_S.rf
  have hG : Sn D r C J G n Y X U Z F s.heap := hG
  have hl := lv_entry ([.ref r, .int kg]) (n := 2) (Nat.le_of_ble_eq_true rfl)
  refine W.eq (g2 := entryFrame m ([.ref r, .int kg] : List Value).toArray 2) (by rw [hav]) ?_
  rw [lg_entry_eq]
  generalize (lg_sl ([.ref r, .int kg]) ++ List.replicate (2 - (lg_sl ([.ref r, .int kg])).length) Slot.unset).toArray = ls at hl ⊢
  have hl : lv_has ls 2 [(0, .ref r), (1, .int kg)] := hl
  refine lv_iload_n hx hb dX6_deliver_0 rfl (lv_at hl 1 rfl) ?_
  refine lv_iconst (v := 0) hx hb dX6_deliver_1 (by decide) ?_
  refine lv_ldc hx hb hown (hts _ qV_X6_124) dX6_deliver_2 ?_
  refine xcSv (As := [.int kg, .int 0, .int 100000]) (rest := []) hx hb hml hown hts hl.1 hK hKx hr0 (c_X6_checkArgument l hl0 D r C J G n Y X U Z F kg 0 100000) (gaS qM_X6_33 qT_X6_checkArgument qK_X6 qC_X6_checkArgument) hds_X6_checkArgument ⟨Nat.le_of_ble_eq_true rfl, Nat.le_of_ble_eq_true rfl⟩ hG rfl (Nat.le_of_ble_eq_true rfl) ⟨Nat.le_of_ble_eq_true rfl, Nat.le_of_ble_eq_true rfl⟩ dX6_deliver_4 hS hA (fun ce q9 H locs hcx hG hz hq hS hce hv hcl => ?_) (fun H locs hc4 hG hz hq hS => ?_)
  · have hG : Sn D r C J G n Y X U Z F H := hG
    have hG9 : Sn D r (fC_X6_deliver C G n kg) J (fG_X6_deliver C G n kg) (fn_X6_deliver C G n kg) Y X U Z F H := by
      unfold fC_X6_deliver; (try dsimp only); (try rw [if_neg hcx])
      unfold fG_X6_deliver; (try dsimp only); (try rw [if_neg hcx])
      unfold fn_X6_deliver; (try dsimp only); (try rw [if_neg hcx])
      exact hG
    have hE : fE_X6_deliver C G n kg = fE_X6_checkArgument kg 0 100000 := by unfold fE_X6_deliver; (try dsimp only); (try rw [if_neg hcx]); (try rfl)
    exact xout hex hlocks hS (by rw [hE]; exact hcx) hG9 hce hv hE.symm hcl (by omega) (by omega)
  have hG : Sn D r C J G n Y X U Z F H := hG
  · refine lv_aload_n hx hb dX6_deliver_7 rfl (lv_at hl 0 rfl) ?_
    refine getQc hx hb hts hown hK hG qF_X6_10 dX6_deliver_8 ?_
    refine getC 6 3 rfl hx hb hts hown hK hG.gc (by decide) (by decide) (by decide) (by decide) qF_X6_125 rfl dX6_deliver_11 ?_
    refine lv_iload_n hx hb dX6_deliver_14 rfl (lv_at hl 1 rfl) ?_
    refine lv_iadd hx hb dX6_deliver_15 ?_
    refine lv_ldc hx hb hown (hts _ qV_X6_124) dX6_deliver_16 ?_
    refine lv_icmp_le (tgt := 31) hx hb dX6_deliver_18 (by decide) (fun c18 => ?_) (fun c18 => ?_)
    · refine lv_aload_n hx hb dX6_deliver_31 rfl (lv_at hl 0 rfl) ?_
      refine getQv hx hb hts hown hK hG qF_X6_22 dX6_deliver_32 ?_
      refine lv_aload_n hx hb dX6_deliver_35 rfl (lv_at hl 0 rfl) ?_
      refine getQc hx hb hts hown hK hG qF_X6_10 dX6_deliver_36 ?_
      refine gcVv (As := [.ref (r + 1)]) (rest := []) hx hb hml hown hts hl.1 hK (c_X2_save l D r C J G n Y X U Z F hn4 hN) (gaV qM_X6_48 qI_X2_save qS_X2_save qK_X2 qC_X2_save) hdv_X2_save ⟨Nat.le_of_ble_eq_true rfl, Nat.le_of_ble_eq_true rfl⟩ hG (Sn.recvV hK hG) rfl (Nat.le_of_ble_eq_true rfl) ⟨Nat.le_of_ble_eq_true rfl, Nat.le_of_ble_eq_true rfl⟩ dX6_deliver_39 hS hA (fun H locs hG hz hq hS => ?_)
      have hG : Sn D r C J (fG_X2_save C G n) (fn_X2_save C G n) Y X U Z F H := hG
      generalize eG1 : fG_X2_save C G n = G1 at hG
      generalize en2 : fn_X2_save C G n = n2 at hG
      refine lv_aload_n hx hb dX6_deliver_42 rfl (lv_at hl 0 rfl) ?_
      refine getQc hx hb hts hown hK hG qF_X6_10 dX6_deliver_43 ?_
      refine lv_dup hx hb dX6_deliver_46 rfl ?_
      refine getC 6 3 rfl hx hb hts hown hK hG.gc (by decide) (by decide) (by decide) (by decide) qF_X6_125 rfl dX6_deliver_47 ?_
      refine lv_iload_n hx hb dX6_deliver_50 rfl (lv_at hl 1 rfl) ?_
      refine lv_iadd hx hb dX6_deliver_51 ?_
      refine lv_topi (fun x3 ex3 => ?_)
      refine qputCc 6 3 rfl hx hb hts hown hK hG hS hA (by decide) (by decide) (by decide) (by decide) qF_X6_125 rfl dX6_deliver_52 (fun H locs hG hS => ?_)
      generalize eC4 : upd C 3 x3 = C4 at hG
      refine lv_aload_n hx hb dX6_deliver_55 rfl (lv_at hl 0 rfl) ?_
      refine getQc hx hb hts hown hK hG qF_X6_10 dX6_deliver_56 ?_
      refine lv_dup hx hb dX6_deliver_59 rfl ?_
      refine getC 9 7 rfl hx hb hts hown hK hG.gc (by decide) (by decide) (by decide) (by decide) qF_X6_130 rfl dX6_deliver_60 ?_
      refine lv_iload_n hx hb dX6_deliver_63 rfl (lv_at hl 1 rfl) ?_
      refine lv_iadd hx hb dX6_deliver_64 ?_
      refine lv_topi (fun x5 ex5 => ?_)
      refine qputCc 9 7 rfl hx hb hts hown hK hG hS hA (by decide) (by decide) (by decide) (by decide) qF_X6_130 rfl dX6_deliver_65 (fun H locs hG hS => ?_)
      generalize eC6 : upd C4 7 x5 = C6 at hG
      refine lv_aload_n hx hb dX6_deliver_68 rfl (lv_at hl 0 rfl) ?_
      refine getQc hx hb hts hown hK hG qF_X6_10 dX6_deliver_69 ?_
      refine getC 6 3 rfl hx hb hts hown hK hG.gc (by decide) (by decide) (by decide) (by decide) qF_X6_125 rfl dX6_deliver_72 ?_
      subst eC6
      subst ex5
      subst eC4
      subst ex3
      subst en2
      subst eG1
      have hG9 : Sn D r (fC_X6_deliver C G n kg) J (fG_X6_deliver C G n kg) (fn_X6_deliver C G n kg) Y X U Z F H := by
        unfold fC_X6_deliver; (try dsimp only); (try rw [if_pos hc4, if_pos c18])
        unfold fG_X6_deliver; (try dsimp only); (try rw [if_pos hc4, if_pos c18])
        unfold fn_X6_deliver; (try dsimp only); (try rw [if_pos hc4, if_pos c18])
        exact hG
      refine vx_ret (W.widen (k := 2) (n := 12) (by omega) (by omega) ?_)
      exact W.iret hx hb hr (fun t ht hW => xQi_of (by unfold fE_X6_deliver; (try dsimp only); (try rw [if_pos hc4, if_pos c18]); (try rfl)) (by unfold fR_X6_deliver; (try dsimp only); (try rw [if_pos hc4, if_pos c18]); (try rfl)) hG9 hS ht) hS.2.2 dX6_deliver_75
    · have hG9 : Sn D r (fC_X6_deliver C G n kg) J (fG_X6_deliver C G n kg) (fn_X6_deliver C G n kg) Y X U Z F H := by
        unfold fC_X6_deliver; (try dsimp only); (try rw [if_pos hc4, if_neg c18])
        unfold fG_X6_deliver; (try dsimp only); (try rw [if_pos hc4, if_neg c18])
        unfold fn_X6_deliver; (try dsimp only); (try rw [if_pos hc4, if_neg c18])
        exact hG
      have hE : fE_X6_deliver C G n kg = 2 := by unfold fE_X6_deliver; (try dsimp only); (try rw [if_pos hc4, if_neg c18]); (try rfl)
      exact xthr 2 ⟨by decide, by decide⟩ (ik := 41) (is := 128) (text := "the store would have more than 100000 kilograms") exg2 exk2 exo2 hx hb hl0 hml hown hts hl.1 hKx hr0 qL_X6_41 qK_IllegalStateException (by decide +kernel) hS dX6_deliver_21 dX6_deliver_24 dX6_deliver_25 dX6_deliver_27 dX6_deliver_30 hex hlocks ⟨Nat.le_of_ble_eq_true rfl, Nat.le_of_ble_eq_true rfl⟩ (Nat.le_of_ble_eq_true rfl) (Nat.le_of_ble_eq_true rfl) hE (fun H1 hz1 hq1 => hG9.keep hz1 hq1) (by omega) (by omega)
