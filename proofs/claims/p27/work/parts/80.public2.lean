theorem hdv_X6_value : yX6_value.cls = RX6 ∧ yX6_value.cls ≠ "java/lang/invoke/MethodHandle" ∧ yX6_value.cls ≠ "java/lang/invoke/VarHandle" ∧ (parseMethodDescriptor yX6_value.desc).map (fun d => d.parameters.length) = some 1 := by decide +kernel
def fR_X6_value (C : Nat → Int32) (x : Int32) : Int32 :=
  if fE_X6_checkArgument x 0 9 = 0 then
    fR_X0_number C x.toNatClampNeg
  else
    0
def fE_X6_value (C : Nat → Int32) (x : Int32) : Nat :=
  if fE_X6_checkArgument x 0 9 = 0 then
    0
  else
    fE_X6_checkArgument x 0 9
set_option maxHeartbeats 4000000 in
set_option maxRecDepth 100000 in
theorem c_X6_value (l : Launch) (hl0 : l.stackTraces = false) (D : va_G) (r : Nat) (C J : Nat → Int32) (G : Nat → Nat → Int32) (n : Nat) (Y X U Z F : Nat → Int32) (x : Int32) (hw : WF C) : vx_Met l yX6_value (wA yX6_value cX6_value 2 (some .int)) (rmX 7 1 6) (xPc D r [.ref r, .int x] (fun H => Sn D r C J G n Y X U Z F H)) (xQi (inS r) (fE_X6_value C x) (fR_X6_value C x) (fun H => Sn D r C J G n Y X U Z F H)) (xX (inS r) (fE_X6_value C x) (fun H => Sn D r C J G n Y X U Z F H)) 1 6 (inS r) := by
  refine vx_ofW (cc := cX6_value) (maxL := 2) (ret := (some .int)) (by decide) rfl ?_
  intro p e s m args below meth c s₁ B hml hex hv
  obtain ⟨hav, hG, hK, hKx⟩ := hv
  have hr0 : ∀ q, inS r q → r ≤ q := fun q h => h.1
  have hx := B.exec
  have hb := B.bytes
  have hr := B.returns
  have hts0 := atoms_spec (ws := wA yX6_value cX6_value 2 (some .int)) B.pre
  have hts : ∀ w ∈ AW, w.before _ s = true := fun w h => hts0 w (List.mem_cons_of_mem _ h)
  have hown : s.vm.findClass RX6 = some m.cls := findClass_of_methodNamed B.named
  have hlocks := B.notSynchronized
  have hA : ∀ q, (inS r) q → (inS r) q := fun _ h => h
  have hS : va_S (inS r) s.heap s.heap [] := va_S.rf
  have hG : Sn D r C J G n Y X U Z F s.heap := hG
  have hl := lv_entry ([.ref r, .int x]) (n := 2) (Nat.le_of_ble_eq_true rfl)
  refine W.eq (g2 := entryFrame m ([.ref r, .int x] : List Value).toArray 2) (by rw [hav]) ?_
  rw [lg_entry_eq]
  generalize (lg_sl ([.ref r, .int x]) ++ List.replicate (2 - (lg_sl ([.ref r, .int x])).length) Slot.unset).toArray = ls at hl ⊢
  have hl : lv_has ls 2 [(0, .ref r), (1, .int x)] := hl
  refine lv_iload_n hx hb dX6_value_0 rfl (lv_at hl 1 rfl) ?_
  refine lv_iconst (v := 0) hx hb dX6_value_1 (by decide) ?_
  refine lv_bipush (v := 9) hx hb dX6_value_2 (by decide) ?_
  refine xcSv (As := [.int x, .int 0, .int 9]) (rest := []) hx hb hml hown hts hl.1 hK hKx hr0 (c_X6_checkArgument l hl0 D r C J G n Y X U Z F x 0 9) (gaS qM_X6_33 qT_X6_checkArgument qK_X6 qC_X6_checkArgument) hds_X6_checkArgument ⟨Nat.le_of_ble_eq_true rfl, Nat.le_of_ble_eq_true rfl⟩ hG rfl (Nat.le_of_ble_eq_true rfl) ⟨Nat.le_of_ble_eq_true rfl, Nat.le_of_ble_eq_true rfl⟩ dX6_value_4 hS hA (fun ce q9 H locs hcx hG hz hq hS hce hv hcl => ?_) (fun H locs hc4 hG hz hq hS => ?_)
  · have hG : Sn D r C J G n Y X U Z F H := hG
    have hG9 := hG
    have hE : fE_X6_value C x = fE_X6_checkArgument x 0 9 := by unfold fE_X6_value; (try dsimp only); (try rw [if_neg hcx]); (try rfl)
    exact xout hex hlocks hS (by rw [hE]; exact hcx) hG9 hce hv hE.symm hcl (by omega) (by omega)
  have hG : Sn D r C J G n Y X U Z F H := hG
  · have hxx := in_n (n := 9) (by decide) (cA_0 hc4)
    refine lv_aload_n hx hb dX6_value_7 rfl (lv_at hl 0 rfl) ?_
    refine getQc hx hb hts hown hK hG qF_X6_10 dX6_value_8 ?_
    refine lv_iload_n hx hb dX6_value_11 rfl (lv_at hl 1 rfl) ?_
    refine topN (n := x.toNatClampNeg) hxx.1 ?_
    refine gcVi (As := [.int (nI x.toNatClampNeg)]) (rest := []) hx hb hml hown hts hl.1 hK (c_X0_number l D (r + 1) C x.toNatClampNeg (by have := hxx.2; omega) hw) (gaV qM_X6_143 qI_X0_number qS_X0_number qK_X0 qC_X0_number) hdv_X0_number ⟨Nat.le_of_ble_eq_true rfl, Nat.le_of_ble_eq_true rfl⟩ hG.gc (hG.gc.recvC hK) rfl (Nat.le_of_ble_eq_true rfl) ⟨Nat.le_of_ble_eq_true rfl, Nat.le_of_ble_eq_true rfl⟩ dX6_value_12 hS (fun q h => by unfold inG at h; unfold inS; omega) (fun H locs hG1 hz hq hS => ?_)
    have hG : Sn D r C J G n Y X U Z F H := Sn.setC hG hG1 hq
    have hG9 := hG
    refine vx_ret (W.widen (k := 1) (n := 6) (by omega) (by omega) ?_)
    exact W.iret hx hb hr (fun t ht hW => xQi_of (by unfold fE_X6_value; (try dsimp only); (try rw [if_pos hc4]); (try rfl)) (by unfold fR_X6_value; (try dsimp only); (try rw [if_pos hc4]); (try rfl)) hG9 hS ht) hS.2.2 dX6_value_15
theorem hdv_X6_street : yX6_street.cls = RX6 ∧ yX6_street.cls ≠ "java/lang/invoke/MethodHandle" ∧ yX6_street.cls ≠ "java/lang/invoke/VarHandle" ∧ (parseMethodDescriptor yX6_street.desc).map (fun d => d.parameters.length) = some 2 := by decide +kernel
def fR_X6_street (C : Nat → Int32) (x : Int32) (y : Int32) : Int32 :=
  if fE_X6_checkStreet C x = 0 then
    if fE_X6_checkArgument y 0 8 = 0 then
      fR_X0_numberOfStreet C x.toNatClampNeg y.toNatClampNeg
    else
      0
  else
    0
def fE_X6_street (C : Nat → Int32) (x : Int32) (y : Int32) : Nat :=
  if fE_X6_checkStreet C x = 0 then
    if fE_X6_checkArgument y 0 8 = 0 then
      0
    else
      fE_X6_checkArgument y 0 8
  else
    fE_X6_checkStreet C x
set_option maxHeartbeats 4000000 in
set_option maxRecDepth 100000 in
theorem c_X6_street (l : Launch) (hl0 : l.stackTraces = false) (D : va_G) (r : Nat) (C J : Nat → Int32) (G : Nat → Nat → Int32) (n : Nat) (Y X U Z F : Nat → Int32) (x : Int32) (y : Int32) (hw : WF C) : vx_Met l yX6_street (wA yX6_street cX6_street 3 (some .int)) (rmX 8 2 12) (xPc D r [.ref r, .int x, .int y] (fun H => Sn D r C J G n Y X U Z F H)) (xQi (inS r) (fE_X6_street C x y) (fR_X6_street C x y) (fun H => Sn D r C J G n Y X U Z F H)) (xX (inS r) (fE_X6_street C x y) (fun H => Sn D r C J G n Y X U Z F H)) 2 12 (inS r) := by
  refine vx_ofW (cc := cX6_street) (maxL := 3) (ret := (some .int)) (by decide) rfl ?_
  intro p e s m args below meth c s₁ B hml hex hv
  obtain ⟨hav, hG, hK, hKx⟩ := hv
  have hr0 : ∀ q, inS r q → r ≤ q := fun q h => h.1
  have hx := B.exec
  have hb := B.bytes
  have hr := B.returns
  have hts0 := atoms_spec (ws := wA yX6_street cX6_street 3 (some .int)) B.pre
  have hts : ∀ w ∈ AW, w.before _ s = true := fun w h => hts0 w (List.mem_cons_of_mem _ h)
  have hown : s.vm.findClass RX6 = some m.cls := findClass_of_methodNamed B.named
  have hlocks := B.notSynchronized
  have hA : ∀ q, (inS r) q → (inS r) q := fun _ h => h
  have hS : va_S (inS r) s.heap s.heap [] := va_S.rf
  have hG : Sn D r C J G n Y X U Z F s.heap := hG
  have hl := lv_entry ([.ref r, .int x, .int y]) (n := 3) (Nat.le_of_ble_eq_true rfl)
  refine W.eq (g2 := entryFrame m ([.ref r, .int x, .int y] : List Value).toArray 3) (by rw [hav]) ?_
  rw [lg_entry_eq]
  generalize (lg_sl ([.ref r, .int x, .int y]) ++ List.replicate (3 - (lg_sl ([.ref r, .int x, .int y])).length) Slot.unset).toArray = ls at hl ⊢
  have hl : lv_has ls 3 [(0, .ref r), (1, .int x), (2, .int y)] := hl
  have hN := hw.1
  refine lv_aload_n hx hb dX6_street_0 rfl (lv_at hl 0 rfl) ?_
  refine lv_iload_n hx hb dX6_street_1 rfl (lv_at hl 1 rfl) ?_
  refine xcVv (As := [.int x]) (rest := []) hx hb hml hown hts hl.1 hK hKx hr0 (c_X6_checkStreet l hl0 D r C J G n Y X U Z F x) (gaV qM_X6_78 qI_X6_checkStreet qS_X6_checkStreet qK_X6 qC_X6_checkStreet) hdv_X6_checkStreet ⟨Nat.le_of_ble_eq_true rfl, Nat.le_of_ble_eq_true rfl⟩ hG (Sn.recv hK hG) rfl (Nat.le_of_ble_eq_true rfl) ⟨Nat.le_of_ble_eq_true rfl, Nat.le_of_ble_eq_true rfl⟩ dX6_street_2 hS hA (fun ce q9 H locs hcx hG hz hq hS hce hv hcl => ?_) (fun H locs hc2 hG hz hq hS => ?_)
  · have hG : Sn D r C J G n Y X U Z F H := hG
    have hG9 := hG
    have hE : fE_X6_street C x y = fE_X6_checkStreet C x := by unfold fE_X6_street; (try dsimp only); (try rw [if_neg hcx]); (try rfl)
    exact xout hex hlocks hS (by rw [hE]; exact hcx) hG9 hce hv hE.symm hcl (by omega) (by omega)
  have hG : Sn D r C J G n Y X U Z F H := hG
  · have hxx := cS_n hN hc2
    have hn20 := hN.2.1
    have hx20 : x.toNatClampNeg < 20 := by have := hxx.2; omega
    refine lv_iload_n hx hb dX6_street_5 rfl (lv_at hl 2 rfl) ?_
    refine lv_iconst (v := 0) hx hb dX6_street_6 (by decide) ?_
    refine lv_bipush (v := 8) hx hb dX6_street_7 (by decide) ?_
    refine xcSv (As := [.int y, .int 0, .int 8]) (rest := []) hx hb hml hown hts hl.1 hK hKx hr0 (c_X6_checkArgument l hl0 D r C J G n Y X U Z F y 0 8) (gaS qM_X6_33 qT_X6_checkArgument qK_X6 qC_X6_checkArgument) hds_X6_checkArgument ⟨Nat.le_of_ble_eq_true rfl, Nat.le_of_ble_eq_true rfl⟩ hG rfl (Nat.le_of_ble_eq_true rfl) ⟨Nat.le_of_ble_eq_true rfl, Nat.le_of_ble_eq_true rfl⟩ dX6_street_9 hS hA (fun ce q9 H locs hcx hG hz hq hS hce hv hcl => ?_) (fun H locs hc9 hG hz hq hS => ?_)
    · have hG : Sn D r C J G n Y X U Z F H := hG
      have hG9 := hG
      have hE : fE_X6_street C x y = fE_X6_checkArgument y 0 8 := by unfold fE_X6_street; (try dsimp only); (try rw [if_pos hc2, if_neg hcx]); (try rfl)
      exact xout hex hlocks hS (by rw [hE]; exact hcx) hG9 hce hv hE.symm hcl (by omega) (by omega)
    have hG : Sn D r C J G n Y X U Z F H := hG
    · have hyy := in_n (n := 8) (by decide) (cA_0 hc9)
      refine lv_aload_n hx hb dX6_street_12 rfl (lv_at hl 0 rfl) ?_
      refine getQc hx hb hts hown hK hG qF_X6_10 dX6_street_13 ?_
      refine lv_aload_n hx hb dX6_street_16 rfl (lv_at hl 0 rfl) ?_
      refine getQc hx hb hts hown hK hG qF_X6_10 dX6_street_17 ?_
      refine getCs hx hb hts hown hK hG.gc qF_X6_52 dX6_street_20 ?_
      refine lv_iload_n hx hb dX6_street_23 rfl (lv_at hl 1 rfl) ?_
      refine topN (n := x.toNatClampNeg) hxx.1 ?_
      refine aldS (i := x.toNatClampNeg) hx hb hK hG.gc (by omega) dX6_street_24 ?_
      refine lv_iload_n hx hb dX6_street_25 rfl (lv_at hl 2 rfl) ?_
      refine topN (n := y.toNatClampNeg) hyy.1 ?_
      refine gcVi (As := [.ref (r + 1 + 4 + x.toNatClampNeg), .int (nI y.toNatClampNeg)]) (rest := []) hx hb hml hown hts hl.1 hK (c_X0_numberOfStreet l D (r + 1) C x.toNatClampNeg y.toNatClampNeg hx20 (by have := hyy.2; omega) (hw.2.1 _ hxx.2)) (gaV qM_X6_147 qI_X0_numberOfStreet qS_X0_numberOfStreet qK_X0 qC_X0_numberOfStreet) hdv_X0_numberOfStreet ⟨Nat.le_of_ble_eq_true rfl, Nat.le_of_ble_eq_true rfl⟩ hG.gc (hG.gc.recvC hK) rfl (Nat.le_of_ble_eq_true rfl) ⟨Nat.le_of_ble_eq_true rfl, Nat.le_of_ble_eq_true rfl⟩ dX6_street_26 hS (fun q h => by unfold inG at h; unfold inS; omega) (fun H locs hG1 hz hq hS => ?_)
      have hG : Sn D r C J G n Y X U Z F H := Sn.setC hG hG1 hq
      have hG9 := hG
      refine vx_ret (W.widen (k := 2) (n := 12) (by omega) (by omega) ?_)
      exact W.iret hx hb hr (fun t ht hW => xQi_of (by unfold fE_X6_street; (try dsimp only); (try rw [if_pos hc2, if_pos hc9]); (try rfl)) (by unfold fR_X6_street; (try dsimp only); (try rw [if_pos hc2, if_pos hc9]); (try rfl)) hG9 hS ht) hS.2.2 dX6_street_29
theorem hdv_X6_plow : yX6_plow.cls = RX6 ∧ yX6_plow.cls ≠ "java/lang/invoke/MethodHandle" ∧ yX6_plow.cls ≠ "java/lang/invoke/VarHandle" ∧ (parseMethodDescriptor yX6_plow.desc).map (fun d => d.parameters.length) = some 2 := by decide +kernel
def fR_X6_plow (C : Nat → Int32) (pl : Int32) (y : Int32) : Int32 :=
  if fE_X6_checkPlow C pl = 0 then
    if fE_X6_checkArgument y 0 7 = 0 then
      fR_X1_number C pl.toNatClampNeg y.toNatClampNeg
    else
      0
  else
    0
def fE_X6_plow (C : Nat → Int32) (pl : Int32) (y : Int32) : Nat :=
  if fE_X6_checkPlow C pl = 0 then
    if fE_X6_checkArgument y 0 7 = 0 then
      0
    else
      fE_X6_checkArgument y 0 7
  else
    fE_X6_checkPlow C pl
set_option maxHeartbeats 4000000 in
set_option maxRecDepth 100000 in
theorem c_X6_plow (l : Launch) (hl0 : l.stackTraces = false) (D : va_G) (r : Nat) (C J : Nat → Int32) (G : Nat → Nat → Int32) (n : Nat) (Y X U Z F : Nat → Int32) (pl : Int32) (y : Int32) (hN : okN C) : vx_Met l yX6_plow (wA yX6_plow cX6_plow 3 (some .int)) (rmX 8 2 12) (xPc D r [.ref r, .int pl, .int y] (fun H => Sn D r C J G n Y X U Z F H)) (xQi (inS r) (fE_X6_plow C pl y) (fR_X6_plow C pl y) (fun H => Sn D r C J G n Y X U Z F H)) (xX (inS r) (fE_X6_plow C pl y) (fun H => Sn D r C J G n Y X U Z F H)) 2 12 (inS r) := by
  refine vx_ofW (cc := cX6_plow) (maxL := 3) (ret := (some .int)) (by decide) rfl ?_
  intro p e s m args below meth c s₁ B hml hex hv
  obtain ⟨hav, hG, hK, hKx⟩ := hv
  have hr0 : ∀ q, inS r q → r ≤ q := fun q h => h.1
  have hx := B.exec
  have hb := B.bytes
  have hr := B.returns
  have hts0 := atoms_spec (ws := wA yX6_plow cX6_plow 3 (some .int)) B.pre
  have hts : ∀ w ∈ AW, w.before _ s = true := fun w h => hts0 w (List.mem_cons_of_mem _ h)
  have hown : s.vm.findClass RX6 = some m.cls := findClass_of_methodNamed B.named
  have hlocks := B.notSynchronized
  have hA : ∀ q, (inS r) q → (inS r) q := fun _ h => h
  have hS : va_S (inS r) s.heap s.heap [] := va_S.rf
  have hG : Sn D r C J G n Y X U Z F s.heap := hG
  have hl := lv_entry ([.ref r, .int pl, .int y]) (n := 3) (Nat.le_of_ble_eq_true rfl)
  refine W.eq (g2 := entryFrame m ([.ref r, .int pl, .int y] : List Value).toArray 3) (by rw [hav]) ?_
  rw [lg_entry_eq]
  generalize (lg_sl ([.ref r, .int pl, .int y]) ++ List.replicate (3 - (lg_sl ([.ref r, .int pl, .int y])).length) Slot.unset).toArray = ls at hl ⊢
  have hl : lv_has ls 3 [(0, .ref r), (1, .int pl), (2, .int y)] := hl
  refine lv_aload_n hx hb dX6_plow_0 rfl (lv_at hl 0 rfl) ?_
  refine lv_iload_n hx hb dX6_plow_1 rfl (lv_at hl 1 rfl) ?_
  refine xcVv (As := [.int pl]) (rest := []) hx hb hml hown hts hl.1 hK hKx hr0 (c_X6_checkPlow l hl0 D r C J G n Y X U Z F pl) (gaV qM_X6_74 qI_X6_checkPlow qS_X6_checkPlow qK_X6 qC_X6_checkPlow) hdv_X6_checkPlow ⟨Nat.le_of_ble_eq_true rfl, Nat.le_of_ble_eq_true rfl⟩ hG (Sn.recv hK hG) rfl (Nat.le_of_ble_eq_true rfl) ⟨Nat.le_of_ble_eq_true rfl, Nat.le_of_ble_eq_true rfl⟩ dX6_plow_2 hS hA (fun ce q9 H locs hcx hG hz hq hS hce hv hcl => ?_) (fun H locs hc2 hG hz hq hS => ?_)
  · have hG : Sn D r C J G n Y X U Z F H := hG
    have hG9 := hG
    have hE : fE_X6_plow C pl y = fE_X6_checkPlow C pl := by unfold fE_X6_plow; (try dsimp only); (try rw [if_neg hcx]); (try rfl)
    exact xout hex hlocks hS (by rw [hE]; exact hcx) hG9 hce hv hE.symm hcl (by omega) (by omega)
  have hG : Sn D r C J G n Y X U Z F H := hG
  · have hpl := cP_n hN hc2
    have hn3 := hN.2.2.2
    have hp3 : pl.toNatClampNeg < 3 := by have := hpl.2; omega
    refine lv_iload_n hx hb dX6_plow_5 rfl (lv_at hl 2 rfl) ?_
    refine lv_iconst (v := 0) hx hb dX6_plow_6 (by decide) ?_
    refine lv_bipush (v := 7) hx hb dX6_plow_7 (by decide) ?_
    refine xcSv (As := [.int y, .int 0, .int 7]) (rest := []) hx hb hml hown hts hl.1 hK hKx hr0 (c_X6_checkArgument l hl0 D r C J G n Y X U Z F y 0 7) (gaS qM_X6_33 qT_X6_checkArgument qK_X6 qC_X6_checkArgument) hds_X6_checkArgument ⟨Nat.le_of_ble_eq_true rfl, Nat.le_of_ble_eq_true rfl⟩ hG rfl (Nat.le_of_ble_eq_true rfl) ⟨Nat.le_of_ble_eq_true rfl, Nat.le_of_ble_eq_true rfl⟩ dX6_plow_9 hS hA (fun ce q9 H locs hcx hG hz hq hS hce hv hcl => ?_) (fun H locs hc9 hG hz hq hS => ?_)
    · have hG : Sn D r C J G n Y X U Z F H := hG
      have hG9 := hG
      have hE : fE_X6_plow C pl y = fE_X6_checkArgument y 0 7 := by unfold fE_X6_plow; (try dsimp only); (try rw [if_pos hc2, if_neg hcx]); (try rfl)
      exact xout hex hlocks hS (by rw [hE]; exact hcx) hG9 hce hv hE.symm hcl (by omega) (by omega)
    have hG : Sn D r C J G n Y X U Z F H := hG
    · have hyy := in_n (n := 7) (by decide) (cA_0 hc9)
      refine lv_aload_n hx hb dX6_plow_12 rfl (lv_at hl 0 rfl) ?_
      refine getQc hx hb hts hown hK hG qF_X6_10 dX6_plow_13 ?_
      refine getCp hx hb hts hown hK hG.gc qF_X6_67 dX6_plow_16 ?_
      refine lv_iload_n hx hb dX6_plow_19 rfl (lv_at hl 1 rfl) ?_
      refine topN (n := pl.toNatClampNeg) hpl.1 ?_
      refine aldP (i := pl.toNatClampNeg) hx hb hK hG.gc (by omega) dX6_plow_20 ?_
      refine lv_iload_n hx hb dX6_plow_21 rfl (lv_at hl 2 rfl) ?_
      refine topN (n := y.toNatClampNeg) hyy.1 ?_
      refine gcVi (As := [.int (nI y.toNatClampNeg)]) (rest := []) hx hb hml hown hts hl.1 hK (c_X1_number l D (r + 1) C pl.toNatClampNeg y.toNatClampNeg hp3 (by have := hyy.2; omega)) (gaV qM_X6_151 qI_X1_number qS_X1_number qK_X1 qC_X1_number) hdv_X1_number ⟨Nat.le_of_ble_eq_true rfl, Nat.le_of_ble_eq_true rfl⟩ hG.gc (hG.gc.recvP hK (by omega)) rfl (Nat.le_of_ble_eq_true rfl) ⟨Nat.le_of_ble_eq_true rfl, Nat.le_of_ble_eq_true rfl⟩ dX6_plow_22 hS (fun q h => by unfold inG at h; unfold inS; omega) (fun H locs hG1 hz hq hS => ?_)
      have hG : Sn D r C J G n Y X U Z F H := Sn.setC hG hG1 hq
      have hG9 := hG
      refine vx_ret (W.widen (k := 2) (n := 12) (by omega) (by omega) ?_)
      exact W.iret hx hb hr (fun t ht hW => xQi_of (by unfold fE_X6_plow; (try dsimp only); (try rw [if_pos hc2, if_pos hc9]); (try rfl)) (by unfold fR_X6_plow; (try dsimp only); (try rw [if_pos hc2, if_pos hc9]); (try rfl)) hG9 hS ht) hS.2.2 dX6_plow_25
theorem hdv_X6_stop : yX6_stop.cls = RX6 ∧ yX6_stop.cls ≠ "java/lang/invoke/MethodHandle" ∧ yX6_stop.cls ≠ "java/lang/invoke/VarHandle" ∧ (parseMethodDescriptor yX6_stop.desc).map (fun d => d.parameters.length) = some 2 := by decide +kernel
def fR_X6_stop (C : Nat → Int32) (pl : Int32) (y : Int32) : Int32 :=
  if fE_X6_checkPlow C pl = 0 then
    if fE_X6_checkIndex y (nI (nc C pl.toNatClampNeg)) = 0 then
      C (169 + 20 * pl.toNatClampNeg + 8 + y.toNatClampNeg)
    else
      0
  else
    0
def fE_X6_stop (C : Nat → Int32) (pl : Int32) (y : Int32) : Nat :=
  if fE_X6_checkPlow C pl = 0 then
    if fE_X6_checkIndex y (nI (nc C pl.toNatClampNeg)) = 0 then
      0
    else
      fE_X6_checkIndex y (nI (nc C pl.toNatClampNeg))
  else
    fE_X6_checkPlow C pl
set_option maxHeartbeats 4000000 in
set_option maxRecDepth 100000 in
theorem c_X6_stop (l : Launch) (hl0 : l.stackTraces = false) (D : va_G) (r : Nat) (C J : Nat → Int32) (G : Nat → Nat → Int32) (n : Nat) (Y X U Z F : Nat → Int32) (pl : Int32) (y : Int32) (hN : okN C) (hQ : ∀ q, q < np C → okQ C q) : vx_Met l yX6_stop (wA yX6_stop cX6_stop 4 (some .int)) (rmX 8 2 12) (xPc D r [.ref r, .int pl, .int y] (fun H => Sn D r C J G n Y X U Z F H)) (xQi (inS r) (fE_X6_stop C pl y) (fR_X6_stop C pl y) (fun H => Sn D r C J G n Y X U Z F H)) (xX (inS r) (fE_X6_stop C pl y) (fun H => Sn D r C J G n Y X U Z F H)) 2 12 (inS r) := by
  refine vx_ofW (cc := cX6_stop) (maxL := 4) (ret := (some .int)) (by decide) rfl ?_
  intro p e s m args below meth c s₁ B hml hex hv
  obtain ⟨hav, hG, hK, hKx⟩ := hv
  have hr0 : ∀ q, inS r q → r ≤ q := fun q h => h.1
  have hx := B.exec
  have hb := B.bytes
  have hr := B.returns
  have hts0 := atoms_spec (ws := wA yX6_stop cX6_stop 4 (some .int)) B.pre
  have hts : ∀ w ∈ AW, w.before _ s = true := fun w h => hts0 w (List.mem_cons_of_mem _ h)
  have hown : s.vm.findClass RX6 = some m.cls := findClass_of_methodNamed B.named
  have hlocks := B.notSynchronized
  have hA : ∀ q, (inS r) q → (inS r) q := fun _ h => h
  have hS : va_S (inS r) s.heap s.heap [] := va_S.rf
  have hG : Sn D r C J G n Y X U Z F s.heap := hG
  have hl := lv_entry ([.ref r, .int pl, .int y]) (n := 4) (Nat.le_of_ble_eq_true rfl)
  refine W.eq (g2 := entryFrame m ([.ref r, .int pl, .int y] : List Value).toArray 4) (by rw [hav]) ?_
  rw [lg_entry_eq]
  generalize (lg_sl ([.ref r, .int pl, .int y]) ++ List.replicate (4 - (lg_sl ([.ref r, .int pl, .int y])).length) Slot.unset).toArray = ls at hl ⊢
  have hl : lv_has ls 4 [(0, .ref r), (1, .int pl), (2, .int y)] := hl
  refine lv_aload_n hx hb dX6_stop_0 rfl (lv_at hl 0 rfl) ?_
  refine lv_iload_n hx hb dX6_stop_1 rfl (lv_at hl 1 rfl) ?_
  refine xcVv (As := [.int pl]) (rest := []) hx hb hml hown hts hl.1 hK hKx hr0 (c_X6_checkPlow l hl0 D r C J G n Y X U Z F pl) (gaV qM_X6_74 qI_X6_checkPlow qS_X6_checkPlow qK_X6 qC_X6_checkPlow) hdv_X6_checkPlow ⟨Nat.le_of_ble_eq_true rfl, Nat.le_of_ble_eq_true rfl⟩ hG (Sn.recv hK hG) rfl (Nat.le_of_ble_eq_true rfl) ⟨Nat.le_of_ble_eq_true rfl, Nat.le_of_ble_eq_true rfl⟩ dX6_stop_2 hS hA (fun ce q9 H locs hcx hG hz hq hS hce hv hcl => ?_) (fun H locs hc2 hG hz hq hS => ?_)
  · have hG : Sn D r C J G n Y X U Z F H := hG
    have hG9 := hG
    have hE : fE_X6_stop C pl y = fE_X6_checkPlow C pl := by unfold fE_X6_stop; (try dsimp only); (try rw [if_neg hcx]); (try rfl)
    exact xout hex hlocks hS (by rw [hE]; exact hcx) hG9 hce hv hE.symm hcl (by omega) (by omega)
  have hG : Sn D r C J G n Y X U Z F H := hG
  · have hpl := cP_n hN hc2
    have hn3 := hN.2.2.2
    have hp3 : pl.toNatClampNeg < 3 := by have := hpl.2; omega
    have hc12 := (hQ _ hpl.2).2
    refine lv_aload_n hx hb dX6_stop_5 rfl (lv_at hl 0 rfl) ?_
    refine getQc hx hb hts hown hK hG qF_X6_10 dX6_stop_6 ?_
    refine getCp hx hb hts hown hK hG.gc qF_X6_67 dX6_stop_9 ?_
    refine lv_iload_n hx hb dX6_stop_12 rfl (lv_at hl 1 rfl) ?_
    refine topN (n := pl.toNatClampNeg) hpl.1 ?_
    refine aldP (i := pl.toNatClampNeg) hx hb hK hG.gc (by omega) dX6_stop_13 ?_
    refine lv_astore_n (lv' := [(3, .ref (r + 1 + 24 + 2 * pl.toNatClampNeg)), (0, .ref r), (1, .int pl), (2, .int y)]) hx hb dX6_stop_14 rfl hl (by decide) rfl (fun ls hl => ?_)
    refine lv_iload_n hx hb dX6_stop_15 rfl (lv_at hl 3 rfl) ?_
    refine lv_aload_n hx hb dX6_stop_16 rfl (lv_at hl 0 rfl) ?_
    refine getP 4 3 (i := pl.toNatClampNeg) rfl hx hb hts hown hK hG.gc (by omega) (by decide) (by decide) qF_X6_81 rfl dX6_stop_17 ?_
    refine topN (n := (nc C pl.toNatClampNeg)) (hQ _ hpl.2).1 ?_
    refine xcSv (As := [.int y, .int (nI (nc C pl.toNatClampNeg))]) (rest := []) hx hb hml hown hts hl.1 hK hKx hr0 (c_X6_checkIndex l hl0 D r C J G n Y X U Z F y (nI (nc C pl.toNatClampNeg))) (gaS qM_X6_94 qT_X6_checkIndex qK_X6 qC_X6_checkIndex) hds_X6_checkIndex ⟨Nat.le_of_ble_eq_true rfl, Nat.le_of_ble_eq_true rfl⟩ hG rfl (Nat.le_of_ble_eq_true rfl) ⟨Nat.le_of_ble_eq_true rfl, Nat.le_of_ble_eq_true rfl⟩ dX6_stop_20 hS hA (fun ce q9 H locs hcx hG hz hq hS hce hv hcl => ?_) (fun H locs hc20 hG hz hq hS => ?_)
    · have hG : Sn D r C J G n Y X U Z F H := hG
      have hG9 := hG
      have hE : fE_X6_stop C pl y = fE_X6_checkIndex y (nI (nc C pl.toNatClampNeg)) := by unfold fE_X6_stop; (try dsimp only); (try rw [if_pos hc2, if_neg hcx]); (try rfl)
      exact xout hex hlocks hS (by rw [hE]; exact hcx) hG9 hce hv hE.symm hcl (by omega) (by omega)
    have hG : Sn D r C J G n Y X U Z F H := hG
    · have hyy := cI_n (by omega) hc20
      refine lv_aload_n hx hb dX6_stop_23 rfl (lv_at hl 0 rfl) ?_
      refine getPr (i := pl.toNatClampNeg) hx hb hts hown hK hG.gc (by omega) qF_X6_86 dX6_stop_24 ?_
      refine lv_iload_n hx hb dX6_stop_27 rfl (lv_at hl 3 rfl) ?_
      refine topN (n := y.toNatClampNeg) hyy.1 ?_
      refine aldR (i := pl.toNatClampNeg) (k := y.toNatClampNeg) hx hb hK hG.gc (by omega) (by have := hyy.2; omega) dX6_stop_28 ?_
      have hG9 := hG
      refine vx_ret (W.widen (k := 2) (n := 12) (by omega) (by omega) ?_)
      exact W.iret hx hb hr (fun t ht hW => xQi_of (by unfold fE_X6_stop; (try dsimp only); (try rw [if_pos hc2, if_pos hc20]); (try rfl)) (by unfold fR_X6_stop; (try dsimp only); (try rw [if_pos hc2, if_pos hc20]); (try rfl)) hG9 hS ht) hS.2.2 dX6_stop_29
theorem hdv_X6_terms : yX6_terms.cls = RX6 ∧ yX6_terms.cls ≠ "java/lang/invoke/MethodHandle" ∧ yX6_terms.cls ≠ "java/lang/invoke/VarHandle" ∧ (parseMethodDescriptor yX6_terms.desc).map (fun d => d.parameters.length) = some 2 := by decide +kernel
def fR_X6_terms (C : Nat → Int32) (x : Int32) (y : Int32) : Int32 :=
  if fE_X6_checkIndex x 3 = 0 then
    if fE_X6_checkArgument y 0 3 = 0 then
      fR_X4_number C x.toNatClampNeg y.toNatClampNeg
    else
      0
  else
    0
def fE_X6_terms (C : Nat → Int32) (x : Int32) (y : Int32) : Nat :=
  if fE_X6_checkIndex x 3 = 0 then
    if fE_X6_checkArgument y 0 3 = 0 then
      0
    else
      fE_X6_checkArgument y 0 3
  else
    fE_X6_checkIndex x 3
set_option maxHeartbeats 4000000 in
set_option maxRecDepth 100000 in
theorem c_X6_terms (l : Launch) (hl0 : l.stackTraces = false) (D : va_G) (r : Nat) (C J : Nat → Int32) (G : Nat → Nat → Int32) (n : Nat) (Y X U Z F : Nat → Int32) (x : Int32) (y : Int32) : vx_Met l yX6_terms (wA yX6_terms cX6_terms 3 (some .int)) (rmX 7 2 12) (xPc D r [.ref r, .int x, .int y] (fun H => Sn D r C J G n Y X U Z F H)) (xQi (inS r) (fE_X6_terms C x y) (fR_X6_terms C x y) (fun H => Sn D r C J G n Y X U Z F H)) (xX (inS r) (fE_X6_terms C x y) (fun H => Sn D r C J G n Y X U Z F H)) 2 12 (inS r) := by
  refine vx_ofW (cc := cX6_terms) (maxL := 3) (ret := (some .int)) (by decide) rfl ?_
  intro p e s m args below meth c s₁ B hml hex hv
  obtain ⟨hav, hG, hK, hKx⟩ := hv
  have hr0 : ∀ q, inS r q → r ≤ q := fun q h => h.1
  have hx := B.exec
  have hb := B.bytes
  have hr := B.returns
  have hts0 := atoms_spec (ws := wA yX6_terms cX6_terms 3 (some .int)) B.pre
  have hts : ∀ w ∈ AW, w.before _ s = true := fun w h => hts0 w (List.mem_cons_of_mem _ h)
  have hown : s.vm.findClass RX6 = some m.cls := findClass_of_methodNamed B.named
  have hlocks := B.notSynchronized
  have hA : ∀ q, (inS r) q → (inS r) q := fun _ h => h
  have hS : va_S (inS r) s.heap s.heap [] := va_S.rf
  have hG : Sn D r C J G n Y X U Z F s.heap := hG
  have hl := lv_entry ([.ref r, .int x, .int y]) (n := 3) (Nat.le_of_ble_eq_true rfl)
  refine W.eq (g2 := entryFrame m ([.ref r, .int x, .int y] : List Value).toArray 3) (by rw [hav]) ?_
  rw [lg_entry_eq]
  generalize (lg_sl ([.ref r, .int x, .int y]) ++ List.replicate (3 - (lg_sl ([.ref r, .int x, .int y])).length) Slot.unset).toArray = ls at hl ⊢
  have hl : lv_has ls 3 [(0, .ref r), (1, .int x), (2, .int y)] := hl
  refine lv_iload_n hx hb dX6_terms_0 rfl (lv_at hl 1 rfl) ?_
  refine lv_iconst (v := 3) hx hb dX6_terms_1 (by decide) ?_
  refine xcSv (As := [.int x, .int 3]) (rest := []) hx hb hml hown hts hl.1 hK hKx hr0 (c_X6_checkIndex l hl0 D r C J G n Y X U Z F x 3) (gaS qM_X6_94 qT_X6_checkIndex qK_X6 qC_X6_checkIndex) hds_X6_checkIndex ⟨Nat.le_of_ble_eq_true rfl, Nat.le_of_ble_eq_true rfl⟩ hG rfl (Nat.le_of_ble_eq_true rfl) ⟨Nat.le_of_ble_eq_true rfl, Nat.le_of_ble_eq_true rfl⟩ dX6_terms_2 hS hA (fun ce q9 H locs hcx hG hz hq hS hce hv hcl => ?_) (fun H locs hc2 hG hz hq hS => ?_)
  · have hG : Sn D r C J G n Y X U Z F H := hG
    have hG9 := hG
    have hE : fE_X6_terms C x y = fE_X6_checkIndex x 3 := by unfold fE_X6_terms; (try dsimp only); (try rw [if_neg hcx]); (try rfl)
    exact xout hex hlocks hS (by rw [hE]; exact hcx) hG9 hce hv hE.symm hcl (by omega) (by omega)
  have hG : Sn D r C J G n Y X U Z F H := hG
  · have hxx := cI_n (n := 3) (by decide) hc2
    have hx3 := hxx.2
    refine lv_iload_n hx hb dX6_terms_5 rfl (lv_at hl 2 rfl) ?_
    refine lv_iconst (v := 0) hx hb dX6_terms_6 (by decide) ?_
    refine lv_iconst (v := 3) hx hb dX6_terms_7 (by decide) ?_
    refine xcSv (As := [.int y, .int 0, .int 3]) (rest := []) hx hb hml hown hts hl.1 hK hKx hr0 (c_X6_checkArgument l hl0 D r C J G n Y X U Z F y 0 3) (gaS qM_X6_33 qT_X6_checkArgument qK_X6 qC_X6_checkArgument) hds_X6_checkArgument ⟨Nat.le_of_ble_eq_true rfl, Nat.le_of_ble_eq_true rfl⟩ hG rfl (Nat.le_of_ble_eq_true rfl) ⟨Nat.le_of_ble_eq_true rfl, Nat.le_of_ble_eq_true rfl⟩ dX6_terms_8 hS hA (fun ce q9 H locs hcx hG hz hq hS hce hv hcl => ?_) (fun H locs hc8 hG hz hq hS => ?_)
    · have hG : Sn D r C J G n Y X U Z F H := hG
      have hG9 := hG
      have hE : fE_X6_terms C x y = fE_X6_checkArgument y 0 3 := by unfold fE_X6_terms; (try dsimp only); (try rw [if_pos hc2, if_neg hcx]); (try rfl)
      exact xout hex hlocks hS (by rw [hE]; exact hcx) hG9 hce hv hE.symm hcl (by omega) (by omega)
    have hG : Sn D r C J G n Y X U Z F H := hG
    · have hyy := in_n (n := 3) (by decide) (cA_0 hc8)
      refine lv_aload_n hx hb dX6_terms_11 rfl (lv_at hl 0 rfl) ?_
      refine getQc hx hb hts hown hK hG qF_X6_10 dX6_terms_12 ?_
      refine getCt hx hb hts hown hK hG.gc qF_X6_106 dX6_terms_15 ?_
      refine lv_iload_n hx hb dX6_terms_18 rfl (lv_at hl 1 rfl) ?_
      refine topN (n := x.toNatClampNeg) hxx.1 ?_
      refine aldT (i := x.toNatClampNeg) hx hb hK hG.gc (by omega) dX6_terms_19 ?_
      refine lv_iload_n hx hb dX6_terms_20 rfl (lv_at hl 2 rfl) ?_
      refine topN (n := y.toNatClampNeg) hyy.1 ?_
      refine gcVi (As := [.int (nI y.toNatClampNeg)]) (rest := []) hx hb hml hown hts hl.1 hK (c_X4_number l D (r + 1) C x.toNatClampNeg y.toNatClampNeg hx3 (by have := hyy.2; omega)) (gaV qM_X6_152 qI_X4_number qS_X4_number qK_X4 qC_X4_number) hdv_X4_number ⟨Nat.le_of_ble_eq_true rfl, Nat.le_of_ble_eq_true rfl⟩ hG.gc (hG.gc.recvT hK (by omega)) rfl (Nat.le_of_ble_eq_true rfl) ⟨Nat.le_of_ble_eq_true rfl, Nat.le_of_ble_eq_true rfl⟩ dX6_terms_21 hS (fun q h => by unfold inG at h; unfold inS; omega) (fun H locs hG1 hz hq hS => ?_)
      have hG : Sn D r C J G n Y X U Z F H := Sn.setC hG hG1 hq
      have hG9 := hG
      refine vx_ret (W.widen (k := 2) (n := 12) (by omega) (by omega) ?_)
      exact W.iret hx hb hr (fun t ht hW => xQi_of (by unfold fE_X6_terms; (try dsimp only); (try rw [if_pos hc2, if_pos hc8]); (try rfl)) (by unfold fR_X6_terms; (try dsimp only); (try rw [if_pos hc2, if_pos hc8]); (try rfl)) hG9 hS ht) hS.2.2 dX6_terms_24
