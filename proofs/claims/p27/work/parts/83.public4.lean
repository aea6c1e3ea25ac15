theorem hdv_X6_run : yX6_run.cls = RX6 ∧ yX6_run.cls ≠ "java/lang/invoke/MethodHandle" ∧ yX6_run.cls ≠ "java/lang/invoke/VarHandle" ∧ (parseMethodDescriptor yX6_run.desc).map (fun d => d.parameters.length) = some 3 := by decide +kernel
def fC_X6_run (C : Nat → Int32) (G : Nat → Nat → Int32) (n : Nat) (tmp : Int32) (sn : Int32) (hrs : Int32) : Nat → Int32 :=
  if fE_X6_checkWeather tmp sn = 0 then
    if fE_X6_checkArgument hrs 0 100 = 0 then
      if fE_X6_checkHoursToCome C hrs = 0 then
        let C3 := fP_X0_passHours C tmp sn hrs.toNatClampNeg
        C3
      else
        C
    else
      C
  else
    C
def fG_X6_run (C : Nat → Int32) (G : Nat → Nat → Int32) (n : Nat) (tmp : Int32) (sn : Int32) (hrs : Int32) : Nat → Nat → Int32 :=
  if fE_X6_checkWeather tmp sn = 0 then
    if fE_X6_checkArgument hrs 0 100 = 0 then
      if fE_X6_checkHoursToCome C hrs = 0 then
        let G1 := fG_X2_save C G n
        G1
      else
        G
    else
      G
  else
    G
def fn_X6_run (C : Nat → Int32) (G : Nat → Nat → Int32) (n : Nat) (tmp : Int32) (sn : Int32) (hrs : Int32) : Nat :=
  if fE_X6_checkWeather tmp sn = 0 then
    if fE_X6_checkArgument hrs 0 100 = 0 then
      if fE_X6_checkHoursToCome C hrs = 0 then
        let n2 := fn_X2_save C G n
        n2
      else
        n
    else
      n
  else
    n
def fR_X6_run (C : Nat → Int32) (G : Nat → Nat → Int32) (n : Nat) (tmp : Int32) (sn : Int32) (hrs : Int32) : Int32 :=
  if fE_X6_checkWeather tmp sn = 0 then
    if fE_X6_checkArgument hrs 0 100 = 0 then
      if fE_X6_checkHoursToCome C hrs = 0 then
        fR_X0_passHours C tmp sn hrs.toNatClampNeg
      else
        0
    else
      0
  else
    0
def fE_X6_run (C : Nat → Int32) (G : Nat → Nat → Int32) (n : Nat) (tmp : Int32) (sn : Int32) (hrs : Int32) : Nat :=
  if fE_X6_checkWeather tmp sn = 0 then
    if fE_X6_checkArgument hrs 0 100 = 0 then
      if fE_X6_checkHoursToCome C hrs = 0 then
        0
      else
        fE_X6_checkHoursToCome C hrs
    else
      fE_X6_checkArgument hrs 0 100
  else
    fE_X6_checkWeather tmp sn
set_option maxHeartbeats 4000000 in
set_option maxRecDepth 100000 in
theorem c_X6_run (l : Launch) (hl0 : l.stackTraces = false) (D : va_G) (r : Nat) (C J : Nat → Int32) (G : Nat → Nat → Int32) (n : Nat) (Y X U Z F : Nat → Int32) (tmp : Int32) (sn : Int32) (hrs : Int32) (hw : WF C) (hn4 : n ≤ 4) : vx_Met l yX6_run (wA yX6_run cX6_run 4 (some .int)) (rmX 8 4 24) (xPc D r [.ref r, .int tmp, .int sn, .int hrs] (fun H => Sn D r C J G n Y X U Z F H)) (xQi (inS r) (fE_X6_run C G n tmp sn hrs) (fR_X6_run C G n tmp sn hrs) (fun H => Sn D r (fC_X6_run C G n tmp sn hrs) J (fG_X6_run C G n tmp sn hrs) (fn_X6_run C G n tmp sn hrs) Y X U Z F H)) (xX (inS r) (fE_X6_run C G n tmp sn hrs) (fun H => Sn D r (fC_X6_run C G n tmp sn hrs) J (fG_X6_run C G n tmp sn hrs) (fn_X6_run C G n tmp sn hrs) Y X U Z F H)) 4 24 (inS r) := by
  refine vx_ofW (cc := cX6_run) (maxL := 4) (ret := (some .int)) (by decide) rfl ?_
  intro p e s m args below meth c s₁ B hml hex hv
  obtain ⟨hav, hG, hK, hKx⟩ := hv
  have hr0 : ∀ q, inS r q → r ≤ q := fun q h => h.1
  have hx := B.exec
  have hb := B.bytes
  have hr := B.returns
  have hts0 := atoms_spec (ws := wA yX6_run cX6_run 4 (some .int)) B.pre
  have hts : ∀ w ∈ AW, w.before _ s = true := fun w h => hts0 w (List.mem_cons_of_mem _ h)
  have hown : s.vm.findClass RX6 = some m.cls := findClass_of_methodNamed B.named
  have hlocks := B.notSynchronized
  have hA : ∀ q, (inS r) q → (inS r) q := fun _ h => h
  have hS : va_S (inS r) s.heap s.heap [] := va_S.rf
  have hG : Sn D r C J G n Y X U Z F s.heap := hG
  have hl := lv_entry ([.ref r, .int tmp, .int sn, .int hrs]) (n := 4) (Nat.le_of_ble_eq_true rfl)
  refine W.eq (g2 := entryFrame m ([.ref r, .int tmp, .int sn, .int hrs] : List Value).toArray 4) (by rw [hav]) ?_
  rw [lg_entry_eq]
  generalize (lg_sl ([.ref r, .int tmp, .int sn, .int hrs]) ++ List.replicate (4 - (lg_sl ([.ref r, .int tmp, .int sn, .int hrs])).length) Slot.unset).toArray = ls at hl ⊢
  have hl : lv_has ls 4 [(0, .ref r), (1, .int tmp), (2, .int sn), (3, .int hrs)] := hl
  have hN := hw.1
  refine lv_iload_n hx hb dX6_run_0 rfl (lv_at hl 1 rfl) ?_
  refine lv_iload_n hx hb dX6_run_1 rfl (lv_at hl 2 rfl) ?_
  refine xcSv (As := [.int tmp, .int sn]) (rest := []) hx hb hml hown hts hl.1 hK hKx hr0 (c_X6_checkWeather l hl0 D r C J G n Y X U Z F tmp sn) (gaS qM_X6_133 qT_X6_checkWeather qK_X6 qC_X6_checkWeather) hds_X6_checkWeather ⟨Nat.le_of_ble_eq_true rfl, Nat.le_of_ble_eq_true rfl⟩ hG rfl (Nat.le_of_ble_eq_true rfl) ⟨Nat.le_of_ble_eq_true rfl, Nat.le_of_ble_eq_true rfl⟩ dX6_run_2 hS hA (fun ce q9 H locs hcx hG hz hq hS hce hv hcl => ?_) (fun H locs hc2 hG hz hq hS => ?_)
  · have hG : Sn D r C J G n Y X U Z F H := hG
    obtain ⟨kx, hkx⟩ : ∃ k : Nat, k = fE_X6_checkWeather tmp sn := ⟨_, rfl⟩
    have hG9 : Sn D r (fC_X6_run C G n tmp sn hrs) J (fG_X6_run C G n tmp sn hrs) (fn_X6_run C G n tmp sn hrs) Y X U Z F H := by
      unfold fC_X6_run; (try dsimp only); (try rw [if_neg hcx])
      unfold fG_X6_run; (try dsimp only); (try rw [if_neg hcx])
      unfold fn_X6_run; (try dsimp only); (try rw [if_neg hcx])
      exact hG
    have hE : fE_X6_run C G n tmp sn hrs = kx := by rw [hkx]; unfold fE_X6_run; (try dsimp only); (try rw [if_neg hcx]); (try rfl)
    exact xout hex hlocks hS (by rw [hE, hkx]; exact hcx) hG9 hce hv (hkx.symm.trans hE.symm) hcl (by omega) (by omega)
  have hG : Sn D r C J G n Y X U Z F H := hG
  · refine lv_iload_n hx hb dX6_run_5 rfl (lv_at hl 3 rfl) ?_
    refine lv_iconst (v := 0) hx hb dX6_run_6 (by decide) ?_
    refine lv_bipush (v := 100) hx hb dX6_run_7 (by decide) ?_
    refine xcSv (As := [.int hrs, .int 0, .int 100]) (rest := []) hx hb hml hown hts hl.1 hK hKx hr0 (c_X6_checkArgument l hl0 D r C J G n Y X U Z F hrs 0 100) (gaS qM_X6_33 qT_X6_checkArgument qK_X6 qC_X6_checkArgument) hds_X6_checkArgument ⟨Nat.le_of_ble_eq_true rfl, Nat.le_of_ble_eq_true rfl⟩ hG rfl (Nat.le_of_ble_eq_true rfl) ⟨Nat.le_of_ble_eq_true rfl, Nat.le_of_ble_eq_true rfl⟩ dX6_run_9 hS hA (fun ce q9 H locs hcx hG hz hq hS hce hv hcl => ?_) (fun H locs hc9 hG hz hq hS => ?_)
    · have hG : Sn D r C J G n Y X U Z F H := hG
      obtain ⟨kx, hkx⟩ : ∃ k : Nat, k = fE_X6_checkArgument hrs 0 100 := ⟨_, rfl⟩
      have hG9 : Sn D r (fC_X6_run C G n tmp sn hrs) J (fG_X6_run C G n tmp sn hrs) (fn_X6_run C G n tmp sn hrs) Y X U Z F H := by
        unfold fC_X6_run; (try dsimp only); (try rw [if_pos hc2, if_neg hcx])
        unfold fG_X6_run; (try dsimp only); (try rw [if_pos hc2, if_neg hcx])
        unfold fn_X6_run; (try dsimp only); (try rw [if_pos hc2, if_neg hcx])
        exact hG
      have hE : fE_X6_run C G n tmp sn hrs = kx := by rw [hkx]; unfold fE_X6_run; (try dsimp only); (try rw [if_pos hc2, if_neg hcx]); (try rfl)
      exact xout hex hlocks hS (by rw [hE, hkx]; exact hcx) hG9 hce hv (hkx.symm.trans hE.symm) hcl (by omega) (by omega)
    have hG : Sn D r C J G n Y X U Z F H := hG
    · have hhh := (in_n (n := 100) (by decide) (cA_0 hc9))
      refine lv_aload_n hx hb dX6_run_12 rfl (lv_at hl 0 rfl) ?_
      refine lv_iload_n hx hb dX6_run_13 rfl (lv_at hl 3 rfl) ?_
      refine xcVv (As := [.int hrs]) (rest := []) hx hb hml hown hts hl.1 hK hKx hr0 (c_X6_checkHoursToCome l hl0 D r C J G n Y X U Z F hrs) (gaV qM_X6_136 qI_X6_checkHoursToCome qS_X6_checkHoursToCome qK_X6 qC_X6_checkHoursToCome) hdv_X6_checkHoursToCome ⟨Nat.le_of_ble_eq_true rfl, Nat.le_of_ble_eq_true rfl⟩ hG (Sn.recv hK hG) rfl (Nat.le_of_ble_eq_true rfl) ⟨Nat.le_of_ble_eq_true rfl, Nat.le_of_ble_eq_true rfl⟩ dX6_run_14 hS hA (fun ce q9 H locs hcx hG hz hq hS hce hv hcl => ?_) (fun H locs hc14 hG hz hq hS => ?_)
      · have hG : Sn D r C J G n Y X U Z F H := hG
        obtain ⟨kx, hkx⟩ : ∃ k : Nat, k = fE_X6_checkHoursToCome C hrs := ⟨_, rfl⟩
        have hG9 : Sn D r (fC_X6_run C G n tmp sn hrs) J (fG_X6_run C G n tmp sn hrs) (fn_X6_run C G n tmp sn hrs) Y X U Z F H := by
          unfold fC_X6_run; (try dsimp only); (try rw [if_pos hc2, if_pos hc9, if_neg hcx])
          unfold fG_X6_run; (try dsimp only); (try rw [if_pos hc2, if_pos hc9, if_neg hcx])
          unfold fn_X6_run; (try dsimp only); (try rw [if_pos hc2, if_pos hc9, if_neg hcx])
          exact hG
        have hE : fE_X6_run C G n tmp sn hrs = kx := by rw [hkx]; unfold fE_X6_run; (try dsimp only); (try rw [if_pos hc2, if_pos hc9, if_neg hcx]); (try rfl)
        exact xout hex hlocks hS (by rw [hE, hkx]; exact hcx) hG9 hce hv (hkx.symm.trans hE.symm) hcl (by omega) (by omega)
      have hG : Sn D r C J G n Y X U Z F H := hG
      · refine lv_aload_n hx hb dX6_run_17 rfl (lv_at hl 0 rfl) ?_
        refine getQv hx hb hts hown hK hG qF_X6_22 dX6_run_18 ?_
        refine lv_aload_n hx hb dX6_run_21 rfl (lv_at hl 0 rfl) ?_
        refine getQc hx hb hts hown hK hG qF_X6_10 dX6_run_22 ?_
        refine gcVv (As := [.ref (r + 1)]) (rest := []) hx hb hml hown hts hl.1 hK (c_X2_save l D r C J G n Y X U Z F hn4 hN) (gaV qM_X6_48 qI_X2_save qS_X2_save qK_X2 qC_X2_save) hdv_X2_save ⟨Nat.le_of_ble_eq_true rfl, Nat.le_of_ble_eq_true rfl⟩ hG (Sn.recvV hK hG) rfl (Nat.le_of_ble_eq_true rfl) ⟨Nat.le_of_ble_eq_true rfl, Nat.le_of_ble_eq_true rfl⟩ dX6_run_25 hS hA (fun H locs hG hz hq hS => ?_)
        have hG : Sn D r C J (fG_X2_save C G n) (fn_X2_save C G n) Y X U Z F H := hG
        generalize eG1 : fG_X2_save C G n = G1 at hG
        generalize en2 : fn_X2_save C G n = n2 at hG
        refine lv_aload_n hx hb dX6_run_28 rfl (lv_at hl 0 rfl) ?_
        refine getQc hx hb hts hown hK hG qF_X6_10 dX6_run_29 ?_
        refine lv_iload_n hx hb dX6_run_32 rfl (lv_at hl 1 rfl) ?_
        refine lv_iload_n hx hb dX6_run_33 rfl (lv_at hl 2 rfl) ?_
        refine lv_iload_n hx hb dX6_run_34 rfl (lv_at hl 3 rfl) ?_
        refine topN (n := hrs.toNatClampNeg) hhh.1 ?_
        refine gcVi (As := [.int tmp, .int sn, .int (nI hrs.toNatClampNeg)]) (rest := []) hx hb hml hown hts hl.1 hK (c_X0_passHours l D (r + 1) C tmp sn hrs.toNatClampNeg hw (by have := hhh.2; omega)) (gaV qM_X6_139 qI_X0_passHours qS_X0_passHours qK_X0 qC_X0_passHours) hdv_X0_passHours ⟨Nat.le_of_ble_eq_true rfl, Nat.le_of_ble_eq_true rfl⟩ hG.gc (hG.gc.recvC hK) rfl (Nat.le_of_ble_eq_true rfl) ⟨Nat.le_of_ble_eq_true rfl, Nat.le_of_ble_eq_true rfl⟩ dX6_run_35 hS (fun q h => by unfold inG at h; unfold inS; omega) (fun H locs hG1 hz hq hS => ?_)
        have hG : Sn D r (fP_X0_passHours C tmp sn hrs.toNatClampNeg) J G1 n2 Y X U Z F H := Sn.setC hG hG1 hq
        generalize eC3 : fP_X0_passHours C tmp sn hrs.toNatClampNeg = C3 at hG
        subst eC3
        subst en2
        subst eG1
        have hG9 : Sn D r (fC_X6_run C G n tmp sn hrs) J (fG_X6_run C G n tmp sn hrs) (fn_X6_run C G n tmp sn hrs) Y X U Z F H := by
          unfold fC_X6_run; (try dsimp only); (try rw [if_pos hc2, if_pos hc9, if_pos hc14])
          unfold fG_X6_run; (try dsimp only); (try rw [if_pos hc2, if_pos hc9, if_pos hc14])
          unfold fn_X6_run; (try dsimp only); (try rw [if_pos hc2, if_pos hc9, if_pos hc14])
          exact hG
        refine vx_ret (W.widen (k := 4) (n := 24) (by omega) (by omega) ?_)
        exact W.iret hx hb hr (fun t ht hW => xQi_of (by unfold fE_X6_run; (try dsimp only); (try rw [if_pos hc2, if_pos hc9, if_pos hc14]); (try rfl)) (by unfold fR_X6_run; (try dsimp only); (try rw [if_pos hc2, if_pos hc9, if_pos hc14]); (try rfl)) hG9 hS ht) hS.2.2 dX6_run_38
theorem hdv_X6_append : yX6_append.cls = RX6 ∧ yX6_append.cls ≠ "java/lang/invoke/MethodHandle" ∧ yX6_append.cls ≠ "java/lang/invoke/VarHandle" ∧ (parseMethodDescriptor yX6_append.desc).map (fun d => d.parameters.length) = some 1 := by decide +kernel
def fY_X6_append (Y : Nat → Int32) (F : Nat → Int32) (x : Int32) : Nat → Int32 :=
  if fE_X6_checkArgument x 0 127 = 0 then
    if (tl5 F) < 150 then
      let Y1 := upd Y (tl5 F) x
      Y1
    else
      Y
  else
    Y
def fF_X6_append (Y : Nat → Int32) (F : Nat → Int32) (x : Int32) : Nat → Int32 :=
  if fE_X6_checkArgument x 0 127 = 0 then
    if (tl5 F) < 150 then
      let x2 := (F 1) + 1
      let F3 := upd F 1 x2
      F3
    else
      F
  else
    F
def fR_X6_append (Y : Nat → Int32) (F : Nat → Int32) (x : Int32) : Int32 :=
  if fE_X6_checkArgument x 0 127 = 0 then
    if (tl5 F) < 150 then
      let x2 := (F 1) + 1
      let F3 := upd F 1 x2
      F3 1
    else
      0
  else
    0
def fE_X6_append (Y : Nat → Int32) (F : Nat → Int32) (x : Int32) : Nat :=
  if fE_X6_checkArgument x 0 127 = 0 then
    if (tl5 F) < 150 then
      0
    else
      2
  else
    fE_X6_checkArgument x 0 127
set_option maxHeartbeats 4000000 in
set_option maxRecDepth 100000 in
theorem c_X6_append (l : Launch) (hl0 : l.stackTraces = false) (D : va_G) (r : Nat) (C J : Nat → Int32) (G : Nat → Nat → Int32) (n : Nat) (Y X U Z F : Nat → Int32) (x : Int32) (hT : okT5 F) : vx_Met l yX6_append (wA yX6_append cX6_append 2 (some .int)) (rmX 7 2 12) (xPc D r [.ref r, .int x] (fun H => Sn D r C J G n Y X U Z F H)) (xQi (inS r) (fE_X6_append Y F x) (fR_X6_append Y F x) (fun H => Sn D r C J G n (fY_X6_append Y F x) X U Z (fF_X6_append Y F x) H)) (xX (inS r) (fE_X6_append Y F x) (fun H => Sn D r C J G n (fY_X6_append Y F x) X U Z (fF_X6_append Y F x) H)) 2 12 (inS r) := by
  refine vx_ofW (cc := cX6_append) (maxL := 2) (ret := (some .int)) (by decide) rfl ?_
  intro p e s m args below meth c s₁ B hml hex hv
  obtain ⟨hav, hG, hK, hKx⟩ := hv
  have hr0 : ∀ q, inS r q → r ≤ q := fun q h => h.1
  have hx := B.exec
  have hb := B.bytes
  have hr := B.returns
  have hts0 := atoms_spec (ws := wA yX6_append cX6_append 2 (some .int)) B.pre
  have hts : ∀ w ∈ AW, w.before _ s = true := fun w h => hts0 w (List.mem_cons_of_mem _ h)
  have hown : s.vm.findClass RX6 = some m.cls := findClass_of_methodNamed B.named
  have hlocks := B.notSynchronized
  have hA : ∀ q, (inS r) q → (inS r) q := fun _ h => h
  have hS : va_S (inS r) s.heap s.heap [] := va_S.rf
  have hG : Sn D r C J G n Y X U Z F s.heap := hG
  have hl := lv_entry ([.ref r, .int x]) (n := 2) (Nat.le_of_ble_eq_true rfl)
  refine W.eq (g2 := entryFrame m ([.ref r, .int x] : List Value).toArray 2) (by rw [hav]) ?_
  rw [lg_entry_eq]
  generalize (lg_sl ([.ref r, .int x]) ++ List.replicate (2 - (lg_sl ([.ref r, .int x])).length) Slot.unset).toArray = ls at hl ⊢
  have hl : lv_has ls 2 [(0, .ref r), (1, .int x)] := hl
  have hT2 := hT.2
  refine lv_iload_n hx hb dX6_append_0 rfl (lv_at hl 1 rfl) ?_
  refine lv_iconst (v := 0) hx hb dX6_append_1 (by decide) ?_
  refine lv_bipush (v := 127) hx hb dX6_append_2 (by decide) ?_
  refine xcSv (As := [.int x, .int 0, .int 127]) (rest := []) hx hb hml hown hts hl.1 hK hKx hr0 (c_X6_checkArgument l hl0 D r C J G n Y X U Z F x 0 127) (gaS qM_X6_33 qT_X6_checkArgument qK_X6 qC_X6_checkArgument) hds_X6_checkArgument ⟨Nat.le_of_ble_eq_true rfl, Nat.le_of_ble_eq_true rfl⟩ hG rfl (Nat.le_of_ble_eq_true rfl) ⟨Nat.le_of_ble_eq_true rfl, Nat.le_of_ble_eq_true rfl⟩ dX6_append_4 hS hA (fun ce q9 H locs hcx hG hz hq hS hce hv hcl => ?_) (fun H locs hc4 hG hz hq hS => ?_)
  · have hG : Sn D r C J G n Y X U Z F H := hG
    obtain ⟨kx, hkx⟩ : ∃ k : Nat, k = fE_X6_checkArgument x 0 127 := ⟨_, rfl⟩
    have hG9 : Sn D r C J G n (fY_X6_append Y F x) X U Z (fF_X6_append Y F x) H := by
      unfold fY_X6_append; (try dsimp only); (try rw [if_neg hcx])
      unfold fF_X6_append; (try dsimp only); (try rw [if_neg hcx])
      exact hG
    have hE : fE_X6_append Y F x = kx := by rw [hkx]; unfold fE_X6_append; (try dsimp only); (try rw [if_neg hcx]); (try rfl)
    exact xout hex hlocks hS (by rw [hE, hkx]; exact hcx) hG9 hce hv (hkx.symm.trans hE.symm) hcl (by omega) (by omega)
  have hG : Sn D r C J G n Y X U Z F H := hG
  · refine lv_aload_n hx hb dX6_append_7 rfl (lv_at hl 0 rfl) ?_
    refine getQx hx hb hts hown hK hG qF_X6_29 dX6_append_8 ?_
    refine getX 1 hx hb hts hown hK hG.x (by decide) qF_X6_172 rfl dX6_append_11 ?_
    refine topN (n := (tl5 F)) hT.1 ?_
    refine lv_sipush (v := 150) hx hb dX6_append_14 (by decide) ?_
    refine lv_icmp_lt (tgt := 30) hx hb dX6_append_17 (by decide) (fun c17 => ?_) (fun c17 => ?_)
    · have c17 : (tl5 F) < 150 := (nI_ltI (a := (tl5 F)) (b := 150) (by omega) (by omega)).mp c17
      refine lv_aload_n hx hb dX6_append_30 rfl (lv_at hl 0 rfl) ?_
      refine getQx hx hb hts hown hK hG qF_X6_29 dX6_append_31 ?_
      refine getXb hx hb hts hown hK hG.x qF_X6_175 dX6_append_34 ?_
      refine lv_aload_n hx hb dX6_append_37 rfl (lv_at hl 0 rfl) ?_
      refine getQx hx hb hts hown hK hG qF_X6_29 dX6_append_38 ?_
      refine getX 1 hx hb hts hown hK hG.x (by decide) qF_X6_172 rfl dX6_append_41 ?_
      refine topN (n := (tl5 F)) hT.1 ?_
      refine lv_iload_n hx hb dX6_append_44 rfl (lv_at hl 1 rfl) ?_
      refine qastY (k := (tl5 F)) hx hb hK hG hS hA (by omega) dX6_append_45 (fun H locs hG hS => ?_)
      generalize eY1 : upd Y (tl5 F) x = Y1 at hG
      refine lv_aload_n hx hb dX6_append_46 rfl (lv_at hl 0 rfl) ?_
      refine getQx hx hb hts hown hK hG qF_X6_29 dX6_append_47 ?_
      refine lv_dup hx hb dX6_append_50 rfl ?_
      refine getX 1 hx hb hts hown hK hG.x (by decide) qF_X6_172 rfl dX6_append_51 ?_
      refine lv_iconst (v := 1) hx hb dX6_append_54 (by decide) ?_
      refine lv_iadd hx hb dX6_append_55 ?_
      refine lv_topi (fun x2 ex2 => ?_)
      refine qputX 1 hx hb hts hown hK hG hS hA (by decide) qF_X6_172 rfl dX6_append_56 (fun H locs hG hS => ?_)
      generalize eF3 : upd F 1 x2 = F3 at hG
      refine lv_aload_n hx hb dX6_append_59 rfl (lv_at hl 0 rfl) ?_
      refine getQx hx hb hts hown hK hG qF_X6_29 dX6_append_60 ?_
      refine getX 1 hx hb hts hown hK hG.x (by decide) qF_X6_172 rfl dX6_append_63 ?_
      subst eF3
      subst ex2
      subst eY1
      have hG9 : Sn D r C J G n (fY_X6_append Y F x) X U Z (fF_X6_append Y F x) H := by
        unfold fY_X6_append; (try dsimp only); (try rw [if_pos hc4, if_pos c17])
        unfold fF_X6_append; (try dsimp only); (try rw [if_pos hc4, if_pos c17])
        exact hG
      refine vx_ret (W.widen (k := 2) (n := 12) (by omega) (by omega) ?_)
      exact W.iret hx hb hr (fun t ht hW => xQi_of (by unfold fE_X6_append; (try dsimp only); (try rw [if_pos hc4, if_pos c17]); (try rfl)) (by unfold fR_X6_append; (try dsimp only); (try rw [if_pos hc4, if_pos c17]); (try rfl)) hG9 hS ht) hS.2.2 dX6_append_66
    · have c17 : ¬ (tl5 F) < 150 := fun h => c17 ((nI_ltI (a := (tl5 F)) (b := 150) (by omega) (by omega)).mpr h)
      have hG9 : Sn D r C J G n (fY_X6_append Y F x) X U Z (fF_X6_append Y F x) H := by
        unfold fY_X6_append; (try dsimp only); (try rw [if_pos hc4, if_neg c17])
        unfold fF_X6_append; (try dsimp only); (try rw [if_pos hc4, if_neg c17])
        exact hG
      have hE : fE_X6_append Y F x = 2 := by unfold fE_X6_append; (try dsimp only); (try rw [if_pos hc4, if_neg c17]); (try rfl)
      exact xthr 2 ⟨by decide, by decide⟩ (ik := 41) (is := 173) (text := "the text has 150 bytes") exg2 exk2 exo2 hx hb hl0 hml hown hts hl.1 hKx hr0 qL_X6_41 qK_IllegalStateException (by decide +kernel) hS dX6_append_20 dX6_append_23 dX6_append_24 dX6_append_26 dX6_append_29 hex hlocks ⟨Nat.le_of_ble_eq_true rfl, Nat.le_of_ble_eq_true rfl⟩ (Nat.le_of_ble_eq_true rfl) (Nat.le_of_ble_eq_true rfl) hE (fun H1 hz1 hq1 => hG9.keep hz1 hq1) (by omega) (by omega)
def fF_X6_clearText (F : Nat → Int32) : Nat → Int32 :=
  let F2 := upd F 1 0
  F2
def fR_X6_clearText (F : Nat → Int32) : Int32 :=
  let x1 := F 1
  x1
theorem hdv_X6_undo : yX6_undo.cls = RX6 ∧ yX6_undo.cls ≠ "java/lang/invoke/MethodHandle" ∧ yX6_undo.cls ≠ "java/lang/invoke/VarHandle" ∧ (parseMethodDescriptor yX6_undo.desc).map (fun d => d.parameters.length) = some 0 := by decide +kernel
def fC_X6_undo (C : Nat → Int32) (G : Nat → Nat → Int32) (n : Nat) : Nat → Int32 :=
  if 0 < n then
    let C1 := fC_X2_restore C G n
    C1
  else
    C
def fn_X6_undo (C : Nat → Int32) (G : Nat → Nat → Int32) (n : Nat) : Nat :=
  if 0 < n then
    let n2 := fn_X2_restore C G n
    n2
  else
    n
def fR_X6_undo (C : Nat → Int32) (G : Nat → Nat → Int32) (n : Nat) : Int32 :=
  if 0 < n then
    let n2 := fn_X2_restore C G n
    nI n2
  else
    0
def fE_X6_undo (C : Nat → Int32) (G : Nat → Nat → Int32) (n : Nat) : Nat :=
  if 0 < n then
    0
  else
    2
set_option maxHeartbeats 4000000 in
set_option maxRecDepth 100000 in
theorem c_X6_undo (l : Launch) (hl0 : l.stackTraces = false) (D : va_G) (r : Nat) (C J : Nat → Int32) (G : Nat → Nat → Int32) (n : Nat) (Y X U Z F : Nat → Int32) (hn4 : n ≤ 4) (hoG : ∀ i, i < n → okN (G i)) : vx_Met l yX6_undo (wA yX6_undo cX6_undo 1 (some .int)) (rmX 6 1 6) (xPc D r [.ref r] (fun H => Sn D r C J G n Y X U Z F H)) (xQi (inS r) (fE_X6_undo C G n) (fR_X6_undo C G n) (fun H => Sn D r (fC_X6_undo C G n) J G (fn_X6_undo C G n) Y X U Z F H)) (xX (inS r) (fE_X6_undo C G n) (fun H => Sn D r (fC_X6_undo C G n) J G (fn_X6_undo C G n) Y X U Z F H)) 1 6 (inS r) := by
  refine vx_ofW (cc := cX6_undo) (maxL := 1) (ret := (some .int)) (by decide) rfl ?_
  intro p e s m args below meth c s₁ B hml hex hv
  obtain ⟨hav, hG, hK, hKx⟩ := hv
  have hr0 : ∀ q, inS r q → r ≤ q := fun q h => h.1
  have hx := B.exec
  have hb := B.bytes
  have hr := B.returns
  have hts0 := atoms_spec (ws := wA yX6_undo cX6_undo 1 (some .int)) B.pre
  have hts : ∀ w ∈ AW, w.before _ s = true := fun w h => hts0 w (List.mem_cons_of_mem _ h)
  have hown : s.vm.findClass RX6 = some m.cls := findClass_of_methodNamed B.named
  have hlocks := B.notSynchronized
  have hA : ∀ q, (inS r) q → (inS r) q := fun _ h => h
  have hS : va_S (inS r) s.heap s.heap [] := va_S.rf
  have hG : Sn D r C J G n Y X U Z F s.heap := hG
  have hl := lv_entry ([.ref r]) (n := 1) (Nat.le_of_ble_eq_true rfl)
  refine W.eq (g2 := entryFrame m ([.ref r] : List Value).toArray 1) (by rw [hav]) ?_
  rw [lg_entry_eq]
  generalize (lg_sl ([.ref r]) ++ List.replicate (1 - (lg_sl ([.ref r])).length) Slot.unset).toArray = ls at hl ⊢
  have hl : lv_has ls 1 [(0, .ref r)] := hl
  refine lv_aload_n hx hb dX6_undo_0 rfl (lv_at hl 0 rfl) ?_
  refine getQv hx hb hts hown hK hG qF_X6_22 dX6_undo_1 ?_
  refine getVn hx hb hts hown hK hG qF_X6_196 dX6_undo_4 ?_
  refine lv_if_gt (tgt := 20) hx hb dX6_undo_7 (by decide) (fun c7 => ?_) (fun c7 => ?_)
  · have c7 : 0 < n := (nI_ltI (a := 0) (b := n) (by omega) (by omega)).mp c7
    refine lv_aload_n hx hb dX6_undo_20 rfl (lv_at hl 0 rfl) ?_
    refine getQv hx hb hts hown hK hG qF_X6_22 dX6_undo_21 ?_
    refine lv_aload_n hx hb dX6_undo_24 rfl (lv_at hl 0 rfl) ?_
    refine getQc hx hb hts hown hK hG qF_X6_10 dX6_undo_25 ?_
    refine gcVv (As := [.ref (r + 1)]) (rest := []) hx hb hml hown hts hl.1 hK (c_X2_restore l D r C J G n Y X U Z F (by omega) hn4 (hoG _ (by omega))) (gaV qM_X6_201 qI_X2_restore qS_X2_restore qK_X2 qC_X2_restore) hdv_X2_restore ⟨Nat.le_of_ble_eq_true rfl, Nat.le_of_ble_eq_true rfl⟩ hG (Sn.recvV hK hG) rfl (Nat.le_of_ble_eq_true rfl) ⟨Nat.le_of_ble_eq_true rfl, Nat.le_of_ble_eq_true rfl⟩ dX6_undo_28 hS hA (fun H locs hG hz hq hS => ?_)
    have hG : Sn D r (fC_X2_restore C G n) J G (fn_X2_restore C G n) Y X U Z F H := hG
    generalize eC1 : fC_X2_restore C G n = C1 at hG
    generalize en2 : fn_X2_restore C G n = n2 at hG
    refine lv_aload_n hx hb dX6_undo_31 rfl (lv_at hl 0 rfl) ?_
    refine getQv hx hb hts hown hK hG qF_X6_22 dX6_undo_32 ?_
    refine getVn hx hb hts hown hK hG qF_X6_196 dX6_undo_35 ?_
    subst en2
    subst eC1
    have hG9 : Sn D r (fC_X6_undo C G n) J G (fn_X6_undo C G n) Y X U Z F H := by
      unfold fC_X6_undo; (try dsimp only); (try rw [if_pos c7])
      unfold fn_X6_undo; (try dsimp only); (try rw [if_pos c7])
      exact hG
    refine vx_ret (W.widen (k := 1) (n := 6) (by omega) (by omega) ?_)
    exact W.iret hx hb hr (fun t ht hW => xQi_of (by unfold fE_X6_undo; (try dsimp only); (try rw [if_pos c7]); (try rfl)) (by unfold fR_X6_undo; (try dsimp only); (try rw [if_pos c7]); (try rfl)) hG9 hS ht) hS.2.2 dX6_undo_38
  · have c7 : ¬ 0 < n := fun h => c7 ((nI_ltI (a := 0) (b := n) (by omega) (by omega)).mpr h)
    have hG9 : Sn D r (fC_X6_undo C G n) J G (fn_X6_undo C G n) Y X U Z F s.heap := by
      unfold fC_X6_undo; (try dsimp only); (try rw [if_neg c7])
      unfold fn_X6_undo; (try dsimp only); (try rw [if_neg c7])
      exact hG
    have hE : fE_X6_undo C G n = 2 := by unfold fE_X6_undo; (try dsimp only); (try rw [if_neg c7]); (try rfl)
    exact xthr 2 ⟨by decide, by decide⟩ (ik := 41) (is := 199) (text := "there is no saved state") exg2 exk2 exo2 hx hb hl0 hml hown hts hl.1 hKx hr0 qL_X6_41 qK_IllegalStateException (by decide +kernel) hS dX6_undo_10 dX6_undo_13 dX6_undo_14 dX6_undo_16 dX6_undo_19 hex hlocks ⟨Nat.le_of_ble_eq_true rfl, Nat.le_of_ble_eq_true rfl⟩ (Nat.le_of_ble_eq_true rfl) (Nat.le_of_ble_eq_true rfl) hE (fun H1 hz1 hq1 => hG9.keep hz1 hq1) (by omega) (by omega)
