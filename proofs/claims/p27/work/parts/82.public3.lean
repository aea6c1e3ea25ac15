theorem hdv_X6_creditsIn : yX6_creditsIn.cls = RX6 ∧ yX6_creditsIn.cls ≠ "java/lang/invoke/MethodHandle" ∧ yX6_creditsIn.cls ≠ "java/lang/invoke/VarHandle" ∧ (parseMethodDescriptor yX6_creditsIn.desc).map (fun d => d.parameters.length) = some 3 := by decide +kernel
def fJ_X6_creditsIn (C : Nat → Int32) (J : Nat → Int32) (tmp : Int32) (sn : Int32) (hrs : Int32) : Nat → Int32 :=
  if fE_X6_checkWeather tmp sn = 0 then
    if fE_X6_checkArgument hrs 0 100 = 0 then
      let J1 := fP_X0_copyFrom J C
      let J2 := fP_X0_passHours J1 tmp sn hrs.toNatClampNeg
      J2
    else
      J
  else
    J
def fR_X6_creditsIn (C : Nat → Int32) (J : Nat → Int32) (tmp : Int32) (sn : Int32) (hrs : Int32) : Int32 :=
  if fE_X6_checkWeather tmp sn = 0 then
    if fE_X6_checkArgument hrs 0 100 = 0 then
      let J1 := fP_X0_copyFrom J C
      fR_X0_passHours J1 tmp sn hrs.toNatClampNeg
    else
      0
  else
    0
def fE_X6_creditsIn (C : Nat → Int32) (J : Nat → Int32) (tmp : Int32) (sn : Int32) (hrs : Int32) : Nat :=
  if fE_X6_checkWeather tmp sn = 0 then
    if fE_X6_checkArgument hrs 0 100 = 0 then
      0
    else
      fE_X6_checkArgument hrs 0 100
  else
    fE_X6_checkWeather tmp sn
set_option maxHeartbeats 4000000 in
set_option maxRecDepth 100000 in
theorem c_X6_creditsIn (l : Launch) (hl0 : l.stackTraces = false) (D : va_G) (r : Nat) (C J : Nat → Int32) (G : Nat → Nat → Int32) (n : Nat) (Y X U Z F : Nat → Int32) (tmp : Int32) (sn : Int32) (hrs : Int32) (hI : hrI (ns C) (np C) (nc C) C) (hQ : ∀ q, q < np C → okQ C q) : vx_Met l yX6_creditsIn (wA yX6_creditsIn cX6_creditsIn 4 (some .int)) (rmX 8 3 18) (xPc D r [.ref r, .int tmp, .int sn, .int hrs] (fun H => Sn D r C J G n Y X U Z F H)) (xQi (inS r) (fE_X6_creditsIn C J tmp sn hrs) (fR_X6_creditsIn C J tmp sn hrs) (fun H => Sn D r C (fJ_X6_creditsIn C J tmp sn hrs) G n Y X U Z F H)) (xX (inS r) (fE_X6_creditsIn C J tmp sn hrs) (fun H => Sn D r C (fJ_X6_creditsIn C J tmp sn hrs) G n Y X U Z F H)) 3 18 (inS r) := by
  refine vx_ofW (cc := cX6_creditsIn) (maxL := 4) (ret := (some .int)) (by decide) rfl ?_
  intro p e s m args below meth c s₁ B hml hex hv
  obtain ⟨hav, hG, hK, hKx⟩ := hv
  have hr0 : ∀ q, inS r q → r ≤ q := fun q h => h.1
  have hx := B.exec
  have hb := B.bytes
  have hr := B.returns
  have hts0 := atoms_spec (ws := wA yX6_creditsIn cX6_creditsIn 4 (some .int)) B.pre
  have hts : ∀ w ∈ AW, w.before _ s = true := fun w h => hts0 w (List.mem_cons_of_mem _ h)
  have hown : s.vm.findClass RX6 = some m.cls := findClass_of_methodNamed B.named
  have hlocks := B.notSynchronized
  have hA : ∀ q, (inS r) q → (inS r) q := fun _ h => h
  have hS : va_S (inS r) s.heap s.heap [] := va_S.rf
  have hG : Sn D r C J G n Y X U Z F s.heap := hG
  have hl := lv_entry ([.ref r, .int tmp, .int sn, .int hrs]) (n := 4) (Nat.le_of_ble_eq_true rfl)
  refine W.eq (g2 := entryFrame m ([.ref r, .int tmp, .int sn, .int hrs] : List Value).toArray 4) (by rw [hav]) ?_
  rw [lg_entry_eq]
  generalize (lg_sl ([.ref r, .int tmp, .int sn, .int hrs]) ++ List.replicate (4 - (lg_sl ([.ref r, .int tmp, .int sn, .int hrs])).length) Slot.unset).toArray = ls at hl ⊢
  have hl : lv_has ls 4 [(0, .ref r), (1, .int tmp), (2, .int sn), (3, .int hrs)] := hl
  have hN := hI.1.1
  refine lv_iload_n hx hb dX6_creditsIn_0 rfl (lv_at hl 1 rfl) ?_
  refine lv_iload_n hx hb dX6_creditsIn_1 rfl (lv_at hl 2 rfl) ?_
  refine xcSv (As := [.int tmp, .int sn]) (rest := []) hx hb hml hown hts hl.1 hK hKx hr0 (c_X6_checkWeather l hl0 D r C J G n Y X U Z F tmp sn) (gaS qM_X6_133 qT_X6_checkWeather qK_X6 qC_X6_checkWeather) hds_X6_checkWeather ⟨Nat.le_of_ble_eq_true rfl, Nat.le_of_ble_eq_true rfl⟩ hG rfl (Nat.le_of_ble_eq_true rfl) ⟨Nat.le_of_ble_eq_true rfl, Nat.le_of_ble_eq_true rfl⟩ dX6_creditsIn_2 hS hA (fun ce q9 H locs hcx hG hz hq hS hce hv hcl => ?_) (fun H locs hc2 hG hz hq hS => ?_)
  · have hG : Sn D r C J G n Y X U Z F H := hG
    obtain ⟨kx, hkx⟩ : ∃ k : Nat, k = fE_X6_checkWeather tmp sn := ⟨_, rfl⟩
    have hG9 : Sn D r C (fJ_X6_creditsIn C J tmp sn hrs) G n Y X U Z F H := by
      unfold fJ_X6_creditsIn; (try dsimp only); (try rw [if_neg hcx])
      exact hG
    have hE : fE_X6_creditsIn C J tmp sn hrs = kx := by rw [hkx]; unfold fE_X6_creditsIn; (try dsimp only); (try rw [if_neg hcx]); (try rfl)
    exact xout hex hlocks hS (by rw [hE, hkx]; exact hcx) hG9 hce hv (hkx.symm.trans hE.symm) hcl (by omega) (by omega)
  have hG : Sn D r C J G n Y X U Z F H := hG
  · refine lv_iload_n hx hb dX6_creditsIn_5 rfl (lv_at hl 3 rfl) ?_
    refine lv_iconst (v := 0) hx hb dX6_creditsIn_6 (by decide) ?_
    refine lv_bipush (v := 100) hx hb dX6_creditsIn_7 (by decide) ?_
    refine xcSv (As := [.int hrs, .int 0, .int 100]) (rest := []) hx hb hml hown hts hl.1 hK hKx hr0 (c_X6_checkArgument l hl0 D r C J G n Y X U Z F hrs 0 100) (gaS qM_X6_33 qT_X6_checkArgument qK_X6 qC_X6_checkArgument) hds_X6_checkArgument ⟨Nat.le_of_ble_eq_true rfl, Nat.le_of_ble_eq_true rfl⟩ hG rfl (Nat.le_of_ble_eq_true rfl) ⟨Nat.le_of_ble_eq_true rfl, Nat.le_of_ble_eq_true rfl⟩ dX6_creditsIn_9 hS hA (fun ce q9 H locs hcx hG hz hq hS hce hv hcl => ?_) (fun H locs hc9 hG hz hq hS => ?_)
    · have hG : Sn D r C J G n Y X U Z F H := hG
      obtain ⟨kx, hkx⟩ : ∃ k : Nat, k = fE_X6_checkArgument hrs 0 100 := ⟨_, rfl⟩
      have hG9 : Sn D r C (fJ_X6_creditsIn C J tmp sn hrs) G n Y X U Z F H := by
        unfold fJ_X6_creditsIn; (try dsimp only); (try rw [if_pos hc2, if_neg hcx])
        exact hG
      have hE : fE_X6_creditsIn C J tmp sn hrs = kx := by rw [hkx]; unfold fE_X6_creditsIn; (try dsimp only); (try rw [if_pos hc2, if_neg hcx]); (try rfl)
      exact xout hex hlocks hS (by rw [hE, hkx]; exact hcx) hG9 hce hv (hkx.symm.trans hE.symm) hcl (by omega) (by omega)
    have hG : Sn D r C J G n Y X U Z F H := hG
    · have hhh := (in_n (n := 100) (by decide) (cA_0 hc9))
      refine lv_aload_n hx hb dX6_creditsIn_12 rfl (lv_at hl 0 rfl) ?_
      refine getQe hx hb hts hown hK hG qF_X6_16 dX6_creditsIn_13 ?_
      refine lv_aload_n hx hb dX6_creditsIn_16 rfl (lv_at hl 0 rfl) ?_
      refine getQc hx hb hts hown hK hG qF_X6_10 dX6_creditsIn_17 ?_
      refine gcVv (As := [.ref (r + 1)]) (rest := []) hx hb hml hown hts hl.1 hK (c_X0_copyFrom l D (r + 34) (r + 1) J C (by unfold apart; omega) hN) (gaV qM_X6_159 qI_X0_copyFrom qS_X0_copyFrom qK_X0 qC_X0_copyFrom) hdv_X0_copyFrom ⟨Nat.le_of_ble_eq_true rfl, Nat.le_of_ble_eq_true rfl⟩ ⟨hG.ge, hG.gc⟩ (hG.ge.recvC hK) rfl (Nat.le_of_ble_eq_true rfl) ⟨Nat.le_of_ble_eq_true rfl, Nat.le_of_ble_eq_true rfl⟩ dX6_creditsIn_20 hS (fun q h => by unfold inG at h; unfold inS; omega) (fun H locs hG1 hz hq hS => ?_)
      have hG : Sn D r C (fP_X0_copyFrom J C) G n Y X U Z F H := Sn.setE hG hG1.1 hq
      generalize eJ1 : fP_X0_copyFrom J C = J1 at hG
      refine lv_aload_n hx hb dX6_creditsIn_23 rfl (lv_at hl 0 rfl) ?_
      refine getQe hx hb hts hown hK hG qF_X6_16 dX6_creditsIn_24 ?_
      refine lv_iload_n hx hb dX6_creditsIn_27 rfl (lv_at hl 1 rfl) ?_
      refine lv_iload_n hx hb dX6_creditsIn_28 rfl (lv_at hl 2 rfl) ?_
      refine lv_iload_n hx hb dX6_creditsIn_29 rfl (lv_at hl 3 rfl) ?_
      refine topN (n := hrs.toNatClampNeg) hhh.1 ?_
      refine gcVi (As := [.int tmp, .int sn, .int (nI hrs.toNatClampNeg)]) (rest := []) hx hb hml hown hts hl.1 hK (c_X0_passHours l D (r + 34) J1 tmp sn hrs.toNatClampNeg (by subst_vars; exact (hrI_copy hI hQ).1) (by have := hhh.2; omega)) (gaV qM_X6_139 qI_X0_passHours qS_X0_passHours qK_X0 qC_X0_passHours) hdv_X0_passHours ⟨Nat.le_of_ble_eq_true rfl, Nat.le_of_ble_eq_true rfl⟩ hG.ge (hG.ge.recvC hK) rfl (Nat.le_of_ble_eq_true rfl) ⟨Nat.le_of_ble_eq_true rfl, Nat.le_of_ble_eq_true rfl⟩ dX6_creditsIn_30 hS (fun q h => by unfold inG at h; unfold inS; omega) (fun H locs hG1 hz hq hS => ?_)
      have hG : Sn D r C (fP_X0_passHours J1 tmp sn hrs.toNatClampNeg) G n Y X U Z F H := Sn.setE hG hG1 hq
      generalize eJ2 : fP_X0_passHours J1 tmp sn hrs.toNatClampNeg = J2 at hG
      subst eJ2
      subst eJ1
      have hG9 : Sn D r C (fJ_X6_creditsIn C J tmp sn hrs) G n Y X U Z F H := by
        unfold fJ_X6_creditsIn; (try dsimp only); (try rw [if_pos hc2, if_pos hc9])
        exact hG
      refine vx_ret (W.widen (k := 3) (n := 18) (by omega) (by omega) ?_)
      exact W.iret hx hb hr (fun t ht hW => xQi_of (by unfold fE_X6_creditsIn; (try dsimp only); (try rw [if_pos hc2, if_pos hc9]); (try rfl)) (by unfold fR_X6_creditsIn; (try dsimp only); (try rw [if_pos hc2, if_pos hc9]); (try rfl)) hG9 hS ht) hS.2.2 dX6_creditsIn_33
theorem hdv_X6_bestExchange : yX6_bestExchange.cls = RX6 ∧ yX6_bestExchange.cls ≠ "java/lang/invoke/MethodHandle" ∧ yX6_bestExchange.cls ≠ "java/lang/invoke/VarHandle" ∧ (parseMethodDescriptor yX6_bestExchange.desc).map (fun d => d.parameters.length) = some 4 := by decide +kernel
def fJ_X6_bestExchange_L59 (C : Nat → Int32) (pl : Int32) (tmp : Int32) (sn : Int32) (hrs : Int32) : Nat → Int32 → Int32 → Nat → (Nat → Int32) → Nat → Int32
  | 0, least, best, j, Jl =>
    Jl
  | k + 1, least, best, j, Jl =>
    if (C (169 + 20 * pl.toNatClampNeg + 3)) - 1 ≤ nI j then
      Jl
    else
      if fR_X1_isBusyAtPair C pl.toNatClampNeg (nI j) = 0 then
        let J4 := fP_X0_copyFrom Jl C
        let J5 := fP_X1_swapWithNext J4 pl.toNatClampNeg j
        let J6 := fP_X0_passHours J5 tmp sn hrs.toNatClampNeg
        let x7 := fR_X0_passHours J5 tmp sn hrs.toNatClampNeg
        if least ≤ x7 then
          fJ_X6_bestExchange_L59 C pl tmp sn hrs k least best (j + 1) J6
        else
          fJ_X6_bestExchange_L59 C pl tmp sn hrs k x7 (nI j) (j + 1) J6
      else
        fJ_X6_bestExchange_L59 C pl tmp sn hrs k least best (j + 1) Jl
def fR_X6_bestExchange_L59 (C : Nat → Int32) (pl : Int32) (tmp : Int32) (sn : Int32) (hrs : Int32) : Nat → Int32 → Int32 → Nat → (Nat → Int32) → Int32
  | 0, least, best, j, Jl =>
    best
  | k + 1, least, best, j, Jl =>
    if (C (169 + 20 * pl.toNatClampNeg + 3)) - 1 ≤ nI j then
      best
    else
      if fR_X1_isBusyAtPair C pl.toNatClampNeg (nI j) = 0 then
        let J4 := fP_X0_copyFrom Jl C
        let J5 := fP_X1_swapWithNext J4 pl.toNatClampNeg j
        let J6 := fP_X0_passHours J5 tmp sn hrs.toNatClampNeg
        let x7 := fR_X0_passHours J5 tmp sn hrs.toNatClampNeg
        if least ≤ x7 then
          fR_X6_bestExchange_L59 C pl tmp sn hrs k least best (j + 1) J6
        else
          fR_X6_bestExchange_L59 C pl tmp sn hrs k x7 (nI j) (j + 1) J6
      else
        fR_X6_bestExchange_L59 C pl tmp sn hrs k least best (j + 1) Jl
def fE_X6_bestExchange_L59 (C : Nat → Int32) (pl : Int32) (tmp : Int32) (sn : Int32) (hrs : Int32) : Nat → Int32 → Int32 → Nat → (Nat → Int32) → Nat
  | 0, least, best, j, Jl =>
    0
  | k + 1, least, best, j, Jl =>
    if (C (169 + 20 * pl.toNatClampNeg + 3)) - 1 ≤ nI j then
      0
    else
      if fR_X1_isBusyAtPair C pl.toNatClampNeg (nI j) = 0 then
        let J4 := fP_X0_copyFrom Jl C
        let J5 := fP_X1_swapWithNext J4 pl.toNatClampNeg j
        let J6 := fP_X0_passHours J5 tmp sn hrs.toNatClampNeg
        let x7 := fR_X0_passHours J5 tmp sn hrs.toNatClampNeg
        if least ≤ x7 then
          fE_X6_bestExchange_L59 C pl tmp sn hrs k least best (j + 1) J6
        else
          fE_X6_bestExchange_L59 C pl tmp sn hrs k x7 (nI j) (j + 1) J6
      else
        fE_X6_bestExchange_L59 C pl tmp sn hrs k least best (j + 1) Jl
def fJ_X6_bestExchange (C : Nat → Int32) (J : Nat → Int32) (pl : Int32) (tmp : Int32) (sn : Int32) (hrs : Int32) : Nat → Int32 :=
  if fE_X6_checkPlow C pl = 0 then
    if fE_X6_checkWeather tmp sn = 0 then
      if fE_X6_checkArgument hrs 0 50 = 0 then
        let J1 := fP_X0_copyFrom J C
        let J2 := fP_X0_passHours J1 tmp sn hrs.toNatClampNeg
        let x3 := fR_X0_passHours J1 tmp sn hrs.toNatClampNeg
        fJ_X6_bestExchange_L59 C pl tmp sn hrs 12 x3 (-1) 0 J2
      else
        J
    else
      J
  else
    J
def fR_X6_bestExchange (C : Nat → Int32) (J : Nat → Int32) (pl : Int32) (tmp : Int32) (sn : Int32) (hrs : Int32) : Int32 :=
  if fE_X6_checkPlow C pl = 0 then
    if fE_X6_checkWeather tmp sn = 0 then
      if fE_X6_checkArgument hrs 0 50 = 0 then
        let J1 := fP_X0_copyFrom J C
        let J2 := fP_X0_passHours J1 tmp sn hrs.toNatClampNeg
        let x3 := fR_X0_passHours J1 tmp sn hrs.toNatClampNeg
        fR_X6_bestExchange_L59 C pl tmp sn hrs 12 x3 (-1) 0 J2
      else
        0
    else
      0
  else
    0
def fE_X6_bestExchange (C : Nat → Int32) (J : Nat → Int32) (pl : Int32) (tmp : Int32) (sn : Int32) (hrs : Int32) : Nat :=
  if fE_X6_checkPlow C pl = 0 then
    if fE_X6_checkWeather tmp sn = 0 then
      if fE_X6_checkArgument hrs 0 50 = 0 then
        let J1 := fP_X0_copyFrom J C
        let J2 := fP_X0_passHours J1 tmp sn hrs.toNatClampNeg
        let x3 := fR_X0_passHours J1 tmp sn hrs.toNatClampNeg
        fE_X6_bestExchange_L59 C pl tmp sn hrs 12 x3 (-1) 0 J2
      else
        fE_X6_checkArgument hrs 0 50
    else
      fE_X6_checkWeather tmp sn
  else
    fE_X6_checkPlow C pl
set_option maxHeartbeats 4000000 in
set_option maxRecDepth 100000 in
theorem c_X6_bestExchange (l : Launch) (hl0 : l.stackTraces = false) (D : va_G) (r : Nat) (C J : Nat → Int32) (G : Nat → Nat → Int32) (n : Nat) (Y X U Z F : Nat → Int32) (pl : Int32) (tmp : Int32) (sn : Int32) (hrs : Int32) (hI : hrI (ns C) (np C) (nc C) C) (hQ : ∀ q, q < np C → okQ C q) : vx_Met l yX6_bestExchange (wA yX6_bestExchange cX6_bestExchange 10 (some .int)) (rmX 8 4 24) (xPc D r [.ref r, .int pl, .int tmp, .int sn, .int hrs] (fun H => Sn D r C J G n Y X U Z F H)) (xQi (inS r) (fE_X6_bestExchange C J pl tmp sn hrs) (fR_X6_bestExchange C J pl tmp sn hrs) (fun H => Sn D r C (fJ_X6_bestExchange C J pl tmp sn hrs) G n Y X U Z F H)) (xX (inS r) (fE_X6_bestExchange C J pl tmp sn hrs) (fun H => Sn D r C (fJ_X6_bestExchange C J pl tmp sn hrs) G n Y X U Z F H)) 4 24 (inS r) := by
  refine vx_ofW (cc := cX6_bestExchange) (maxL := 10) (ret := (some .int)) (by decide) rfl ?_
  intro p e s m args below meth c s₁ B hml hex hv
  obtain ⟨hav, hG, hK, hKx⟩ := hv
  have hr0 : ∀ q, inS r q → r ≤ q := fun q h => h.1
  have hx := B.exec
  have hb := B.bytes
  have hr := B.returns
  have hts0 := atoms_spec (ws := wA yX6_bestExchange cX6_bestExchange 10 (some .int)) B.pre
  have hts : ∀ w ∈ AW, w.before _ s = true := fun w h => hts0 w (List.mem_cons_of_mem _ h)
  have hown : s.vm.findClass RX6 = some m.cls := findClass_of_methodNamed B.named
  have hlocks := B.notSynchronized
  have hA : ∀ q, (inS r) q → (inS r) q := fun _ h => h
  have hS : va_S (inS r) s.heap s.heap [] := va_S.rf
  have hG : Sn D r C J G n Y X U Z F s.heap := hG
  have hl := lv_entry ([.ref r, .int pl, .int tmp, .int sn, .int hrs]) (n := 10) (Nat.le_of_ble_eq_true rfl)
  refine W.eq (g2 := entryFrame m ([.ref r, .int pl, .int tmp, .int sn, .int hrs] : List Value).toArray 10) (by rw [hav]) ?_
  rw [lg_entry_eq]
  generalize (lg_sl ([.ref r, .int pl, .int tmp, .int sn, .int hrs]) ++ List.replicate (10 - (lg_sl ([.ref r, .int pl, .int tmp, .int sn, .int hrs])).length) Slot.unset).toArray = ls at hl ⊢
  have hl : lv_has ls 10 [(0, .ref r), (1, .int pl), (2, .int tmp), (3, .int sn), (4, .int hrs)] := hl
  have hN := hI.1.1
  have L59 : ∀ (k : Nat) (least : Int32) (best : Int32) (j : Nat) (Jl : Nat → Int32) (H : Heap) (locs : List Loc) (ls : Array Slot) (hpl : pl = nI pl.toNatClampNeg ∧ pl.toNatClampNeg < np C) (hp3 : pl.toNatClampNeg < 3) (hhh : hrs = nI hrs.toNatClampNeg ∧ hrs.toNatClampNeg ≤ 50) (hq9 : okQ C pl.toNatClampNeg) (hj : j + k = 12) (hfJ : fJ_X6_bestExchange C J pl tmp sn hrs = fJ_X6_bestExchange_L59 C pl tmp sn hrs k least best j Jl) (hfR : fR_X6_bestExchange C J pl tmp sn hrs = fR_X6_bestExchange_L59 C pl tmp sn hrs k least best j Jl) (hfE : fE_X6_bestExchange C J pl tmp sn hrs = fE_X6_bestExchange_L59 C pl tmp sn hrs k least best j Jl) (hG : Sn D r C Jl G n Y X U Z F H) (hS : va_S (inS r) s.heap H locs) (hl : lv_has ls 10 [(0, .ref r), (1, .int pl), (2, .int tmp), (3, .int sn), (4, .int hrs), (5, .ref (r + 1 + 24 + 2 * pl.toNatClampNeg)), (6, .int least), (7, .int best), (8, .int (nI j))]), W p l e (headSpec (wA yX6_bestExchange cX6_bestExchange 10 (some .int)) (rmX 8 4 24)).room s m args below meth c H locs 4 24 (vx_MQ below (xQi (inS r) (fE_X6_bestExchange C J pl tmp sn hrs) (fR_X6_bestExchange C J pl tmp sn hrs) (fun H => Sn D r C (fJ_X6_bestExchange C J pl tmp sn hrs) G n Y X U Z F H)) (xX (inS r) (fE_X6_bestExchange C J pl tmp sn hrs) (fun H => Sn D r C (fJ_X6_bestExchange C J pl tmp sn hrs) G n Y X U Z F H)) args s 4 24 (inS r)) (F0 m 59 ls []) := by
    intro k
    induction k with
    | zero =>
      intro least best j Jl H locs ls hpl hp3 hhh hq9 hj hfJ hfR hfE hG hS hl
      refine lv_iload hx hb dX6_bestExchange_59 (lv_at hl 8 rfl) ?_
      refine lv_aload hx hb dX6_bestExchange_61 (lv_at hl 5 rfl) ?_
      refine getP 4 3 (i := pl.toNatClampNeg) rfl hx hb hts hown hK hG.gc (by omega) (by decide) (by decide) qF_X6_81 rfl dX6_bestExchange_63 ?_
      refine lv_iconst (v := 1) hx hb dX6_bestExchange_66 (by decide) ?_
      refine lv_isub hx hb dX6_bestExchange_67 ?_
      refine lv_icmp_ge (tgt := 140) hx hb dX6_bestExchange_68 (by decide) (fun c68 => ?_) (fun c68 => ?_)
      · refine lv_iload hx hb dX6_bestExchange_140 (lv_at hl 7 rfl) ?_
        have hG9 : Sn D r C (fJ_X6_bestExchange C J pl tmp sn hrs) G n Y X U Z F H := by
          rw [hfJ, fJ_X6_bestExchange_L59]; (try dsimp only)
          exact hG
        refine vx_ret (W.widen (k := 4) (n := 24) (by omega) (by omega) ?_)
        exact W.iret hx hb hr (fun t ht hW => xQi_of (by rw [hfE, fE_X6_bestExchange_L59]; (try dsimp only); (try rfl)) (by rw [hfR, fR_X6_bestExchange_L59]; (try dsimp only); (try rfl)) hG9 hS ht) hS.2.2 dX6_bestExchange_142
      · exact absurd (nc_gt hq9 (by omega) c68) (by have := hq9.2; omega)
    | succ k ih =>
      intro least best j Jl H locs ls hpl hp3 hhh hq9 hj hfJ hfR hfE hG hS hl
      refine lv_iload hx hb dX6_bestExchange_59 (lv_at hl 8 rfl) ?_
      refine lv_aload hx hb dX6_bestExchange_61 (lv_at hl 5 rfl) ?_
      refine getP 4 3 (i := pl.toNatClampNeg) rfl hx hb hts hown hK hG.gc (by omega) (by decide) (by decide) qF_X6_81 rfl dX6_bestExchange_63 ?_
      refine lv_iconst (v := 1) hx hb dX6_bestExchange_66 (by decide) ?_
      refine lv_isub hx hb dX6_bestExchange_67 ?_
      refine lv_icmp_ge (tgt := 140) hx hb dX6_bestExchange_68 (by decide) (fun c68 => ?_) (fun c68 => ?_)
      · refine lv_iload hx hb dX6_bestExchange_140 (lv_at hl 7 rfl) ?_
        have hG9 : Sn D r C (fJ_X6_bestExchange C J pl tmp sn hrs) G n Y X U Z F H := by
          rw [hfJ, fJ_X6_bestExchange_L59]; (try dsimp only); (try rw [if_pos c68])
          exact hG
        refine vx_ret (W.widen (k := 4) (n := 24) (by omega) (by omega) ?_)
        exact W.iret hx hb hr (fun t ht hW => xQi_of (by rw [hfE, fE_X6_bestExchange_L59]; (try dsimp only); (try rw [if_pos c68]); (try rfl)) (by rw [hfR, fR_X6_bestExchange_L59]; (try dsimp only); (try rw [if_pos c68]); (try rfl)) hG9 hS ht) hS.2.2 dX6_bestExchange_142
      · refine lv_aload hx hb dX6_bestExchange_71 (lv_at hl 5 rfl) ?_
        refine lv_iload hx hb dX6_bestExchange_73 (lv_at hl 8 rfl) ?_
        refine gcVi (As := [.int (nI j)]) (rest := []) hx hb hml hown hts hl.1 hK (c_X1_isBusyAtPair l D (r + 1) C pl.toNatClampNeg (nI j) hp3) (gaV qM_X6_97 qI_X1_isBusyAtPair qS_X1_isBusyAtPair qK_X1 qC_X1_isBusyAtPair) hdv_X1_isBusyAtPair ⟨Nat.le_of_ble_eq_true rfl, Nat.le_of_ble_eq_true rfl⟩ hG.gc (hG.gc.recvP hK (by omega)) rfl (Nat.le_of_ble_eq_true rfl) ⟨Nat.le_of_ble_eq_true rfl, Nat.le_of_ble_eq_true rfl⟩ dX6_bestExchange_75 hS (fun q h => by unfold inG at h; unfold inS; omega) (fun H locs hG1 hz hq hS => ?_)
        have hG : Sn D r C Jl G n Y X U Z F H := Sn.setC hG hG1 hq
        refine lv_if_ne (tgt := 134) hx hb dX6_bestExchange_78 (by decide) (fun c78 => ?_) (fun c78 => ?_)
        · refine lv_iinc (v := nI (j + 1)) (lv' := [(8, .int (nI (j + 1))), (0, .ref r), (1, .int pl), (2, .int tmp), (3, .int sn), (4, .int hrs), (5, .ref (r + 1 + 24 + 2 * pl.toNatClampNeg)), (6, .int least), (7, .int best)]) hx hb dX6_bestExchange_134 hl (k := 8) rfl (nI_add j 1) (by decide) rfl (fun ls hl => ?_)
          refine lv_goto (tgt := 59) hx hb dX6_bestExchange_137 (by decide) ?_
          exact ih _ _ (j + 1) _ _ _ _ hpl hp3 hhh hq9 (by first | assumption | omega) (by rw [hfJ, fJ_X6_bestExchange_L59]; (try dsimp only); (try rw [if_neg c68, if_neg c78]); (try rfl)) (by rw [hfR, fR_X6_bestExchange_L59]; (try dsimp only); (try rw [if_neg c68, if_neg c78]); (try rfl)) (by rw [hfE, fE_X6_bestExchange_L59]; (try dsimp only); (try rw [if_neg c68, if_neg c78]); (try rfl)) hG hS (lv_sub hl [1, 2, 3, 4, 5, 6, 7, 8, 0] rfl)
        · refine lv_aload_n hx hb dX6_bestExchange_81 rfl (lv_at hl 0 rfl) ?_
          refine getQe hx hb hts hown hK hG qF_X6_16 dX6_bestExchange_82 ?_
          refine lv_aload_n hx hb dX6_bestExchange_85 rfl (lv_at hl 0 rfl) ?_
          refine getQc hx hb hts hown hK hG qF_X6_10 dX6_bestExchange_86 ?_
          refine gcVv (As := [.ref (r + 1)]) (rest := []) hx hb hml hown hts hl.1 hK (c_X0_copyFrom l D (r + 34) (r + 1) Jl C (by unfold apart; omega) hN) (gaV qM_X6_159 qI_X0_copyFrom qS_X0_copyFrom qK_X0 qC_X0_copyFrom) hdv_X0_copyFrom ⟨Nat.le_of_ble_eq_true rfl, Nat.le_of_ble_eq_true rfl⟩ ⟨hG.ge, hG.gc⟩ (hG.ge.recvC hK) rfl (Nat.le_of_ble_eq_true rfl) ⟨Nat.le_of_ble_eq_true rfl, Nat.le_of_ble_eq_true rfl⟩ dX6_bestExchange_89 hS (fun q h => by unfold inG at h; unfold inS; omega) (fun H locs hG1 hz hq hS => ?_)
          have hG : Sn D r C (fP_X0_copyFrom Jl C) G n Y X U Z F H := Sn.setE hG hG1.1 hq
          generalize eJ4 : fP_X0_copyFrom Jl C = J4 at hG
          refine lv_aload_n hx hb dX6_bestExchange_92 rfl (lv_at hl 0 rfl) ?_
          refine getQe hx hb hts hown hK hG qF_X6_16 dX6_bestExchange_93 ?_
          refine getCp hx hb hts hown hK hG.ge qF_X6_67 dX6_bestExchange_96 ?_
          refine lv_iload_n hx hb dX6_bestExchange_99 rfl (lv_at hl 1 rfl) ?_
          refine topN (n := pl.toNatClampNeg) hpl.1 ?_
          refine aldP (i := pl.toNatClampNeg) hx hb hK hG.ge hp3 dX6_bestExchange_100 ?_
          refine lv_iload hx hb dX6_bestExchange_101 (lv_at hl 8 rfl) ?_
          refine gcVv (As := [.int (nI j)]) (rest := []) hx hb hml hown hts hl.1 hK (c_X1_swapWithNext l D (r + 34) J4 pl.toNatClampNeg j hp3 (by have := nc_gt hq9 (by omega) c68; have := hq9.2; omega)) (gaV qM_X6_103 qI_X1_swapWithNext qS_X1_swapWithNext qK_X1 qC_X1_swapWithNext) hdv_X1_swapWithNext ⟨Nat.le_of_ble_eq_true rfl, Nat.le_of_ble_eq_true rfl⟩ hG.ge (hG.ge.recvP hK (by omega)) rfl (Nat.le_of_ble_eq_true rfl) ⟨Nat.le_of_ble_eq_true rfl, Nat.le_of_ble_eq_true rfl⟩ dX6_bestExchange_103 hS (fun q h => by unfold inG at h; unfold inS; omega) (fun H locs hG1 hz hq hS => ?_)
          have hG : Sn D r C (fP_X1_swapWithNext J4 pl.toNatClampNeg j) G n Y X U Z F H := Sn.setE hG hG1 hq
          generalize eJ5 : fP_X1_swapWithNext J4 pl.toNatClampNeg j = J5 at hG
          refine lv_aload_n hx hb dX6_bestExchange_106 rfl (lv_at hl 0 rfl) ?_
          refine getQe hx hb hts hown hK hG qF_X6_16 dX6_bestExchange_107 ?_
          refine lv_iload_n hx hb dX6_bestExchange_110 rfl (lv_at hl 2 rfl) ?_
          refine lv_iload_n hx hb dX6_bestExchange_111 rfl (lv_at hl 3 rfl) ?_
          refine lv_iload hx hb dX6_bestExchange_112 (lv_at hl 4 rfl) ?_
          refine topN (n := hrs.toNatClampNeg) hhh.1 ?_
          refine gcVi (As := [.int tmp, .int sn, .int (nI hrs.toNatClampNeg)]) (rest := []) hx hb hml hown hts hl.1 hK (c_X0_passHours l D (r + 34) J5 tmp sn hrs.toNatClampNeg (by subst_vars; exact WF_swapE hI hQ hpl.2 (nc_gt hq9 (by omega) c68)) (by have := hhh.2; omega)) (gaV qM_X6_139 qI_X0_passHours qS_X0_passHours qK_X0 qC_X0_passHours) hdv_X0_passHours ⟨Nat.le_of_ble_eq_true rfl, Nat.le_of_ble_eq_true rfl⟩ hG.ge (hG.ge.recvC hK) rfl (Nat.le_of_ble_eq_true rfl) ⟨Nat.le_of_ble_eq_true rfl, Nat.le_of_ble_eq_true rfl⟩ dX6_bestExchange_114 hS (fun q h => by unfold inG at h; unfold inS; omega) (fun H locs hG1 hz hq hS => ?_)
          have hG : Sn D r C (fP_X0_passHours J5 tmp sn hrs.toNatClampNeg) G n Y X U Z F H := Sn.setE hG hG1 hq
          generalize eJ6 : fP_X0_passHours J5 tmp sn hrs.toNatClampNeg = J6 at hG
          refine lv_topi (fun x7 ex7 => ?_)
          refine lv_istore (lv' := [(9, .int x7), (0, .ref r), (1, .int pl), (2, .int tmp), (3, .int sn), (4, .int hrs), (5, .ref (r + 1 + 24 + 2 * pl.toNatClampNeg)), (6, .int least), (7, .int best), (8, .int (nI j))]) hx hb dX6_bestExchange_117 hl (by decide) rfl (fun ls hl => ?_)
          refine lv_iload hx hb dX6_bestExchange_119 (lv_at hl 0 rfl) ?_
          refine lv_iload hx hb dX6_bestExchange_121 (lv_at hl 7 rfl) ?_
          refine lv_icmp_ge (tgt := 134) hx hb dX6_bestExchange_123 (by decide) (fun c123 => ?_) (fun c123 => ?_)
          · refine lv_iinc (v := nI (j + 1)) (lv' := [(8, .int (nI (j + 1))), (9, .int x7), (0, .ref r), (1, .int pl), (2, .int tmp), (3, .int sn), (4, .int hrs), (5, .ref (r + 1 + 24 + 2 * pl.toNatClampNeg)), (6, .int least), (7, .int best)]) hx hb dX6_bestExchange_134 hl (k := 9) rfl (nI_add j 1) (by decide) rfl (fun ls hl => ?_)
            refine lv_goto (tgt := 59) hx hb dX6_bestExchange_137 (by decide) ?_
            subst ex7
            subst eJ6
            subst eJ5
            subst eJ4
            exact ih _ _ (j + 1) _ _ _ _ hpl hp3 hhh hq9 (by first | assumption | omega) (by rw [hfJ, fJ_X6_bestExchange_L59]; (try dsimp only); (try rw [if_neg c68, if_pos c78, if_pos c123]); (try rfl)) (by rw [hfR, fR_X6_bestExchange_L59]; (try dsimp only); (try rw [if_neg c68, if_pos c78, if_pos c123]); (try rfl)) (by rw [hfE, fE_X6_bestExchange_L59]; (try dsimp only); (try rw [if_neg c68, if_pos c78, if_pos c123]); (try rfl)) hG hS (lv_sub hl [2, 3, 4, 5, 6, 7, 8, 9, 0] rfl)
          · refine lv_iload hx hb dX6_bestExchange_126 (lv_at hl 0 rfl) ?_
            refine lv_istore (lv' := [(6, .int x7), (9, .int x7), (0, .ref r), (1, .int pl), (2, .int tmp), (3, .int sn), (4, .int hrs), (5, .ref (r + 1 + 24 + 2 * pl.toNatClampNeg)), (7, .int best), (8, .int (nI j))]) hx hb dX6_bestExchange_128 hl (by decide) rfl (fun ls hl => ?_)
            refine lv_iload hx hb dX6_bestExchange_130 (lv_at hl 9 rfl) ?_
            refine lv_istore (lv' := [(7, .int (nI j)), (6, .int x7), (9, .int x7), (0, .ref r), (1, .int pl), (2, .int tmp), (3, .int sn), (4, .int hrs), (5, .ref (r + 1 + 24 + 2 * pl.toNatClampNeg)), (8, .int (nI j))]) hx hb dX6_bestExchange_132 hl (by decide) rfl (fun ls hl => ?_)
            refine lv_iinc (v := nI (j + 1)) (lv' := [(8, .int (nI (j + 1))), (7, .int (nI j)), (6, .int x7), (9, .int x7), (0, .ref r), (1, .int pl), (2, .int tmp), (3, .int sn), (4, .int hrs), (5, .ref (r + 1 + 24 + 2 * pl.toNatClampNeg))]) hx hb dX6_bestExchange_134 hl (k := 9) rfl (nI_add j 1) (by decide) rfl (fun ls hl => ?_)
            refine lv_goto (tgt := 59) hx hb dX6_bestExchange_137 (by decide) ?_
            subst ex7
            subst eJ6
            subst eJ5
            subst eJ4
            exact ih _ _ (j + 1) _ _ _ _ hpl hp3 hhh hq9 (by first | assumption | omega) (by rw [hfJ, fJ_X6_bestExchange_L59]; (try dsimp only); (try rw [if_neg c68, if_pos c78, if_neg c123]); (try rfl)) (by rw [hfR, fR_X6_bestExchange_L59]; (try dsimp only); (try rw [if_neg c68, if_pos c78, if_neg c123]); (try rfl)) (by rw [hfE, fE_X6_bestExchange_L59]; (try dsimp only); (try rw [if_neg c68, if_pos c78, if_neg c123]); (try rfl)) hG hS (lv_sub hl [4, 5, 6, 7, 8, 9, 2, 1, 0] rfl)
  refine lv_aload_n hx hb dX6_bestExchange_0 rfl (lv_at hl 0 rfl) ?_
  refine lv_iload_n hx hb dX6_bestExchange_1 rfl (lv_at hl 1 rfl) ?_
  refine xcVv (As := [.int pl]) (rest := []) hx hb hml hown hts hl.1 hK hKx hr0 (c_X6_checkPlow l hl0 D r C J G n Y X U Z F pl) (gaV qM_X6_74 qI_X6_checkPlow qS_X6_checkPlow qK_X6 qC_X6_checkPlow) hdv_X6_checkPlow ⟨Nat.le_of_ble_eq_true rfl, Nat.le_of_ble_eq_true rfl⟩ hG (Sn.recv hK hG) rfl (Nat.le_of_ble_eq_true rfl) ⟨Nat.le_of_ble_eq_true rfl, Nat.le_of_ble_eq_true rfl⟩ dX6_bestExchange_2 hS hA (fun ce q9 H locs hcx hG hz hq hS hce hv hcl => ?_) (fun H locs hc2 hG hz hq hS => ?_)
  · have hG : Sn D r C J G n Y X U Z F H := hG
    obtain ⟨kx, hkx⟩ : ∃ k : Nat, k = fE_X6_checkPlow C pl := ⟨_, rfl⟩
    have hG9 : Sn D r C (fJ_X6_bestExchange C J pl tmp sn hrs) G n Y X U Z F H := by
      unfold fJ_X6_bestExchange; (try dsimp only); (try rw [if_neg hcx])
      exact hG
    have hE : fE_X6_bestExchange C J pl tmp sn hrs = kx := by rw [hkx]; unfold fE_X6_bestExchange; (try dsimp only); (try rw [if_neg hcx]); (try rfl)
    exact xout hex hlocks hS (by rw [hE, hkx]; exact hcx) hG9 hce hv (hkx.symm.trans hE.symm) hcl (by omega) (by omega)
  have hG : Sn D r C J G n Y X U Z F H := hG
  · have hpl := cP_n hN hc2
    have hn3 := hN.2.2.2
    have hp3 : pl.toNatClampNeg < 3 := by have := hpl.2; omega
    refine lv_iload_n hx hb dX6_bestExchange_5 rfl (lv_at hl 2 rfl) ?_
    refine lv_iload_n hx hb dX6_bestExchange_6 rfl (lv_at hl 3 rfl) ?_
    refine xcSv (As := [.int tmp, .int sn]) (rest := []) hx hb hml hown hts hl.1 hK hKx hr0 (c_X6_checkWeather l hl0 D r C J G n Y X U Z F tmp sn) (gaS qM_X6_133 qT_X6_checkWeather qK_X6 qC_X6_checkWeather) hds_X6_checkWeather ⟨Nat.le_of_ble_eq_true rfl, Nat.le_of_ble_eq_true rfl⟩ hG rfl (Nat.le_of_ble_eq_true rfl) ⟨Nat.le_of_ble_eq_true rfl, Nat.le_of_ble_eq_true rfl⟩ dX6_bestExchange_7 hS hA (fun ce q9 H locs hcx hG hz hq hS hce hv hcl => ?_) (fun H locs hc7 hG hz hq hS => ?_)
    · have hG : Sn D r C J G n Y X U Z F H := hG
      obtain ⟨kx, hkx⟩ : ∃ k : Nat, k = fE_X6_checkWeather tmp sn := ⟨_, rfl⟩
      have hG9 : Sn D r C (fJ_X6_bestExchange C J pl tmp sn hrs) G n Y X U Z F H := by
        unfold fJ_X6_bestExchange; (try dsimp only); (try rw [if_pos hc2, if_neg hcx])
        exact hG
      have hE : fE_X6_bestExchange C J pl tmp sn hrs = kx := by rw [hkx]; unfold fE_X6_bestExchange; (try dsimp only); (try rw [if_pos hc2, if_neg hcx]); (try rfl)
      exact xout hex hlocks hS (by rw [hE, hkx]; exact hcx) hG9 hce hv (hkx.symm.trans hE.symm) hcl (by omega) (by omega)
    have hG : Sn D r C J G n Y X U Z F H := hG
    · refine lv_iload hx hb dX6_bestExchange_10 (lv_at hl 4 rfl) ?_
      refine lv_iconst (v := 0) hx hb dX6_bestExchange_12 (by decide) ?_
      refine lv_bipush (v := 50) hx hb dX6_bestExchange_13 (by decide) ?_
      refine xcSv (As := [.int hrs, .int 0, .int 50]) (rest := []) hx hb hml hown hts hl.1 hK hKx hr0 (c_X6_checkArgument l hl0 D r C J G n Y X U Z F hrs 0 50) (gaS qM_X6_33 qT_X6_checkArgument qK_X6 qC_X6_checkArgument) hds_X6_checkArgument ⟨Nat.le_of_ble_eq_true rfl, Nat.le_of_ble_eq_true rfl⟩ hG rfl (Nat.le_of_ble_eq_true rfl) ⟨Nat.le_of_ble_eq_true rfl, Nat.le_of_ble_eq_true rfl⟩ dX6_bestExchange_15 hS hA (fun ce q9 H locs hcx hG hz hq hS hce hv hcl => ?_) (fun H locs hc15 hG hz hq hS => ?_)
      · have hG : Sn D r C J G n Y X U Z F H := hG
        obtain ⟨kx, hkx⟩ : ∃ k : Nat, k = fE_X6_checkArgument hrs 0 50 := ⟨_, rfl⟩
        have hG9 : Sn D r C (fJ_X6_bestExchange C J pl tmp sn hrs) G n Y X U Z F H := by
          unfold fJ_X6_bestExchange; (try dsimp only); (try rw [if_pos hc2, if_pos hc7, if_neg hcx])
          exact hG
        have hE : fE_X6_bestExchange C J pl tmp sn hrs = kx := by rw [hkx]; unfold fE_X6_bestExchange; (try dsimp only); (try rw [if_pos hc2, if_pos hc7, if_neg hcx]); (try rfl)
        exact xout hex hlocks hS (by rw [hE, hkx]; exact hcx) hG9 hce hv (hkx.symm.trans hE.symm) hcl (by omega) (by omega)
      have hG : Sn D r C J G n Y X U Z F H := hG
      · have hhh := (in_n (n := 50) (by decide) (cA_0 hc15))
        have hq9 := hQ _ hpl.2
        refine lv_aload_n hx hb dX6_bestExchange_18 rfl (lv_at hl 0 rfl) ?_
        refine getQc hx hb hts hown hK hG qF_X6_10 dX6_bestExchange_19 ?_
        refine getCp hx hb hts hown hK hG.gc qF_X6_67 dX6_bestExchange_22 ?_
        refine lv_iload_n hx hb dX6_bestExchange_25 rfl (lv_at hl 1 rfl) ?_
        refine topN (n := pl.toNatClampNeg) hpl.1 ?_
        refine aldP (i := pl.toNatClampNeg) hx hb hK hG.gc (by omega) dX6_bestExchange_26 ?_
        refine lv_astore (lv' := [(5, .ref (r + 1 + 24 + 2 * pl.toNatClampNeg)), (0, .ref r), (1, .int pl), (2, .int tmp), (3, .int sn), (4, .int hrs)]) hx hb dX6_bestExchange_27 hl (by decide) rfl (fun ls hl => ?_)
        refine lv_aload_n hx hb dX6_bestExchange_29 rfl (lv_at hl 1 rfl) ?_
        refine getQe hx hb hts hown hK hG qF_X6_16 dX6_bestExchange_30 ?_
        refine lv_aload_n hx hb dX6_bestExchange_33 rfl (lv_at hl 1 rfl) ?_
        refine getQc hx hb hts hown hK hG qF_X6_10 dX6_bestExchange_34 ?_
        refine gcVv (As := [.ref (r + 1)]) (rest := []) hx hb hml hown hts hl.1 hK (c_X0_copyFrom l D (r + 34) (r + 1) J C (by unfold apart; omega) hN) (gaV qM_X6_159 qI_X0_copyFrom qS_X0_copyFrom qK_X0 qC_X0_copyFrom) hdv_X0_copyFrom ⟨Nat.le_of_ble_eq_true rfl, Nat.le_of_ble_eq_true rfl⟩ ⟨hG.ge, hG.gc⟩ (hG.ge.recvC hK) rfl (Nat.le_of_ble_eq_true rfl) ⟨Nat.le_of_ble_eq_true rfl, Nat.le_of_ble_eq_true rfl⟩ dX6_bestExchange_37 hS (fun q h => by unfold inG at h; unfold inS; omega) (fun H locs hG1 hz hq hS => ?_)
        have hG : Sn D r C (fP_X0_copyFrom J C) G n Y X U Z F H := Sn.setE hG hG1.1 hq
        generalize eJ1 : fP_X0_copyFrom J C = J1 at hG
        refine lv_aload_n hx hb dX6_bestExchange_40 rfl (lv_at hl 1 rfl) ?_
        refine getQe hx hb hts hown hK hG qF_X6_16 dX6_bestExchange_41 ?_
        refine lv_iload_n hx hb dX6_bestExchange_44 rfl (lv_at hl 3 rfl) ?_
        refine lv_iload_n hx hb dX6_bestExchange_45 rfl (lv_at hl 4 rfl) ?_
        refine lv_iload hx hb dX6_bestExchange_46 (lv_at hl 5 rfl) ?_
        refine topN (n := hrs.toNatClampNeg) hhh.1 ?_
        refine gcVi (As := [.int tmp, .int sn, .int (nI hrs.toNatClampNeg)]) (rest := []) hx hb hml hown hts hl.1 hK (c_X0_passHours l D (r + 34) J1 tmp sn hrs.toNatClampNeg (by subst_vars; exact (hrI_copy hI hQ).1) (by have := hhh.2; omega)) (gaV qM_X6_139 qI_X0_passHours qS_X0_passHours qK_X0 qC_X0_passHours) hdv_X0_passHours ⟨Nat.le_of_ble_eq_true rfl, Nat.le_of_ble_eq_true rfl⟩ hG.ge (hG.ge.recvC hK) rfl (Nat.le_of_ble_eq_true rfl) ⟨Nat.le_of_ble_eq_true rfl, Nat.le_of_ble_eq_true rfl⟩ dX6_bestExchange_48 hS (fun q h => by unfold inG at h; unfold inS; omega) (fun H locs hG1 hz hq hS => ?_)
        have hG : Sn D r C (fP_X0_passHours J1 tmp sn hrs.toNatClampNeg) G n Y X U Z F H := Sn.setE hG hG1 hq
        generalize eJ2 : fP_X0_passHours J1 tmp sn hrs.toNatClampNeg = J2 at hG
        refine lv_topi (fun x3 ex3 => ?_)
        refine lv_istore (lv' := [(6, .int x3), (5, .ref (r + 1 + 24 + 2 * pl.toNatClampNeg)), (0, .ref r), (1, .int pl), (2, .int tmp), (3, .int sn), (4, .int hrs)]) hx hb dX6_bestExchange_51 hl (by decide) rfl (fun ls hl => ?_)
        refine lv_iconst (v := (-1)) hx hb dX6_bestExchange_53 (by decide) ?_
        refine lv_istore (lv' := [(7, .int (-1)), (6, .int x3), (5, .ref (r + 1 + 24 + 2 * pl.toNatClampNeg)), (0, .ref r), (1, .int pl), (2, .int tmp), (3, .int sn), (4, .int hrs)]) hx hb dX6_bestExchange_54 hl (by decide) rfl (fun ls hl => ?_)
        refine lv_iconst (v := 0) hx hb dX6_bestExchange_56 (by decide) ?_
        refine lv_istore (lv' := [(8, .int 0), (7, .int (-1)), (6, .int x3), (5, .ref (r + 1 + 24 + 2 * pl.toNatClampNeg)), (0, .ref r), (1, .int pl), (2, .int tmp), (3, .int sn), (4, .int hrs)]) hx hb dX6_bestExchange_57 hl (by decide) rfl (fun ls hl => ?_)
        subst ex3
        subst eJ2
        subst eJ1
        refine W.widen (k := 4) (n := 24) (by omega) (by omega) ?_
        exact L59 12 _ _ 0 _ _ _ _ hpl hp3 hhh hq9 (by first | assumption | omega) (by unfold fJ_X6_bestExchange; (try dsimp only); (try rw [if_pos hc2, if_pos hc7, if_pos hc15]); (try rfl)) (by unfold fR_X6_bestExchange; (try dsimp only); (try rw [if_pos hc2, if_pos hc7, if_pos hc15]); (try rfl)) (by unfold fE_X6_bestExchange; (try dsimp only); (try rw [if_pos hc2, if_pos hc7, if_pos hc15]); (try rfl)) hG hS (lv_sub hl [4, 5, 6, 7, 8, 3, 2, 1, 0] rfl)
theorem hdv_X6_leastSpeed : yX6_leastSpeed.cls = RX6 ∧ yX6_leastSpeed.cls ≠ "java/lang/invoke/MethodHandle" ∧ yX6_leastSpeed.cls ≠ "java/lang/invoke/VarHandle" ∧ (parseMethodDescriptor yX6_leastSpeed.desc).map (fun d => d.parameters.length) = some 4 := by decide +kernel
def fJ_X6_leastSpeed_L22 (C : Nat → Int32) (pl : Int32) (tmp : Int32) (sn : Int32) (hrs : Int32) : Nat → Nat → (Nat → Int32) → Nat → Int32
  | 0, spd, Jl =>
    Jl
  | k + 1, spd, Jl =>
    let J1 := fP_X0_copyFrom Jl C
    let J2 := upd J1 (169 + 20 * pl.toNatClampNeg + 0) (nI spd)
    let J3 := fP_X0_passesWithoutComplaint J2 tmp sn hrs.toNatClampNeg
    if fR_X0_passesWithoutComplaint J2 tmp sn hrs.toNatClampNeg = 0 then
      fJ_X6_leastSpeed_L22 C pl tmp sn hrs k (spd + 100) J3
    else
      J3
def fR_X6_leastSpeed_L22 (C : Nat → Int32) (pl : Int32) (tmp : Int32) (sn : Int32) (hrs : Int32) : Nat → Nat → (Nat → Int32) → Int32
  | 0, spd, Jl =>
    (-1)
  | k + 1, spd, Jl =>
    let J1 := fP_X0_copyFrom Jl C
    let J2 := upd J1 (169 + 20 * pl.toNatClampNeg + 0) (nI spd)
    let J3 := fP_X0_passesWithoutComplaint J2 tmp sn hrs.toNatClampNeg
    if fR_X0_passesWithoutComplaint J2 tmp sn hrs.toNatClampNeg = 0 then
      fR_X6_leastSpeed_L22 C pl tmp sn hrs k (spd + 100) J3
    else
      nI spd
def fE_X6_leastSpeed_L22 (C : Nat → Int32) (pl : Int32) (tmp : Int32) (sn : Int32) (hrs : Int32) : Nat → Nat → (Nat → Int32) → Nat
  | 0, spd, Jl =>
    0
  | k + 1, spd, Jl =>
    let J1 := fP_X0_copyFrom Jl C
    let J2 := upd J1 (169 + 20 * pl.toNatClampNeg + 0) (nI spd)
    let J3 := fP_X0_passesWithoutComplaint J2 tmp sn hrs.toNatClampNeg
    if fR_X0_passesWithoutComplaint J2 tmp sn hrs.toNatClampNeg = 0 then
      fE_X6_leastSpeed_L22 C pl tmp sn hrs k (spd + 100) J3
    else
      0
def fJ_X6_leastSpeed (C : Nat → Int32) (J : Nat → Int32) (pl : Int32) (tmp : Int32) (sn : Int32) (hrs : Int32) : Nat → Int32 :=
  if fE_X6_checkPlow C pl = 0 then
    if fE_X6_checkWeather tmp sn = 0 then
      if fE_X6_checkArgument hrs 0 50 = 0 then
        fJ_X6_leastSpeed_L22 C pl tmp sn hrs 50 100 J
      else
        J
    else
      J
  else
    J
def fR_X6_leastSpeed (C : Nat → Int32) (J : Nat → Int32) (pl : Int32) (tmp : Int32) (sn : Int32) (hrs : Int32) : Int32 :=
  if fE_X6_checkPlow C pl = 0 then
    if fE_X6_checkWeather tmp sn = 0 then
      if fE_X6_checkArgument hrs 0 50 = 0 then
        fR_X6_leastSpeed_L22 C pl tmp sn hrs 50 100 J
      else
        0
    else
      0
  else
    0
def fE_X6_leastSpeed (C : Nat → Int32) (J : Nat → Int32) (pl : Int32) (tmp : Int32) (sn : Int32) (hrs : Int32) : Nat :=
  if fE_X6_checkPlow C pl = 0 then
    if fE_X6_checkWeather tmp sn = 0 then
      if fE_X6_checkArgument hrs 0 50 = 0 then
        fE_X6_leastSpeed_L22 C pl tmp sn hrs 50 100 J
      else
        fE_X6_checkArgument hrs 0 50
    else
      fE_X6_checkWeather tmp sn
  else
    fE_X6_checkPlow C pl
set_option maxHeartbeats 4000000 in
set_option maxRecDepth 100000 in
theorem c_X6_leastSpeed (l : Launch) (hl0 : l.stackTraces = false) (D : va_G) (r : Nat) (C J : Nat → Int32) (G : Nat → Nat → Int32) (n : Nat) (Y X U Z F : Nat → Int32) (pl : Int32) (tmp : Int32) (sn : Int32) (hrs : Int32) (hI : hrI (ns C) (np C) (nc C) C) (hQ : ∀ q, q < np C → okQ C q) : vx_Met l yX6_leastSpeed (wA yX6_leastSpeed cX6_leastSpeed 6 (some .int)) (rmX 8 4 24) (xPc D r [.ref r, .int pl, .int tmp, .int sn, .int hrs] (fun H => Sn D r C J G n Y X U Z F H)) (xQi (inS r) (fE_X6_leastSpeed C J pl tmp sn hrs) (fR_X6_leastSpeed C J pl tmp sn hrs) (fun H => Sn D r C (fJ_X6_leastSpeed C J pl tmp sn hrs) G n Y X U Z F H)) (xX (inS r) (fE_X6_leastSpeed C J pl tmp sn hrs) (fun H => Sn D r C (fJ_X6_leastSpeed C J pl tmp sn hrs) G n Y X U Z F H)) 4 24 (inS r) := by
  refine vx_ofW (cc := cX6_leastSpeed) (maxL := 6) (ret := (some .int)) (by decide) rfl ?_
  intro p e s m args below meth c s₁ B hml hex hv
  obtain ⟨hav, hG, hK, hKx⟩ := hv
  have hr0 : ∀ q, inS r q → r ≤ q := fun q h => h.1
  have hx := B.exec
  have hb := B.bytes
  have hr := B.returns
  have hts0 := atoms_spec (ws := wA yX6_leastSpeed cX6_leastSpeed 6 (some .int)) B.pre
  have hts : ∀ w ∈ AW, w.before _ s = true := fun w h => hts0 w (List.mem_cons_of_mem _ h)
  have hown : s.vm.findClass RX6 = some m.cls := findClass_of_methodNamed B.named
  have hlocks := B.notSynchronized
  have hA : ∀ q, (inS r) q → (inS r) q := fun _ h => h
  have hS : va_S (inS r) s.heap s.heap [] := va_S.rf
  have hG : Sn D r C J G n Y X U Z F s.heap := hG
  have hl := lv_entry ([.ref r, .int pl, .int tmp, .int sn, .int hrs]) (n := 6) (Nat.le_of_ble_eq_true rfl)
  refine W.eq (g2 := entryFrame m ([.ref r, .int pl, .int tmp, .int sn, .int hrs] : List Value).toArray 6) (by rw [hav]) ?_
  rw [lg_entry_eq]
  generalize (lg_sl ([.ref r, .int pl, .int tmp, .int sn, .int hrs]) ++ List.replicate (6 - (lg_sl ([.ref r, .int pl, .int tmp, .int sn, .int hrs])).length) Slot.unset).toArray = ls at hl ⊢
  have hl : lv_has ls 6 [(0, .ref r), (1, .int pl), (2, .int tmp), (3, .int sn), (4, .int hrs)] := hl
  have hN := hI.1.1
  have L22 : ∀ (k : Nat) (spd : Nat) (Jl : Nat → Int32) (H : Heap) (locs : List Loc) (ls : Array Slot) (hpl : pl = nI pl.toNatClampNeg ∧ pl.toNatClampNeg < np C) (hp3 : pl.toNatClampNeg < 3) (hhh : hrs = nI hrs.toNatClampNeg ∧ hrs.toNatClampNeg ≤ 50) (hj : spd + 100 * k = 5100) (hfJ : fJ_X6_leastSpeed C J pl tmp sn hrs = fJ_X6_leastSpeed_L22 C pl tmp sn hrs k spd Jl) (hfR : fR_X6_leastSpeed C J pl tmp sn hrs = fR_X6_leastSpeed_L22 C pl tmp sn hrs k spd Jl) (hfE : fE_X6_leastSpeed C J pl tmp sn hrs = fE_X6_leastSpeed_L22 C pl tmp sn hrs k spd Jl) (hG : Sn D r C Jl G n Y X U Z F H) (hS : va_S (inS r) s.heap H locs) (hl : lv_has ls 6 [(0, .ref r), (1, .int pl), (2, .int tmp), (3, .int sn), (4, .int hrs), (5, .int (nI spd))]), W p l e (headSpec (wA yX6_leastSpeed cX6_leastSpeed 6 (some .int)) (rmX 8 4 24)).room s m args below meth c H locs 4 24 (vx_MQ below (xQi (inS r) (fE_X6_leastSpeed C J pl tmp sn hrs) (fR_X6_leastSpeed C J pl tmp sn hrs) (fun H => Sn D r C (fJ_X6_leastSpeed C J pl tmp sn hrs) G n Y X U Z F H)) (xX (inS r) (fE_X6_leastSpeed C J pl tmp sn hrs) (fun H => Sn D r C (fJ_X6_leastSpeed C J pl tmp sn hrs) G n Y X U Z F H)) args s 4 24 (inS r)) (F0 m 22 ls []) := by
    intro k
    induction k with
    | zero =>
      intro spd Jl H locs ls hpl hp3 hhh hj hfJ hfR hfE hG hS hl
      refine lv_iload hx hb dX6_leastSpeed_22 (lv_at hl 5 rfl) ?_
      refine lv_sipush (v := 5000) hx hb dX6_leastSpeed_24 (by decide) ?_
      refine lv_icmp_gt (tgt := 78) hx hb dX6_leastSpeed_27 (by decide) (fun c27 => ?_) (fun c27 => ?_)
      · have c27 : 5000 < spd := (nI_ltI (a := 5000) (b := spd) (by omega) (by omega)).mp c27
        refine lv_iconst (v := (-1)) hx hb dX6_leastSpeed_78 (by decide) ?_
        have hG9 : Sn D r C (fJ_X6_leastSpeed C J pl tmp sn hrs) G n Y X U Z F H := by
          rw [hfJ, fJ_X6_leastSpeed_L22]; (try dsimp only)
          exact hG
        refine vx_ret (W.widen (k := 4) (n := 24) (by omega) (by omega) ?_)
        exact W.iret hx hb hr (fun t ht hW => xQi_of (by rw [hfE, fE_X6_leastSpeed_L22]; (try dsimp only); (try rfl)) (by rw [hfR, fR_X6_leastSpeed_L22]; (try dsimp only); (try rfl)) hG9 hS ht) hS.2.2 dX6_leastSpeed_79
      · have c27 : ¬ 5000 < spd := fun h => c27 ((nI_ltI (a := 5000) (b := spd) (by omega) (by omega)).mpr h)
        exfalso; omega
    | succ k ih =>
      intro spd Jl H locs ls hpl hp3 hhh hj hfJ hfR hfE hG hS hl
      refine lv_iload hx hb dX6_leastSpeed_22 (lv_at hl 5 rfl) ?_
      refine lv_sipush (v := 5000) hx hb dX6_leastSpeed_24 (by decide) ?_
      refine lv_icmp_gt (tgt := 78) hx hb dX6_leastSpeed_27 (by decide) (fun c27 => ?_) (fun c27 => ?_)
      · have c27 : 5000 < spd := (nI_ltI (a := 5000) (b := spd) (by omega) (by omega)).mp c27
        exfalso; omega
      · have c27 : ¬ 5000 < spd := fun h => c27 ((nI_ltI (a := 5000) (b := spd) (by omega) (by omega)).mpr h)
        refine lv_aload_n hx hb dX6_leastSpeed_30 rfl (lv_at hl 0 rfl) ?_
        refine getQe hx hb hts hown hK hG qF_X6_16 dX6_leastSpeed_31 ?_
        refine lv_aload_n hx hb dX6_leastSpeed_34 rfl (lv_at hl 0 rfl) ?_
        refine getQc hx hb hts hown hK hG qF_X6_10 dX6_leastSpeed_35 ?_
        refine gcVv (As := [.ref (r + 1)]) (rest := []) hx hb hml hown hts hl.1 hK (c_X0_copyFrom l D (r + 34) (r + 1) Jl C (by unfold apart; omega) hN) (gaV qM_X6_159 qI_X0_copyFrom qS_X0_copyFrom qK_X0 qC_X0_copyFrom) hdv_X0_copyFrom ⟨Nat.le_of_ble_eq_true rfl, Nat.le_of_ble_eq_true rfl⟩ ⟨hG.ge, hG.gc⟩ (hG.ge.recvC hK) rfl (Nat.le_of_ble_eq_true rfl) ⟨Nat.le_of_ble_eq_true rfl, Nat.le_of_ble_eq_true rfl⟩ dX6_leastSpeed_38 hS (fun q h => by unfold inG at h; unfold inS; omega) (fun H locs hG1 hz hq hS => ?_)
        have hG : Sn D r C (fP_X0_copyFrom Jl C) G n Y X U Z F H := Sn.setE hG hG1.1 hq
        generalize eJ1 : fP_X0_copyFrom Jl C = J1 at hG
        refine lv_aload_n hx hb dX6_leastSpeed_41 rfl (lv_at hl 0 rfl) ?_
        refine getQe hx hb hts hown hK hG qF_X6_16 dX6_leastSpeed_42 ?_
        refine getCp hx hb hts hown hK hG.ge qF_X6_67 dX6_leastSpeed_45 ?_
        refine lv_iload_n hx hb dX6_leastSpeed_48 rfl (lv_at hl 1 rfl) ?_
        refine topN (n := pl.toNatClampNeg) hpl.1 ?_
        refine aldP (i := pl.toNatClampNeg) hx hb hK hG.ge hp3 dX6_leastSpeed_49 ?_
        refine lv_iload hx hb dX6_leastSpeed_50 (lv_at hl 5 rfl) ?_
        refine qputPe 0 0 (i := pl.toNatClampNeg) rfl hx hb hts hown hK hG hS hA (by omega) (by decide) (by decide) qF_X6_162 rfl dX6_leastSpeed_52 (fun H locs hG hS => ?_)
        generalize eJ2 : upd J1 (169 + 20 * pl.toNatClampNeg + 0) (nI spd) = J2 at hG
        refine lv_aload_n hx hb dX6_leastSpeed_55 rfl (lv_at hl 0 rfl) ?_
        refine getQe hx hb hts hown hK hG qF_X6_16 dX6_leastSpeed_56 ?_
        refine lv_iload_n hx hb dX6_leastSpeed_59 rfl (lv_at hl 2 rfl) ?_
        refine lv_iload_n hx hb dX6_leastSpeed_60 rfl (lv_at hl 3 rfl) ?_
        refine lv_iload hx hb dX6_leastSpeed_61 (lv_at hl 4 rfl) ?_
        refine topN (n := hrs.toNatClampNeg) hhh.1 ?_
        refine gcVi (As := [.int tmp, .int sn, .int (nI hrs.toNatClampNeg)]) (rest := []) hx hb hml hown hts hl.1 hK (c_X0_passesWithoutComplaint l D (r + 34) J2 tmp sn hrs.toNatClampNeg (by subst_vars; exact WF_speed hp3 (hrI_copy hI hQ).1) (by have := hhh.2; omega)) (gaV qM_X6_165 qI_X0_passesWithoutComplaint qS_X0_passesWithoutComplaint qK_X0 qC_X0_passesWithoutComplaint) hdv_X0_passesWithoutComplaint ⟨Nat.le_of_ble_eq_true rfl, Nat.le_of_ble_eq_true rfl⟩ hG.ge (hG.ge.recvC hK) rfl (Nat.le_of_ble_eq_true rfl) ⟨Nat.le_of_ble_eq_true rfl, Nat.le_of_ble_eq_true rfl⟩ dX6_leastSpeed_63 hS (fun q h => by unfold inG at h; unfold inS; omega) (fun H locs hG1 hz hq hS => ?_)
        have hG : Sn D r C (fP_X0_passesWithoutComplaint J2 tmp sn hrs.toNatClampNeg) G n Y X U Z F H := Sn.setE hG hG1 hq
        generalize eJ3 : fP_X0_passesWithoutComplaint J2 tmp sn hrs.toNatClampNeg = J3 at hG
        refine lv_if_eq (tgt := 72) hx hb dX6_leastSpeed_66 (by decide) (fun c66 => ?_) (fun c66 => ?_)
        · refine lv_iinc (v := nI (spd + 100)) (lv' := [(5, .int (nI (spd + 100))), (0, .ref r), (1, .int pl), (2, .int tmp), (3, .int sn), (4, .int hrs)]) hx hb dX6_leastSpeed_72 hl (k := 5) rfl (nI_add spd 100) (by decide) rfl (fun ls hl => ?_)
          refine lv_goto (tgt := 22) hx hb dX6_leastSpeed_75 (by decide) ?_
          subst eJ3
          subst eJ2
          subst eJ1
          exact ih (spd + 100) _ _ _ _ hpl hp3 hhh (by first | assumption | omega) (by rw [hfJ, fJ_X6_leastSpeed_L22]; (try dsimp only); (try rw [if_pos c66]); (try rfl)) (by rw [hfR, fR_X6_leastSpeed_L22]; (try dsimp only); (try rw [if_pos c66]); (try rfl)) (by rw [hfE, fE_X6_leastSpeed_L22]; (try dsimp only); (try rw [if_pos c66]); (try rfl)) hG hS (lv_sub hl [1, 2, 3, 4, 5, 0] rfl)
        · refine lv_iload hx hb dX6_leastSpeed_69 (lv_at hl 5 rfl) ?_
          subst eJ3
          subst eJ2
          subst eJ1
          have hG9 : Sn D r C (fJ_X6_leastSpeed C J pl tmp sn hrs) G n Y X U Z F H := by
            rw [hfJ, fJ_X6_leastSpeed_L22]; (try dsimp only); (try rw [if_neg c66])
            exact hG
          refine vx_ret (W.widen (k := 4) (n := 24) (by omega) (by omega) ?_)
          exact W.iret hx hb hr (fun t ht hW => xQi_of (by rw [hfE, fE_X6_leastSpeed_L22]; (try dsimp only); (try rw [if_neg c66]); (try rfl)) (by rw [hfR, fR_X6_leastSpeed_L22]; (try dsimp only); (try rw [if_neg c66]); (try rfl)) hG9 hS ht) hS.2.2 dX6_leastSpeed_71
  refine lv_aload_n hx hb dX6_leastSpeed_0 rfl (lv_at hl 0 rfl) ?_
  refine lv_iload_n hx hb dX6_leastSpeed_1 rfl (lv_at hl 1 rfl) ?_
  refine xcVv (As := [.int pl]) (rest := []) hx hb hml hown hts hl.1 hK hKx hr0 (c_X6_checkPlow l hl0 D r C J G n Y X U Z F pl) (gaV qM_X6_74 qI_X6_checkPlow qS_X6_checkPlow qK_X6 qC_X6_checkPlow) hdv_X6_checkPlow ⟨Nat.le_of_ble_eq_true rfl, Nat.le_of_ble_eq_true rfl⟩ hG (Sn.recv hK hG) rfl (Nat.le_of_ble_eq_true rfl) ⟨Nat.le_of_ble_eq_true rfl, Nat.le_of_ble_eq_true rfl⟩ dX6_leastSpeed_2 hS hA (fun ce q9 H locs hcx hG hz hq hS hce hv hcl => ?_) (fun H locs hc2 hG hz hq hS => ?_)
  · have hG : Sn D r C J G n Y X U Z F H := hG
    obtain ⟨kx, hkx⟩ : ∃ k : Nat, k = fE_X6_checkPlow C pl := ⟨_, rfl⟩
    have hG9 : Sn D r C (fJ_X6_leastSpeed C J pl tmp sn hrs) G n Y X U Z F H := by
      unfold fJ_X6_leastSpeed; (try dsimp only); (try rw [if_neg hcx])
      exact hG
    have hE : fE_X6_leastSpeed C J pl tmp sn hrs = kx := by rw [hkx]; unfold fE_X6_leastSpeed; (try dsimp only); (try rw [if_neg hcx]); (try rfl)
    exact xout hex hlocks hS (by rw [hE, hkx]; exact hcx) hG9 hce hv (hkx.symm.trans hE.symm) hcl (by omega) (by omega)
  have hG : Sn D r C J G n Y X U Z F H := hG
  · have hpl := cP_n hN hc2
    have hn3 := hN.2.2.2
    have hp3 : pl.toNatClampNeg < 3 := by have := hpl.2; omega
    refine lv_iload_n hx hb dX6_leastSpeed_5 rfl (lv_at hl 2 rfl) ?_
    refine lv_iload_n hx hb dX6_leastSpeed_6 rfl (lv_at hl 3 rfl) ?_
    refine xcSv (As := [.int tmp, .int sn]) (rest := []) hx hb hml hown hts hl.1 hK hKx hr0 (c_X6_checkWeather l hl0 D r C J G n Y X U Z F tmp sn) (gaS qM_X6_133 qT_X6_checkWeather qK_X6 qC_X6_checkWeather) hds_X6_checkWeather ⟨Nat.le_of_ble_eq_true rfl, Nat.le_of_ble_eq_true rfl⟩ hG rfl (Nat.le_of_ble_eq_true rfl) ⟨Nat.le_of_ble_eq_true rfl, Nat.le_of_ble_eq_true rfl⟩ dX6_leastSpeed_7 hS hA (fun ce q9 H locs hcx hG hz hq hS hce hv hcl => ?_) (fun H locs hc7 hG hz hq hS => ?_)
    · have hG : Sn D r C J G n Y X U Z F H := hG
      obtain ⟨kx, hkx⟩ : ∃ k : Nat, k = fE_X6_checkWeather tmp sn := ⟨_, rfl⟩
      have hG9 : Sn D r C (fJ_X6_leastSpeed C J pl tmp sn hrs) G n Y X U Z F H := by
        unfold fJ_X6_leastSpeed; (try dsimp only); (try rw [if_pos hc2, if_neg hcx])
        exact hG
      have hE : fE_X6_leastSpeed C J pl tmp sn hrs = kx := by rw [hkx]; unfold fE_X6_leastSpeed; (try dsimp only); (try rw [if_pos hc2, if_neg hcx]); (try rfl)
      exact xout hex hlocks hS (by rw [hE, hkx]; exact hcx) hG9 hce hv (hkx.symm.trans hE.symm) hcl (by omega) (by omega)
    have hG : Sn D r C J G n Y X U Z F H := hG
    · refine lv_iload hx hb dX6_leastSpeed_10 (lv_at hl 4 rfl) ?_
      refine lv_iconst (v := 0) hx hb dX6_leastSpeed_12 (by decide) ?_
      refine lv_bipush (v := 50) hx hb dX6_leastSpeed_13 (by decide) ?_
      refine xcSv (As := [.int hrs, .int 0, .int 50]) (rest := []) hx hb hml hown hts hl.1 hK hKx hr0 (c_X6_checkArgument l hl0 D r C J G n Y X U Z F hrs 0 50) (gaS qM_X6_33 qT_X6_checkArgument qK_X6 qC_X6_checkArgument) hds_X6_checkArgument ⟨Nat.le_of_ble_eq_true rfl, Nat.le_of_ble_eq_true rfl⟩ hG rfl (Nat.le_of_ble_eq_true rfl) ⟨Nat.le_of_ble_eq_true rfl, Nat.le_of_ble_eq_true rfl⟩ dX6_leastSpeed_15 hS hA (fun ce q9 H locs hcx hG hz hq hS hce hv hcl => ?_) (fun H locs hc15 hG hz hq hS => ?_)
      · have hG : Sn D r C J G n Y X U Z F H := hG
        obtain ⟨kx, hkx⟩ : ∃ k : Nat, k = fE_X6_checkArgument hrs 0 50 := ⟨_, rfl⟩
        have hG9 : Sn D r C (fJ_X6_leastSpeed C J pl tmp sn hrs) G n Y X U Z F H := by
          unfold fJ_X6_leastSpeed; (try dsimp only); (try rw [if_pos hc2, if_pos hc7, if_neg hcx])
          exact hG
        have hE : fE_X6_leastSpeed C J pl tmp sn hrs = kx := by rw [hkx]; unfold fE_X6_leastSpeed; (try dsimp only); (try rw [if_pos hc2, if_pos hc7, if_neg hcx]); (try rfl)
        exact xout hex hlocks hS (by rw [hE, hkx]; exact hcx) hG9 hce hv (hkx.symm.trans hE.symm) hcl (by omega) (by omega)
      have hG : Sn D r C J G n Y X U Z F H := hG
      · have hhh := (in_n (n := 50) (by decide) (cA_0 hc15))
        refine lv_bipush (v := 100) hx hb dX6_leastSpeed_18 (by decide) ?_
        refine lv_istore (lv' := [(5, .int 100), (0, .ref r), (1, .int pl), (2, .int tmp), (3, .int sn), (4, .int hrs)]) hx hb dX6_leastSpeed_20 hl (by decide) rfl (fun ls hl => ?_)
        refine W.widen (k := 4) (n := 24) (by omega) (by omega) ?_
        exact L22 50 100 _ _ _ _ hpl hp3 hhh (by first | assumption | omega) (by unfold fJ_X6_leastSpeed; (try dsimp only); (try rw [if_pos hc2, if_pos hc7, if_pos hc15]); (try rfl)) (by unfold fR_X6_leastSpeed; (try dsimp only); (try rw [if_pos hc2, if_pos hc7, if_pos hc15]); (try rfl)) (by unfold fE_X6_leastSpeed; (try dsimp only); (try rw [if_pos hc2, if_pos hc7, if_pos hc15]); (try rfl)) hG hS (lv_sub hl [1, 2, 3, 4, 5, 0] rfl)
theorem hdv_X6_emptyIn : yX6_emptyIn.cls = RX6 ∧ yX6_emptyIn.cls ≠ "java/lang/invoke/MethodHandle" ∧ yX6_emptyIn.cls ≠ "java/lang/invoke/VarHandle" ∧ (parseMethodDescriptor yX6_emptyIn.desc).map (fun d => d.parameters.length) = some 2 := by decide +kernel
def fJ_X6_emptyIn_L18 (C : Nat → Int32) (tmp : Int32) (sn : Int32) : Nat → Nat → (Nat → Int32) → Nat → Int32
  | 0, j, Jl =>
    if Jl 3 = 0 then
      Jl
    else
      Jl
  | k + 1, j, Jl =>
    if Jl 3 ≤ 0 then
      if Jl 3 = 0 then
        Jl
      else
        Jl
    else
      let J2 := fP_X0_passHour Jl tmp sn
      fJ_X6_emptyIn_L18 C tmp sn k (j + 1) J2
def fR_X6_emptyIn_L18 (C : Nat → Int32) (tmp : Int32) (sn : Int32) : Nat → Nat → (Nat → Int32) → Int32
  | 0, j, Jl =>
    if Jl 3 = 0 then
      nI j
    else
      (-1)
  | k + 1, j, Jl =>
    if Jl 3 ≤ 0 then
      if Jl 3 = 0 then
        nI j
      else
        (-1)
    else
      let J2 := fP_X0_passHour Jl tmp sn
      fR_X6_emptyIn_L18 C tmp sn k (j + 1) J2
def fE_X6_emptyIn_L18 (C : Nat → Int32) (tmp : Int32) (sn : Int32) : Nat → Nat → (Nat → Int32) → Nat
  | 0, j, Jl =>
    if Jl 3 = 0 then
      0
    else
      0
  | k + 1, j, Jl =>
    if Jl 3 ≤ 0 then
      if Jl 3 = 0 then
        0
      else
        0
    else
      let J2 := fP_X0_passHour Jl tmp sn
      fE_X6_emptyIn_L18 C tmp sn k (j + 1) J2
def fJ_X6_emptyIn (C : Nat → Int32) (J : Nat → Int32) (tmp : Int32) (sn : Int32) : Nat → Int32 :=
  if fE_X6_checkWeather tmp sn = 0 then
    let J1 := fP_X0_copyFrom J C
    fJ_X6_emptyIn_L18 C tmp sn 200 0 J1
  else
    J
def fR_X6_emptyIn (C : Nat → Int32) (J : Nat → Int32) (tmp : Int32) (sn : Int32) : Int32 :=
  if fE_X6_checkWeather tmp sn = 0 then
    let J1 := fP_X0_copyFrom J C
    fR_X6_emptyIn_L18 C tmp sn 200 0 J1
  else
    0
def fE_X6_emptyIn (C : Nat → Int32) (J : Nat → Int32) (tmp : Int32) (sn : Int32) : Nat :=
  if fE_X6_checkWeather tmp sn = 0 then
    let J1 := fP_X0_copyFrom J C
    fE_X6_emptyIn_L18 C tmp sn 200 0 J1
  else
    fE_X6_checkWeather tmp sn
set_option maxHeartbeats 4000000 in
set_option maxRecDepth 100000 in
theorem c_X6_emptyIn (l : Launch) (hl0 : l.stackTraces = false) (D : va_G) (r : Nat) (C J : Nat → Int32) (G : Nat → Nat → Int32) (n : Nat) (Y X U Z F : Nat → Int32) (tmp : Int32) (sn : Int32) (hI : hrI (ns C) (np C) (nc C) C) (hQ : ∀ q, q < np C → okQ C q) : vx_Met l yX6_emptyIn (wA yX6_emptyIn cX6_emptyIn 4 (some .int)) (rmX 8 2 12) (xPc D r [.ref r, .int tmp, .int sn] (fun H => Sn D r C J G n Y X U Z F H)) (xQi (inS r) (fE_X6_emptyIn C J tmp sn) (fR_X6_emptyIn C J tmp sn) (fun H => Sn D r C (fJ_X6_emptyIn C J tmp sn) G n Y X U Z F H)) (xX (inS r) (fE_X6_emptyIn C J tmp sn) (fun H => Sn D r C (fJ_X6_emptyIn C J tmp sn) G n Y X U Z F H)) 2 12 (inS r) := by
  refine vx_ofW (cc := cX6_emptyIn) (maxL := 4) (ret := (some .int)) (by decide) rfl ?_
  intro p e s m args below meth c s₁ B hml hex hv
  obtain ⟨hav, hG, hK, hKx⟩ := hv
  have hr0 : ∀ q, inS r q → r ≤ q := fun q h => h.1
  have hx := B.exec
  have hb := B.bytes
  have hr := B.returns
  have hts0 := atoms_spec (ws := wA yX6_emptyIn cX6_emptyIn 4 (some .int)) B.pre
  have hts : ∀ w ∈ AW, w.before _ s = true := fun w h => hts0 w (List.mem_cons_of_mem _ h)
  have hown : s.vm.findClass RX6 = some m.cls := findClass_of_methodNamed B.named
  have hlocks := B.notSynchronized
  have hA : ∀ q, (inS r) q → (inS r) q := fun _ h => h
  have hS : va_S (inS r) s.heap s.heap [] := va_S.rf
  have hG : Sn D r C J G n Y X U Z F s.heap := hG
  have hl := lv_entry ([.ref r, .int tmp, .int sn]) (n := 4) (Nat.le_of_ble_eq_true rfl)
  refine W.eq (g2 := entryFrame m ([.ref r, .int tmp, .int sn] : List Value).toArray 4) (by rw [hav]) ?_
  rw [lg_entry_eq]
  generalize (lg_sl ([.ref r, .int tmp, .int sn]) ++ List.replicate (4 - (lg_sl ([.ref r, .int tmp, .int sn])).length) Slot.unset).toArray = ls at hl ⊢
  have hl : lv_has ls 4 [(0, .ref r), (1, .int tmp), (2, .int sn)] := hl
  have hN := hI.1.1
  have L18 : ∀ (k : Nat) (j : Nat) (Jl : Nat → Int32) (H : Heap) (locs : List Loc) (ls : Array Slot) (hwl : WF Jl) (hj : j + k = 200) (hfJ : fJ_X6_emptyIn C J tmp sn = fJ_X6_emptyIn_L18 C tmp sn k j Jl) (hfR : fR_X6_emptyIn C J tmp sn = fR_X6_emptyIn_L18 C tmp sn k j Jl) (hfE : fE_X6_emptyIn C J tmp sn = fE_X6_emptyIn_L18 C tmp sn k j Jl) (hG : Sn D r C Jl G n Y X U Z F H) (hS : va_S (inS r) s.heap H locs) (hl : lv_has ls 4 [(0, .ref r), (1, .int tmp), (2, .int sn), (3, .int (nI j))]), W p l e (headSpec (wA yX6_emptyIn cX6_emptyIn 4 (some .int)) (rmX 8 2 12)).room s m args below meth c H locs 2 12 (vx_MQ below (xQi (inS r) (fE_X6_emptyIn C J tmp sn) (fR_X6_emptyIn C J tmp sn) (fun H => Sn D r C (fJ_X6_emptyIn C J tmp sn) G n Y X U Z F H)) (xX (inS r) (fE_X6_emptyIn C J tmp sn) (fun H => Sn D r C (fJ_X6_emptyIn C J tmp sn) G n Y X U Z F H)) args s 2 12 (inS r)) (F0 m 18 ls []) := by
    intro k
    induction k with
    | zero =>
      intro j Jl H locs ls hwl hj hfJ hfR hfE hG hS hl
      refine lv_iload_n hx hb dX6_emptyIn_18 rfl (lv_at hl 3 rfl) ?_
      refine lv_sipush (v := 200) hx hb dX6_emptyIn_19 (by decide) ?_
      refine lv_icmp_ge (tgt := 50) hx hb dX6_emptyIn_22 (by decide) (fun c22 => ?_) (fun c22 => ?_)
      · have c22 : 200 ≤ j := (nI_leI (a := 200) (b := j) (by omega) (by omega)).mp c22
        refine lv_aload_n hx hb dX6_emptyIn_50 rfl (lv_at hl 0 rfl) ?_
        refine getQe hx hb hts hown hK hG qF_X6_16 dX6_emptyIn_51 ?_
        refine getC 6 3 rfl hx hb hts hown hK hG.ge (by decide) (by decide) (by decide) (by decide) qF_X6_125 rfl dX6_emptyIn_54 ?_
        refine lv_if_ne (tgt := 64) hx hb dX6_emptyIn_57 (by decide) (fun c57 => ?_) (fun c57 => ?_)
        · refine lv_iconst (v := (-1)) hx hb dX6_emptyIn_64 (by decide) ?_
          have hG9 : Sn D r C (fJ_X6_emptyIn C J tmp sn) G n Y X U Z F H := by
            rw [hfJ, fJ_X6_emptyIn_L18]; (try dsimp only); (try rw [if_neg c57])
            exact hG
          refine vx_ret (W.widen (k := 2) (n := 12) (by omega) (by omega) ?_)
          exact W.iret hx hb hr (fun t ht hW => xQi_of (by rw [hfE, fE_X6_emptyIn_L18]; (try dsimp only); (try rw [if_neg c57]); (try rfl)) (by rw [hfR, fR_X6_emptyIn_L18]; (try dsimp only); (try rw [if_neg c57]); (try rfl)) hG9 hS ht) hS.2.2 dX6_emptyIn_65
        · refine lv_iload_n hx hb dX6_emptyIn_60 rfl (lv_at hl 3 rfl) ?_
          refine lv_goto (tgt := 65) hx hb dX6_emptyIn_61 (by decide) ?_
          have hG9 : Sn D r C (fJ_X6_emptyIn C J tmp sn) G n Y X U Z F H := by
            rw [hfJ, fJ_X6_emptyIn_L18]; (try dsimp only); (try rw [if_pos c57])
            exact hG
          refine vx_ret (W.widen (k := 2) (n := 12) (by omega) (by omega) ?_)
          exact W.iret hx hb hr (fun t ht hW => xQi_of (by rw [hfE, fE_X6_emptyIn_L18]; (try dsimp only); (try rw [if_pos c57]); (try rfl)) (by rw [hfR, fR_X6_emptyIn_L18]; (try dsimp only); (try rw [if_pos c57]); (try rfl)) hG9 hS ht) hS.2.2 dX6_emptyIn_65
      · have c22 : ¬ 200 ≤ j := fun h => c22 ((nI_leI (a := 200) (b := j) (by omega) (by omega)).mpr h)
        exfalso; omega
    | succ k ih =>
      intro j Jl H locs ls hwl hj hfJ hfR hfE hG hS hl
      refine lv_iload_n hx hb dX6_emptyIn_18 rfl (lv_at hl 3 rfl) ?_
      refine lv_sipush (v := 200) hx hb dX6_emptyIn_19 (by decide) ?_
      refine lv_icmp_ge (tgt := 50) hx hb dX6_emptyIn_22 (by decide) (fun c22 => ?_) (fun c22 => ?_)
      · have c22 : 200 ≤ j := (nI_leI (a := 200) (b := j) (by omega) (by omega)).mp c22
        exfalso; omega
      · have c22 : ¬ 200 ≤ j := fun h => c22 ((nI_leI (a := 200) (b := j) (by omega) (by omega)).mpr h)
        refine lv_aload_n hx hb dX6_emptyIn_25 rfl (lv_at hl 0 rfl) ?_
        refine getQe hx hb hts hown hK hG qF_X6_16 dX6_emptyIn_26 ?_
        refine getC 6 3 rfl hx hb hts hown hK hG.ge (by decide) (by decide) (by decide) (by decide) qF_X6_125 rfl dX6_emptyIn_29 ?_
        refine lv_if_le (tgt := 50) hx hb dX6_emptyIn_32 (by decide) (fun c32 => ?_) (fun c32 => ?_)
        · refine lv_aload_n hx hb dX6_emptyIn_50 rfl (lv_at hl 0 rfl) ?_
          refine getQe hx hb hts hown hK hG qF_X6_16 dX6_emptyIn_51 ?_
          refine getC 6 3 rfl hx hb hts hown hK hG.ge (by decide) (by decide) (by decide) (by decide) qF_X6_125 rfl dX6_emptyIn_54 ?_
          refine lv_if_ne (tgt := 64) hx hb dX6_emptyIn_57 (by decide) (fun c57 => ?_) (fun c57 => ?_)
          · refine lv_iconst (v := (-1)) hx hb dX6_emptyIn_64 (by decide) ?_
            have hG9 : Sn D r C (fJ_X6_emptyIn C J tmp sn) G n Y X U Z F H := by
              rw [hfJ, fJ_X6_emptyIn_L18]; (try dsimp only); (try rw [if_pos c32, if_neg c57])
              exact hG
            refine vx_ret (W.widen (k := 2) (n := 12) (by omega) (by omega) ?_)
            exact W.iret hx hb hr (fun t ht hW => xQi_of (by rw [hfE, fE_X6_emptyIn_L18]; (try dsimp only); (try rw [if_pos c32, if_neg c57]); (try rfl)) (by rw [hfR, fR_X6_emptyIn_L18]; (try dsimp only); (try rw [if_pos c32, if_neg c57]); (try rfl)) hG9 hS ht) hS.2.2 dX6_emptyIn_65
          · refine lv_iload_n hx hb dX6_emptyIn_60 rfl (lv_at hl 3 rfl) ?_
            refine lv_goto (tgt := 65) hx hb dX6_emptyIn_61 (by decide) ?_
            have hG9 : Sn D r C (fJ_X6_emptyIn C J tmp sn) G n Y X U Z F H := by
              rw [hfJ, fJ_X6_emptyIn_L18]; (try dsimp only); (try rw [if_pos c32, if_pos c57])
              exact hG
            refine vx_ret (W.widen (k := 2) (n := 12) (by omega) (by omega) ?_)
            exact W.iret hx hb hr (fun t ht hW => xQi_of (by rw [hfE, fE_X6_emptyIn_L18]; (try dsimp only); (try rw [if_pos c32, if_pos c57]); (try rfl)) (by rw [hfR, fR_X6_emptyIn_L18]; (try dsimp only); (try rw [if_pos c32, if_pos c57]); (try rfl)) hG9 hS ht) hS.2.2 dX6_emptyIn_65
        · refine lv_aload_n hx hb dX6_emptyIn_35 rfl (lv_at hl 0 rfl) ?_
          refine getQe hx hb hts hown hK hG qF_X6_16 dX6_emptyIn_36 ?_
          refine lv_iload_n hx hb dX6_emptyIn_39 rfl (lv_at hl 1 rfl) ?_
          refine lv_iload_n hx hb dX6_emptyIn_40 rfl (lv_at hl 2 rfl) ?_
          refine gcVv (As := [.int tmp, .int sn]) (rest := []) hx hb hml hown hts hl.1 hK (c_X0_passHour l D (r + 34) Jl tmp sn hwl) (gaV qM_X6_169 qI_X0_passHour qS_X0_passHour qK_X0 qC_X0_passHour) hdv_X0_passHour ⟨Nat.le_of_ble_eq_true rfl, Nat.le_of_ble_eq_true rfl⟩ hG.ge (hG.ge.recvC hK) rfl (Nat.le_of_ble_eq_true rfl) ⟨Nat.le_of_ble_eq_true rfl, Nat.le_of_ble_eq_true rfl⟩ dX6_emptyIn_41 hS (fun q h => by unfold inG at h; unfold inS; omega) (fun H locs hG1 hz hq hS => ?_)
          have hG : Sn D r C (fP_X0_passHour Jl tmp sn) G n Y X U Z F H := Sn.setE hG hG1 hq
          generalize eJ2 : fP_X0_passHour Jl tmp sn = J2 at hG
          refine lv_iinc (v := nI (j + 1)) (lv' := [(3, .int (nI (j + 1))), (0, .ref r), (1, .int tmp), (2, .int sn)]) hx hb dX6_emptyIn_44 hl (k := 3) rfl (nI_add j 1) (by decide) rfl (fun ls hl => ?_)
          refine lv_goto (tgt := 18) hx hb dX6_emptyIn_47 (by decide) ?_
          subst eJ2
          exact ih (j + 1) _ _ _ _ (WF_passHour hwl) (by first | assumption | omega) (by rw [hfJ, fJ_X6_emptyIn_L18]; (try dsimp only); (try rw [if_neg c32]); (try rfl)) (by rw [hfR, fR_X6_emptyIn_L18]; (try dsimp only); (try rw [if_neg c32]); (try rfl)) (by rw [hfE, fE_X6_emptyIn_L18]; (try dsimp only); (try rw [if_neg c32]); (try rfl)) hG hS (lv_sub hl [1, 2, 3, 0] rfl)
  refine lv_iload_n hx hb dX6_emptyIn_0 rfl (lv_at hl 1 rfl) ?_
  refine lv_iload_n hx hb dX6_emptyIn_1 rfl (lv_at hl 2 rfl) ?_
  refine xcSv (As := [.int tmp, .int sn]) (rest := []) hx hb hml hown hts hl.1 hK hKx hr0 (c_X6_checkWeather l hl0 D r C J G n Y X U Z F tmp sn) (gaS qM_X6_133 qT_X6_checkWeather qK_X6 qC_X6_checkWeather) hds_X6_checkWeather ⟨Nat.le_of_ble_eq_true rfl, Nat.le_of_ble_eq_true rfl⟩ hG rfl (Nat.le_of_ble_eq_true rfl) ⟨Nat.le_of_ble_eq_true rfl, Nat.le_of_ble_eq_true rfl⟩ dX6_emptyIn_2 hS hA (fun ce q9 H locs hcx hG hz hq hS hce hv hcl => ?_) (fun H locs hc2 hG hz hq hS => ?_)
  · have hG : Sn D r C J G n Y X U Z F H := hG
    obtain ⟨kx, hkx⟩ : ∃ k : Nat, k = fE_X6_checkWeather tmp sn := ⟨_, rfl⟩
    have hG9 : Sn D r C (fJ_X6_emptyIn C J tmp sn) G n Y X U Z F H := by
      unfold fJ_X6_emptyIn; (try dsimp only); (try rw [if_neg hcx])
      exact hG
    have hE : fE_X6_emptyIn C J tmp sn = kx := by rw [hkx]; unfold fE_X6_emptyIn; (try dsimp only); (try rw [if_neg hcx]); (try rfl)
    exact xout hex hlocks hS (by rw [hE, hkx]; exact hcx) hG9 hce hv (hkx.symm.trans hE.symm) hcl (by omega) (by omega)
  have hG : Sn D r C J G n Y X U Z F H := hG
  · refine lv_aload_n hx hb dX6_emptyIn_5 rfl (lv_at hl 0 rfl) ?_
    refine getQe hx hb hts hown hK hG qF_X6_16 dX6_emptyIn_6 ?_
    refine lv_aload_n hx hb dX6_emptyIn_9 rfl (lv_at hl 0 rfl) ?_
    refine getQc hx hb hts hown hK hG qF_X6_10 dX6_emptyIn_10 ?_
    refine gcVv (As := [.ref (r + 1)]) (rest := []) hx hb hml hown hts hl.1 hK (c_X0_copyFrom l D (r + 34) (r + 1) J C (by unfold apart; omega) hN) (gaV qM_X6_159 qI_X0_copyFrom qS_X0_copyFrom qK_X0 qC_X0_copyFrom) hdv_X0_copyFrom ⟨Nat.le_of_ble_eq_true rfl, Nat.le_of_ble_eq_true rfl⟩ ⟨hG.ge, hG.gc⟩ (hG.ge.recvC hK) rfl (Nat.le_of_ble_eq_true rfl) ⟨Nat.le_of_ble_eq_true rfl, Nat.le_of_ble_eq_true rfl⟩ dX6_emptyIn_13 hS (fun q h => by unfold inG at h; unfold inS; omega) (fun H locs hG1 hz hq hS => ?_)
    have hG : Sn D r C (fP_X0_copyFrom J C) G n Y X U Z F H := Sn.setE hG hG1.1 hq
    generalize eJ1 : fP_X0_copyFrom J C = J1 at hG
    refine lv_iconst (v := 0) hx hb dX6_emptyIn_16 (by decide) ?_
    refine lv_istore_n (lv' := [(3, .int 0), (0, .ref r), (1, .int tmp), (2, .int sn)]) hx hb dX6_emptyIn_17 rfl hl (by decide) rfl (fun ls hl => ?_)
    subst eJ1
    refine W.widen (k := 2) (n := 12) (by omega) (by omega) ?_
    exact L18 200 0 _ _ _ _ (hrI_copy hI hQ).1 (by first | assumption | omega) (by unfold fJ_X6_emptyIn; (try dsimp only); (try rw [if_pos hc2]); (try rfl)) (by unfold fR_X6_emptyIn; (try dsimp only); (try rw [if_pos hc2]); (try rfl)) (by unfold fE_X6_emptyIn; (try dsimp only); (try rw [if_pos hc2]); (try rfl)) hG hS (lv_sub hl [1, 2, 3, 0] rfl)
