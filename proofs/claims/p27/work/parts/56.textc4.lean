theorem hdv_X5_readItem : yX5_readItem.cls = RX5 ∧ yX5_readItem.cls ≠ "java/lang/invoke/MethodHandle" ∧ yX5_readItem.cls ≠ "java/lang/invoke/VarHandle" ∧ (parseMethodDescriptor yX5_readItem.desc).map (fun d => d.parameters.length) = some 0 := by decide +kernel
def fX_X5_readItem (Y : Nat → Int32) (X : Nat → Int32) (U : Nat → Int32) (Z : Nat → Int32) (F : Nat → Int32) : Nat → Int32 :=
  let F1 := fF_X5_readTemperature Y F
  let x2 := fR_X5_readTemperature Y F
  let X3 := upd X (ti5 F) x2
  let F4 := fF_X5_expect Y F1 44
  let F5 := fF_X5_readNumber Y F4 3 0 100
  if fR_X5_here Y F5 = 120 then
    X3
  else
    X3
def fU_X5_readItem (Y : Nat → Int32) (X : Nat → Int32) (U : Nat → Int32) (Z : Nat → Int32) (F : Nat → Int32) : Nat → Int32 :=
  let F1 := fF_X5_readTemperature Y F
  let F4 := fF_X5_expect Y F1 44
  let F5 := fF_X5_readNumber Y F4 3 0 100
  let x6 := fR_X5_readNumber Y F4 3 0 100
  let U7 := upd U (ti5 F) x6
  if fR_X5_here Y F5 = 120 then
    U7
  else
    U7
def fZ_X5_readItem (Y : Nat → Int32) (X : Nat → Int32) (U : Nat → Int32) (Z : Nat → Int32) (F : Nat → Int32) : Nat → Int32 :=
  let F1 := fF_X5_readTemperature Y F
  let F4 := fF_X5_expect Y F1 44
  let F5 := fF_X5_readNumber Y F4 3 0 100
  let Z8 := upd Z (ti5 F) 1
  if fR_X5_here Y F5 = 120 then
    let F10 := upd F5 6 (nI ((ta5 F5) + 1))
    let x12 := fR_X5_readNumber Y F10 2 1 99
    let Z13 := upd Z8 (ti5 F) x12
    Z13
  else
    Z8
def fF_X5_readItem (Y : Nat → Int32) (X : Nat → Int32) (U : Nat → Int32) (Z : Nat → Int32) (F : Nat → Int32) : Nat → Int32 :=
  let F1 := fF_X5_readTemperature Y F
  let F4 := fF_X5_expect Y F1 44
  let F5 := fF_X5_readNumber Y F4 3 0 100
  if fR_X5_here Y F5 = 120 then
    let F10 := upd F5 6 (nI ((ta5 F5) + 1))
    let F11 := fF_X5_readNumber Y F10 2 1 99
    let F14 := fF_X5_expect Y F11 59
    F14
  else
    let F9 := fF_X5_expect Y F5 59
    F9
set_option maxHeartbeats 4000000 in
set_option maxRecDepth 100000 in
theorem c_X5_readItem (l : Launch) (D : va_G) (t : Nat) (Y X U Z F : Nat → Int32) (hX : okX5 F) (hI : F 5 = nI (ti5 F)) (hI2 : ti5 F < 38) : Met l yX5_readItem (wA yX5_readItem cX5_readItem 1 none) (rmL 4) (gPc D [.ref t] (fun H => Tx D t Y X U Z F H)) (gQv (inT t) (fun H => Tx D t Y (fX_X5_readItem Y X U Z F) (fU_X5_readItem Y X U Z F) (fZ_X5_readItem Y X U Z F) (fF_X5_readItem Y X U Z F) H)) 0 0 (inT t) := by
  refine Met.ofW (cc := cX5_readItem) (maxL := 1) (ret := none) (by decide) rfl ?_
  intro p e s m args below meth c s₁ B hml hv
  obtain ⟨hav, hG, hK⟩ := hv
  have hx := B.exec
  have hb := B.bytes
  have hr := B.returns
  have hts0 := atoms_spec (ws := wA yX5_readItem cX5_readItem 1 none) B.pre
  have hts : ∀ w ∈ AW, w.before _ s = true := fun w h => hts0 w (List.mem_cons_of_mem _ h)
  have hown : s.vm.findClass RX5 = some m.cls := findClass_of_methodNamed B.named
  have hlocks := B.notSynchronized
  have hA : ∀ q, (inT t) q → (inT t) q := fun _ h => h
  have hS : va_S (inT t) s.heap s.heap [] := va_S.rf
  have hG : Tx D t Y X U Z F s.heap := hG
  have hl := lv_entry ([.ref t]) (n := 1) (Nat.le_of_ble_eq_true rfl)
  refine W.eq (g2 := entryFrame m ([.ref t] : List Value).toArray 1) (by rw [hav]) ?_
  rw [lg_entry_eq]
  generalize (lg_sl ([.ref t]) ++ List.replicate (1 - (lg_sl ([.ref t])).length) Slot.unset).toArray = ls at hl ⊢
  have hl : lv_has ls 1 [(0, .ref t)] := hl
  refine lv_aload_n hx hb dX5_readItem_0 rfl (lv_at hl 0 rfl) ?_
  refine getXt hx hb hts hown hK hG qF_X5_15 dX5_readItem_1 ?_
  refine lv_aload_n hx hb dX5_readItem_4 rfl (lv_at hl 0 rfl) ?_
  refine getX 5 hx hb hts hown hK hG (by decide) qF_X5_24 rfl dX5_readItem_5 ?_
  refine topN (n := (ti5 F)) hI ?_
  refine lv_aload_n hx hb dX5_readItem_8 rfl (lv_at hl 0 rfl) ?_
  refine gcVi (As := []) (rest := [.int (nI (ti5 F)), .ref (t + 2)]) hx hb hml hown hts hl.1 hK (c_X5_readTemperature l D t Y X U Z F hX) (gaV qM_X5_40 qI_X5_readTemperature qS_X5_readTemperature qK_X5 qC_X5_readTemperature) hdv_X5_readTemperature ⟨Nat.le_of_ble_eq_true rfl, Nat.le_of_ble_eq_true rfl⟩ hG (hG.recv hK) rfl (Nat.le_of_ble_eq_true rfl) ⟨Nat.zero_le _, Nat.zero_le _⟩ dX5_readItem_9 hS hA (fun H locs hG _ _ hS => ?_)
  have hG : Tx D t Y X U Z (fF_X5_readTemperature Y F) H := hG
  generalize eF1 : fF_X5_readTemperature Y F = F1 at hG
  have hq := temp5 (Y := Y) hX
  have hI : F1 5 = nI (ti5 F) := by rw [← eF1]; exact (hq.2 5 (by decide) (by decide)).trans hI
  have hX : okX5 F1 := by rw [← eF1]; exact hq.1
  refine lv_topi (fun x2 ex2 => ?_)
  refine astXt (k := (ti5 F)) hx hb hK hG hS hA (by omega) dX5_readItem_12 (fun H locs hG hS => ?_)
  generalize eX3 : upd X (ti5 F) x2 = X3 at hG
  refine lv_aload_n hx hb dX5_readItem_13 rfl (lv_at hl 0 rfl) ?_
  refine lv_bipush (v := 44) hx hb dX5_readItem_14 (by decide) ?_
  refine gcVv (As := [.int 44]) (rest := []) hx hb hml hown hts hl.1 hK (c_X5_expect l D t Y X3 U Z F1 44 hX) (gaV qM_X5_44 qI_X5_expect qS_X5_expect qK_X5 qC_X5_expect) hdv_X5_expect ⟨Nat.le_of_ble_eq_true rfl, Nat.le_of_ble_eq_true rfl⟩ hG (hG.recv hK) rfl (Nat.le_of_ble_eq_true rfl) ⟨Nat.zero_le _, Nat.zero_le _⟩ dX5_readItem_16 hS hA (fun H locs hG _ _ hS => ?_)
  have hG : Tx D t Y X3 U Z (fF_X5_expect Y F1 44) H := hG
  generalize eF4 : fF_X5_expect Y F1 44 = F4 at hG
  have hq := exp5 (Y := Y) (cc := 44) hX (by decide)
  have hI : F4 5 = nI (ti5 F) := by rw [← eF4]; exact (hq.2 5 (by decide) (by decide)).trans hI
  have hX : okX5 F4 := by rw [← eF4]; exact hq.1
  refine lv_aload_n hx hb dX5_readItem_19 rfl (lv_at hl 0 rfl) ?_
  refine getXs hx hb hts hown hK hG qF_X5_18 dX5_readItem_20 ?_
  refine lv_aload_n hx hb dX5_readItem_23 rfl (lv_at hl 0 rfl) ?_
  refine getX 5 hx hb hts hown hK hG (by decide) qF_X5_24 rfl dX5_readItem_24 ?_
  refine topN (n := (ti5 F)) hI ?_
  refine lv_aload_n hx hb dX5_readItem_27 rfl (lv_at hl 0 rfl) ?_
  refine lv_iconst (v := 3) hx hb dX5_readItem_28 (by decide) ?_
  refine lv_iconst (v := 0) hx hb dX5_readItem_29 (by decide) ?_
  refine lv_bipush (v := 100) hx hb dX5_readItem_30 (by decide) ?_
  refine gcVi (As := [.int 3, .int 0, .int 100]) (rest := [.int (nI (ti5 F)), .ref (t + 3)]) hx hb hml hown hts hl.1 hK (c_X5_readNumber l D t Y X3 U Z F4 3 0 100 hX (by first | assumption | omega)) (gaV qM_X5_48 qI_X5_readNumber qS_X5_readNumber qK_X5 qC_X5_readNumber) hdv_X5_readNumber ⟨Nat.le_of_ble_eq_true rfl, Nat.le_of_ble_eq_true rfl⟩ hG (hG.recv hK) rfl (Nat.le_of_ble_eq_true rfl) ⟨Nat.zero_le _, Nat.zero_le _⟩ dX5_readItem_32 hS hA (fun H locs hG _ _ hS => ?_)
  have hG : Tx D t Y X3 U Z (fF_X5_readNumber Y F4 3 0 100) H := hG
  generalize eF5 : fF_X5_readNumber Y F4 3 0 100 = F5 at hG
  have hq := num5 (Y := Y) (d := 3) (lo := 0) (hi := 100) hX
  have hI : F5 5 = nI (ti5 F) := by rw [← eF5]; exact (hq.2 5 (by decide) (by decide)).trans hI
  have hX : okX5 F5 := by rw [← eF5]; exact hq.1
  refine lv_topi (fun x6 ex6 => ?_)
  refine astXs (k := (ti5 F)) hx hb hK hG hS hA (by omega) dX5_readItem_35 (fun H locs hG hS => ?_)
  generalize eU7 : upd U (ti5 F) x6 = U7 at hG
  refine lv_aload_n hx hb dX5_readItem_36 rfl (lv_at hl 0 rfl) ?_
  refine getXh hx hb hts hown hK hG qF_X5_21 dX5_readItem_37 ?_
  refine lv_aload_n hx hb dX5_readItem_40 rfl (lv_at hl 0 rfl) ?_
  refine getX 5 hx hb hts hown hK hG (by decide) qF_X5_24 rfl dX5_readItem_41 ?_
  refine topN (n := (ti5 F)) hI ?_
  refine lv_iconst (v := 1) hx hb dX5_readItem_44 (by decide) ?_
  refine astXh (k := (ti5 F)) hx hb hK hG hS hA (by omega) dX5_readItem_45 (fun H locs hG hS => ?_)
  generalize eZ8 : upd Z (ti5 F) 1 = Z8 at hG
  refine lv_aload_n hx hb dX5_readItem_46 rfl (lv_at hl 0 rfl) ?_
  refine gcVi (As := []) (rest := []) hx hb hml hown hts hl.1 hK (c_X5_here l D t Y X3 U7 Z8 F5 hX) (gaV qM_X5_52 qI_X5_here qS_X5_here qK_X5 qC_X5_here) hdv_X5_here ⟨Nat.le_of_ble_eq_true rfl, Nat.le_of_ble_eq_true rfl⟩ hG (hG.recv hK) rfl (Nat.le_of_ble_eq_true rfl) ⟨Nat.zero_le _, Nat.zero_le _⟩ dX5_readItem_47 hS hA (fun H locs hG _ _ hS => ?_)
  have hG : Tx D t Y X3 U7 Z8 F5 H := hG
  refine lv_bipush (v := 120) hx hb dX5_readItem_50 (by decide) ?_
  refine lv_icmp_ne (tgt := 82) hx hb dX5_readItem_52 (by decide) (fun c52 => ?_) (fun c52 => ?_)
  · refine lv_aload_n hx hb dX5_readItem_82 rfl (lv_at hl 0 rfl) ?_
    refine lv_bipush (v := 59) hx hb dX5_readItem_83 (by decide) ?_
    refine gcVv (As := [.int 59]) (rest := []) hx hb hml hown hts hl.1 hK (c_X5_expect l D t Y X3 U7 Z8 F5 59 hX) (gaV qM_X5_44 qI_X5_expect qS_X5_expect qK_X5 qC_X5_expect) hdv_X5_expect ⟨Nat.le_of_ble_eq_true rfl, Nat.le_of_ble_eq_true rfl⟩ hG (hG.recv hK) rfl (Nat.le_of_ble_eq_true rfl) ⟨Nat.zero_le _, Nat.zero_le _⟩ dX5_readItem_85 hS hA (fun H locs hG _ _ hS => ?_)
    have hG : Tx D t Y X3 U7 Z8 (fF_X5_expect Y F5 59) H := hG
    generalize eF9 : fF_X5_expect Y F5 59 = F9 at hG
    subst eF9
    subst eZ8
    subst eU7
    subst ex6
    subst eF5
    subst eF4
    subst eX3
    subst ex2
    subst eF1
    have hG9 : Tx D t Y (fX_X5_readItem Y X U Z F) (fU_X5_readItem Y X U Z F) (fZ_X5_readItem Y X U Z F) (fF_X5_readItem Y X U Z F) H := by
      unfold fX_X5_readItem; (try dsimp only); (try rw [if_neg c52])
      unfold fU_X5_readItem; (try dsimp only); (try rw [if_neg c52])
      unfold fZ_X5_readItem; (try dsimp only); (try rw [if_neg c52])
      unfold fF_X5_readItem; (try dsimp only); (try rw [if_neg c52])
      exact hG
    exact W.vret hx hb hr (fun t ht hW => gQv_of hG9 hS ht) hS.2.2 dX5_readItem_88
  · refine lv_aload_n hx hb dX5_readItem_55 rfl (lv_at hl 0 rfl) ?_
    refine lv_dup hx hb dX5_readItem_56 rfl ?_
    refine getX 6 hx hb hts hown hK hG (by decide) qF_X5_28 rfl dX5_readItem_57 ?_
    refine topN (n := (ta5 F5)) hX.2.1 ?_
    refine lv_iconst (v := 1) hx hb dX5_readItem_60 (by decide) ?_
    refine iaddN (a := (ta5 F5)) (b := 1) hx hb dX5_readItem_61 ?_
    refine putX 6 hx hb hts hown hK hG hS hA (by decide) qF_X5_28 rfl dX5_readItem_62 (fun H locs hG hS => ?_)
    generalize eF10 : upd F5 6 (nI ((ta5 F5) + 1)) = F10 at hG
    have hI : F10 5 = nI (ti5 F) := by rw [← eF10]; exact (upd_n (by decide)).trans hI
    have hX : okX5 F10 := by rw [← eF10]; exact okX5_i hX (here_lt5 c52 (by decide)) rfl
    refine lv_aload_n hx hb dX5_readItem_65 rfl (lv_at hl 0 rfl) ?_
    refine getXh hx hb hts hown hK hG qF_X5_21 dX5_readItem_66 ?_
    refine lv_aload_n hx hb dX5_readItem_69 rfl (lv_at hl 0 rfl) ?_
    refine getX 5 hx hb hts hown hK hG (by decide) qF_X5_24 rfl dX5_readItem_70 ?_
    refine topN (n := (ti5 F)) hI ?_
    refine lv_aload_n hx hb dX5_readItem_73 rfl (lv_at hl 0 rfl) ?_
    refine lv_iconst (v := 2) hx hb dX5_readItem_74 (by decide) ?_
    refine lv_iconst (v := 1) hx hb dX5_readItem_75 (by decide) ?_
    refine lv_bipush (v := 99) hx hb dX5_readItem_76 (by decide) ?_
    refine gcVi (As := [.int 2, .int 1, .int 99]) (rest := [.int (nI (ti5 F)), .ref (t + 4)]) hx hb hml hown hts hl.1 hK (c_X5_readNumber l D t Y X3 U7 Z8 F10 2 1 99 hX (by first | assumption | omega)) (gaV qM_X5_48 qI_X5_readNumber qS_X5_readNumber qK_X5 qC_X5_readNumber) hdv_X5_readNumber ⟨Nat.le_of_ble_eq_true rfl, Nat.le_of_ble_eq_true rfl⟩ hG (hG.recv hK) rfl (Nat.le_of_ble_eq_true rfl) ⟨Nat.zero_le _, Nat.zero_le _⟩ dX5_readItem_78 hS hA (fun H locs hG _ _ hS => ?_)
    have hG : Tx D t Y X3 U7 Z8 (fF_X5_readNumber Y F10 2 1 99) H := hG
    generalize eF11 : fF_X5_readNumber Y F10 2 1 99 = F11 at hG
    have hq := num5 (Y := Y) (d := 2) (lo := 1) (hi := 99) hX
    have hI : F11 5 = nI (ti5 F) := by rw [← eF11]; exact (hq.2 5 (by decide) (by decide)).trans hI
    have hX : okX5 F11 := by rw [← eF11]; exact hq.1
    refine lv_topi (fun x12 ex12 => ?_)
    refine astXh (k := (ti5 F)) hx hb hK hG hS hA (by omega) dX5_readItem_81 (fun H locs hG hS => ?_)
    generalize eZ13 : upd Z8 (ti5 F) x12 = Z13 at hG
    refine lv_aload_n hx hb dX5_readItem_82 rfl (lv_at hl 0 rfl) ?_
    refine lv_bipush (v := 59) hx hb dX5_readItem_83 (by decide) ?_
    refine gcVv (As := [.int 59]) (rest := []) hx hb hml hown hts hl.1 hK (c_X5_expect l D t Y X3 U7 Z13 F11 59 hX) (gaV qM_X5_44 qI_X5_expect qS_X5_expect qK_X5 qC_X5_expect) hdv_X5_expect ⟨Nat.le_of_ble_eq_true rfl, Nat.le_of_ble_eq_true rfl⟩ hG (hG.recv hK) rfl (Nat.le_of_ble_eq_true rfl) ⟨Nat.zero_le _, Nat.zero_le _⟩ dX5_readItem_85 hS hA (fun H locs hG _ _ hS => ?_)
    have hG : Tx D t Y X3 U7 Z13 (fF_X5_expect Y F11 59) H := hG
    generalize eF14 : fF_X5_expect Y F11 59 = F14 at hG
    subst eF14
    subst eZ13
    subst ex12
    subst eF11
    subst eF10
    subst eZ8
    subst eU7
    subst ex6
    subst eF5
    subst eF4
    subst eX3
    subst ex2
    subst eF1
    have hG9 : Tx D t Y (fX_X5_readItem Y X U Z F) (fU_X5_readItem Y X U Z F) (fZ_X5_readItem Y X U Z F) (fF_X5_readItem Y X U Z F) H := by
      unfold fX_X5_readItem; (try dsimp only); (try rw [if_pos c52])
      unfold fU_X5_readItem; (try dsimp only); (try rw [if_pos c52])
      unfold fZ_X5_readItem; (try dsimp only); (try rw [if_pos c52])
      unfold fF_X5_readItem; (try dsimp only); (try rw [if_pos c52])
      exact hG
    exact W.vret hx hb hr (fun t ht hW => gQv_of hG9 hS ht) hS.2.2 dX5_readItem_88
