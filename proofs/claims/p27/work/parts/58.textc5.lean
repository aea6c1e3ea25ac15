theorem hdv_X5_readItems : yX5_readItems.cls = RX5 ∧ yX5_readItems.cls ≠ "java/lang/invoke/MethodHandle" ∧ yX5_readItems.cls ≠ "java/lang/invoke/VarHandle" ∧ (parseMethodDescriptor yX5_readItems.desc).map (fun d => d.parameters.length) = some 0 := by decide +kernel
def fX_X5_readItems_L15 (Y : Nat → Int32) : Nat → (Nat → Int32) → (Nat → Int32) → (Nat → Int32) → (Nat → Int32) → Nat → Int32
  | 0, Xl, Ul, Zl, Fl =>
    Xl
  | k + 1, Xl, Ul, Zl, Fl =>
    if (tl5 Fl) ≤ (ta5 Fl) then
      Xl
    else
      if Fl 7 = (-1) then
        let X4 := fX_X5_readItem Y Xl Ul Zl Fl
        let U5 := fU_X5_readItem Y Xl Ul Zl Fl
        let Z6 := fZ_X5_readItem Y Xl Ul Zl Fl
        let F7 := fF_X5_readItem Y Xl Ul Zl Fl
        let F8 := upd F7 5 (nI ((ti5 Fl) + 1))
        fX_X5_readItems_L15 Y k X4 U5 Z6 F8
      else
        Xl
def fU_X5_readItems_L15 (Y : Nat → Int32) : Nat → (Nat → Int32) → (Nat → Int32) → (Nat → Int32) → (Nat → Int32) → Nat → Int32
  | 0, Xl, Ul, Zl, Fl =>
    Ul
  | k + 1, Xl, Ul, Zl, Fl =>
    if (tl5 Fl) ≤ (ta5 Fl) then
      Ul
    else
      if Fl 7 = (-1) then
        let X4 := fX_X5_readItem Y Xl Ul Zl Fl
        let U5 := fU_X5_readItem Y Xl Ul Zl Fl
        let Z6 := fZ_X5_readItem Y Xl Ul Zl Fl
        let F7 := fF_X5_readItem Y Xl Ul Zl Fl
        let F8 := upd F7 5 (nI ((ti5 Fl) + 1))
        fU_X5_readItems_L15 Y k X4 U5 Z6 F8
      else
        Ul
def fZ_X5_readItems_L15 (Y : Nat → Int32) : Nat → (Nat → Int32) → (Nat → Int32) → (Nat → Int32) → (Nat → Int32) → Nat → Int32
  | 0, Xl, Ul, Zl, Fl =>
    Zl
  | k + 1, Xl, Ul, Zl, Fl =>
    if (tl5 Fl) ≤ (ta5 Fl) then
      Zl
    else
      if Fl 7 = (-1) then
        let X4 := fX_X5_readItem Y Xl Ul Zl Fl
        let U5 := fU_X5_readItem Y Xl Ul Zl Fl
        let Z6 := fZ_X5_readItem Y Xl Ul Zl Fl
        let F7 := fF_X5_readItem Y Xl Ul Zl Fl
        let F8 := upd F7 5 (nI ((ti5 Fl) + 1))
        fZ_X5_readItems_L15 Y k X4 U5 Z6 F8
      else
        Zl
def fF_X5_readItems_L15 (Y : Nat → Int32) : Nat → (Nat → Int32) → (Nat → Int32) → (Nat → Int32) → (Nat → Int32) → Nat → Int32
  | 0, Xl, Ul, Zl, Fl =>
    Fl
  | k + 1, Xl, Ul, Zl, Fl =>
    if (tl5 Fl) ≤ (ta5 Fl) then
      Fl
    else
      if Fl 7 = (-1) then
        let X4 := fX_X5_readItem Y Xl Ul Zl Fl
        let U5 := fU_X5_readItem Y Xl Ul Zl Fl
        let Z6 := fZ_X5_readItem Y Xl Ul Zl Fl
        let F7 := fF_X5_readItem Y Xl Ul Zl Fl
        let F8 := upd F7 5 (nI ((ti5 Fl) + 1))
        fF_X5_readItems_L15 Y k X4 U5 Z6 F8
      else
        Fl
def fR_X5_readItems_L15 (Y : Nat → Int32) : Nat → (Nat → Int32) → (Nat → Int32) → (Nat → Int32) → (Nat → Int32) → Int32
  | 0, Xl, Ul, Zl, Fl =>
    Fl 7
  | k + 1, Xl, Ul, Zl, Fl =>
    if (tl5 Fl) ≤ (ta5 Fl) then
      Fl 7
    else
      if Fl 7 = (-1) then
        let X4 := fX_X5_readItem Y Xl Ul Zl Fl
        let U5 := fU_X5_readItem Y Xl Ul Zl Fl
        let Z6 := fZ_X5_readItem Y Xl Ul Zl Fl
        let F7 := fF_X5_readItem Y Xl Ul Zl Fl
        let F8 := upd F7 5 (nI ((ti5 Fl) + 1))
        fR_X5_readItems_L15 Y k X4 U5 Z6 F8
      else
        Fl 7
def fX_X5_readItems (Y : Nat → Int32) (X : Nat → Int32) (U : Nat → Int32) (Z : Nat → Int32) (F : Nat → Int32) : Nat → Int32 :=
  let F1 := upd F 5 0
  let F2 := upd F1 6 0
  let F3 := upd F2 7 (-1)
  fX_X5_readItems_L15 Y 38 X U Z F3
def fU_X5_readItems (Y : Nat → Int32) (X : Nat → Int32) (U : Nat → Int32) (Z : Nat → Int32) (F : Nat → Int32) : Nat → Int32 :=
  let F1 := upd F 5 0
  let F2 := upd F1 6 0
  let F3 := upd F2 7 (-1)
  fU_X5_readItems_L15 Y 38 X U Z F3
def fZ_X5_readItems (Y : Nat → Int32) (X : Nat → Int32) (U : Nat → Int32) (Z : Nat → Int32) (F : Nat → Int32) : Nat → Int32 :=
  let F1 := upd F 5 0
  let F2 := upd F1 6 0
  let F3 := upd F2 7 (-1)
  fZ_X5_readItems_L15 Y 38 X U Z F3
def fF_X5_readItems (Y : Nat → Int32) (X : Nat → Int32) (U : Nat → Int32) (Z : Nat → Int32) (F : Nat → Int32) : Nat → Int32 :=
  let F1 := upd F 5 0
  let F2 := upd F1 6 0
  let F3 := upd F2 7 (-1)
  fF_X5_readItems_L15 Y 38 X U Z F3
def fR_X5_readItems (Y : Nat → Int32) (X : Nat → Int32) (U : Nat → Int32) (Z : Nat → Int32) (F : Nat → Int32) : Int32 :=
  let F1 := upd F 5 0
  let F2 := upd F1 6 0
  let F3 := upd F2 7 (-1)
  fR_X5_readItems_L15 Y 38 X U Z F3
set_option maxHeartbeats 4000000 in
set_option maxRecDepth 100000 in
theorem c_X5_readItems (l : Launch) (D : va_G) (t : Nat) (Y X U Z F : Nat → Int32) (hT : okT5 F) : Met l yX5_readItems (wA yX5_readItems cX5_readItems 1 (some .int)) (rmL 5) (gPc D [.ref t] (fun H => Tx D t Y X U Z F H)) (gQi (inT t) (fR_X5_readItems Y X U Z F) (fun H => Tx D t Y (fX_X5_readItems Y X U Z F) (fU_X5_readItems Y X U Z F) (fZ_X5_readItems Y X U Z F) (fF_X5_readItems Y X U Z F) H)) 0 0 (inT t) := by
  refine Met.ofW (cc := cX5_readItems) (maxL := 1) (ret := (some .int)) (by decide) rfl ?_
  intro p e s m args below meth c s₁ B hml hv
  obtain ⟨hav, hG, hK⟩ := hv
  have hx := B.exec
  have hb := B.bytes
  have hr := B.returns
  have hts0 := atoms_spec (ws := wA yX5_readItems cX5_readItems 1 (some .int)) B.pre
  have hts : ∀ w ∈ AW, w.before _ s = true := fun w h => hts0 w (List.mem_cons_of_mem _ h)
  have hown : s.vm.findClass RX5 = some m.cls := findClass_of_methodNamed B.named
  have hlocks := B.notSynchronized
  have hA : ∀ q, (inT t) q → (inT t) q := fun _ h => h
  have hS : va_S (inT t) s.heap s.heap [] := va_S.rf
  have hG : Tx D t Y X U Z F s.heap := hG
  have hl := lv_entry ([.ref t]) (n := 1) (Nat.le_of_ble_eq_true rfl)
  refine W.eq (g2 := entryFrame m ([.ref t] : List Value).toArray 1) (by rw [hav]) ?_
  rw [lg_entry_eq]
  generalize (lg_sl ([.ref t]) ++ List.replicate (1 - (lg_sl ([.ref t])).length) Slot.unset).toArray = ls at hl ⊢
  have hl : lv_has ls 1 [(0, .ref t)] := hl
  have L15 : ∀ (k : Nat) (Xl : Nat → Int32) (Ul : Nat → Int32) (Zl : Nat → Int32) (Fl : Nat → Int32) (H : Heap) (locs : List Loc) (ls : Array Slot) (hX : okX5 Fl) (hI : Fl 5 = nI (ti5 Fl)) (hk : ti5 Fl + k = 38) (hfX : fX_X5_readItems Y X U Z F = fX_X5_readItems_L15 Y k Xl Ul Zl Fl) (hfU : fU_X5_readItems Y X U Z F = fU_X5_readItems_L15 Y k Xl Ul Zl Fl) (hfZ : fZ_X5_readItems Y X U Z F = fZ_X5_readItems_L15 Y k Xl Ul Zl Fl) (hfF : fF_X5_readItems Y X U Z F = fF_X5_readItems_L15 Y k Xl Ul Zl Fl) (hfR : fR_X5_readItems Y X U Z F = fR_X5_readItems_L15 Y k Xl Ul Zl Fl) (hG : Tx D t Y Xl Ul Zl Fl H) (hS : va_S (inT t) s.heap H locs) (hl : lv_has ls 1 [(0, .ref t)]), W p l e (headSpec (wA yX5_readItems cX5_readItems 1 (some .int)) (rmL 5)).room s m args below meth c H locs 0 0 (MQ below (gQi (inT t) (fR_X5_readItems Y X U Z F) (fun H => Tx D t Y (fX_X5_readItems Y X U Z F) (fU_X5_readItems Y X U Z F) (fZ_X5_readItems Y X U Z F) (fF_X5_readItems Y X U Z F) H)) args s 0 0 (inT t)) (F0 m 15 ls []) := by
    intro k
    induction k with
    | zero =>
      intro Xl Ul Zl Fl H locs ls hX hI hk hfX hfU hfZ hfF hfR hG hS hl
      refine lv_aload_n hx hb dX5_readItems_15 rfl (lv_at hl 0 rfl) ?_
      refine getX 5 hx hb hts hown hK hG (by decide) qF_X5_24 rfl dX5_readItems_16 ?_
      refine topN (n := (ti5 Fl)) hI ?_
      refine lv_bipush (v := 38) hx hb dX5_readItems_19 (by decide) ?_
      refine lv_icmp_ge (tgt := 60) hx hb dX5_readItems_21 (by decide) (fun c21 => ?_) (fun c21 => ?_)
      · have c21 : 38 ≤ (ti5 Fl) := (nI_leI (a := 38) (b := (ti5 Fl)) (by omega) (by omega)).mp c21
        refine lv_aload_n hx hb dX5_readItems_60 rfl (lv_at hl 0 rfl) ?_
        refine getX 7 hx hb hts hown hK hG (by decide) qF_X5_31 rfl dX5_readItems_61 ?_
        have hG9 : Tx D t Y (fX_X5_readItems Y X U Z F) (fU_X5_readItems Y X U Z F) (fZ_X5_readItems Y X U Z F) (fF_X5_readItems Y X U Z F) H := by
          rw [hfX, fX_X5_readItems_L15]; (try dsimp only)
          rw [hfU, fU_X5_readItems_L15]; (try dsimp only)
          rw [hfZ, fZ_X5_readItems_L15]; (try dsimp only)
          rw [hfF, fF_X5_readItems_L15]; (try dsimp only)
          exact hG
        exact W.iret hx hb hr (fun t ht hW => gQi_of (by rw [hfR, fR_X5_readItems_L15]; (try dsimp only); (try rfl)) hG9 hS ht) hS.2.2 dX5_readItems_64
      · have c21 : ¬ 38 ≤ (ti5 Fl) := fun h => c21 ((nI_leI (a := 38) (b := (ti5 Fl)) (by omega) (by omega)).mpr h)
        exfalso; omega
    | succ k ih =>
      intro Xl Ul Zl Fl H locs ls hX hI hk hfX hfU hfZ hfF hfR hG hS hl
      refine lv_aload_n hx hb dX5_readItems_15 rfl (lv_at hl 0 rfl) ?_
      refine getX 5 hx hb hts hown hK hG (by decide) qF_X5_24 rfl dX5_readItems_16 ?_
      refine topN (n := (ti5 Fl)) hI ?_
      refine lv_bipush (v := 38) hx hb dX5_readItems_19 (by decide) ?_
      refine lv_icmp_ge (tgt := 60) hx hb dX5_readItems_21 (by decide) (fun c21 => ?_) (fun c21 => ?_)
      · have c21 : 38 ≤ (ti5 Fl) := (nI_leI (a := 38) (b := (ti5 Fl)) (by omega) (by omega)).mp c21
        exfalso; omega
      · have c21 : ¬ 38 ≤ (ti5 Fl) := fun h => c21 ((nI_leI (a := 38) (b := (ti5 Fl)) (by omega) (by omega)).mpr h)
        refine lv_aload_n hx hb dX5_readItems_24 rfl (lv_at hl 0 rfl) ?_
        have hX2 := hX.1.2
        have hX3 := hX.2.2
        refine getX 6 hx hb hts hown hK hG (by decide) qF_X5_28 rfl dX5_readItems_25 ?_
        refine topN (n := (ta5 Fl)) hX.2.1 ?_
        refine lv_aload_n hx hb dX5_readItems_28 rfl (lv_at hl 0 rfl) ?_
        refine getX 1 hx hb hts hown hK hG (by decide) qF_X5_34 rfl dX5_readItems_29 ?_
        refine topN (n := (tl5 Fl)) hX.1.1 ?_
        refine lv_icmp_ge (tgt := 60) hx hb dX5_readItems_32 (by decide) (fun c32 => ?_) (fun c32 => ?_)
        · have c32 : (tl5 Fl) ≤ (ta5 Fl) := (nI_leI (a := (tl5 Fl)) (b := (ta5 Fl)) (by omega) (by omega)).mp c32
          refine lv_aload_n hx hb dX5_readItems_60 rfl (lv_at hl 0 rfl) ?_
          refine getX 7 hx hb hts hown hK hG (by decide) qF_X5_31 rfl dX5_readItems_61 ?_
          have hG9 : Tx D t Y (fX_X5_readItems Y X U Z F) (fU_X5_readItems Y X U Z F) (fZ_X5_readItems Y X U Z F) (fF_X5_readItems Y X U Z F) H := by
            rw [hfX, fX_X5_readItems_L15]; (try dsimp only); (try rw [if_pos c32])
            rw [hfU, fU_X5_readItems_L15]; (try dsimp only); (try rw [if_pos c32])
            rw [hfZ, fZ_X5_readItems_L15]; (try dsimp only); (try rw [if_pos c32])
            rw [hfF, fF_X5_readItems_L15]; (try dsimp only); (try rw [if_pos c32])
            exact hG
          exact W.iret hx hb hr (fun t ht hW => gQi_of (by rw [hfR, fR_X5_readItems_L15]; (try dsimp only); (try rw [if_pos c32]); (try rfl)) hG9 hS ht) hS.2.2 dX5_readItems_64
        · have c32 : ¬ (tl5 Fl) ≤ (ta5 Fl) := fun h => c32 ((nI_leI (a := (tl5 Fl)) (b := (ta5 Fl)) (by omega) (by omega)).mpr h)
          refine lv_aload_n hx hb dX5_readItems_35 rfl (lv_at hl 0 rfl) ?_
          refine getX 7 hx hb hts hown hK hG (by decide) qF_X5_31 rfl dX5_readItems_36 ?_
          refine lv_iconst (v := (-1)) hx hb dX5_readItems_39 (by decide) ?_
          refine lv_icmp_ne (tgt := 60) hx hb dX5_readItems_40 (by decide) (fun c40 => ?_) (fun c40 => ?_)
          · refine lv_aload_n hx hb dX5_readItems_60 rfl (lv_at hl 0 rfl) ?_
            refine getX 7 hx hb hts hown hK hG (by decide) qF_X5_31 rfl dX5_readItems_61 ?_
            have hG9 : Tx D t Y (fX_X5_readItems Y X U Z F) (fU_X5_readItems Y X U Z F) (fZ_X5_readItems Y X U Z F) (fF_X5_readItems Y X U Z F) H := by
              rw [hfX, fX_X5_readItems_L15]; (try dsimp only); (try rw [if_neg c32, if_neg c40])
              rw [hfU, fU_X5_readItems_L15]; (try dsimp only); (try rw [if_neg c32, if_neg c40])
              rw [hfZ, fZ_X5_readItems_L15]; (try dsimp only); (try rw [if_neg c32, if_neg c40])
              rw [hfF, fF_X5_readItems_L15]; (try dsimp only); (try rw [if_neg c32, if_neg c40])
              exact hG
            exact W.iret hx hb hr (fun t ht hW => gQi_of (by rw [hfR, fR_X5_readItems_L15]; (try dsimp only); (try rw [if_neg c32, if_neg c40]); (try rfl)) hG9 hS ht) hS.2.2 dX5_readItems_64
          · refine lv_aload_n hx hb dX5_readItems_43 rfl (lv_at hl 0 rfl) ?_
            refine gcVv (As := []) (rest := []) hx hb hml hown hts hl.1 hK (c_X5_readItem l D t Y Xl Ul Zl Fl hX hI (by omega)) (gaV qM_X5_37 qI_X5_readItem qS_X5_readItem qK_X5 qC_X5_readItem) hdv_X5_readItem ⟨Nat.le_of_ble_eq_true rfl, Nat.le_of_ble_eq_true rfl⟩ hG (hG.recv hK) rfl (Nat.le_of_ble_eq_true rfl) ⟨Nat.zero_le _, Nat.zero_le _⟩ dX5_readItems_44 hS hA (fun H locs hG _ _ hS => ?_)
            have hG : Tx D t Y (fX_X5_readItem Y Xl Ul Zl Fl) (fU_X5_readItem Y Xl Ul Zl Fl) (fZ_X5_readItem Y Xl Ul Zl Fl) (fF_X5_readItem Y Xl Ul Zl Fl) H := hG
            generalize eX4 : fX_X5_readItem Y Xl Ul Zl Fl = X4 at hG
            generalize eU5 : fU_X5_readItem Y Xl Ul Zl Fl = U5 at hG
            generalize eZ6 : fZ_X5_readItem Y Xl Ul Zl Fl = Z6 at hG
            generalize eF7 : fF_X5_readItem Y Xl Ul Zl Fl = F7 at hG
            have hq := item5 (Y := Y) (X := Xl) (U := Ul) (Z := Zl) hX
            have hI9 : F7 5 = nI (ti5 Fl) := by rw [← eF7]; exact (hq.2 5 (by decide) (by decide)).trans hI
            refine lv_aload_n hx hb dX5_readItems_47 rfl (lv_at hl 0 rfl) ?_
            refine lv_dup hx hb dX5_readItems_48 rfl ?_
            refine getX 5 hx hb hts hown hK hG (by decide) qF_X5_24 rfl dX5_readItems_49 ?_
            refine topN (n := (ti5 Fl)) hI9 ?_
            refine lv_iconst (v := 1) hx hb dX5_readItems_52 (by decide) ?_
            refine iaddN (a := (ti5 Fl)) (b := 1) hx hb dX5_readItems_53 ?_
            refine putX 5 hx hb hts hown hK hG hS hA (by decide) qF_X5_24 rfl dX5_readItems_54 (fun H locs hG hS => ?_)
            generalize eF8 : upd F7 5 (nI ((ti5 Fl) + 1)) = F8 at hG
            refine lv_goto (tgt := 15) hx hb dX5_readItems_57 (by decide) ?_
            subst eF8
            subst eF7
            subst eZ6
            subst eU5
            subst eX4
            exact ih _ _ _ _ _ _ _ (okX5_c (upd_n (by decide)) (upd_n (by decide)) hq.1) (by rw [upd_s, ti5_u (by omega)]) (by rw [ti5_u (by omega)]; omega) (by rw [hfX, fX_X5_readItems_L15]; (try dsimp only); (try rw [if_neg c32, if_pos c40]); (try rfl)) (by rw [hfU, fU_X5_readItems_L15]; (try dsimp only); (try rw [if_neg c32, if_pos c40]); (try rfl)) (by rw [hfZ, fZ_X5_readItems_L15]; (try dsimp only); (try rw [if_neg c32, if_pos c40]); (try rfl)) (by rw [hfF, fF_X5_readItems_L15]; (try dsimp only); (try rw [if_neg c32, if_pos c40]); (try rfl)) (by rw [hfR, fR_X5_readItems_L15]; (try dsimp only); (try rw [if_neg c32, if_pos c40]); (try rfl)) hG hS (lv_sub hl [0] rfl)
  refine lv_aload_n hx hb dX5_readItems_0 rfl (lv_at hl 0 rfl) ?_
  refine lv_iconst (v := 0) hx hb dX5_readItems_1 (by decide) ?_
  refine putX 5 hx hb hts hown hK hG hS hA (by decide) qF_X5_24 rfl dX5_readItems_2 (fun H locs hG hS => ?_)
  generalize eF1 : upd F 5 0 = F1 at hG
  refine lv_aload_n hx hb dX5_readItems_5 rfl (lv_at hl 0 rfl) ?_
  refine lv_iconst (v := 0) hx hb dX5_readItems_6 (by decide) ?_
  refine putX 6 hx hb hts hown hK hG hS hA (by decide) qF_X5_28 rfl dX5_readItems_7 (fun H locs hG hS => ?_)
  generalize eF2 : upd F1 6 0 = F2 at hG
  refine lv_aload_n hx hb dX5_readItems_10 rfl (lv_at hl 0 rfl) ?_
  refine lv_iconst (v := (-1)) hx hb dX5_readItems_11 (by decide) ?_
  refine putX 7 hx hb hts hown hK hG hS hA (by decide) qF_X5_31 rfl dX5_readItems_12 (fun H locs hG hS => ?_)
  generalize eF3 : upd F2 7 (-1) = F3 at hG
  subst eF3
  subst eF2
  subst eF1
  exact L15 38 _ _ _ _ _ _ _ (start5 hT).1 (start5 hT).2.1 (by rw [(start5 hT).2.2]) (by unfold fX_X5_readItems; (try dsimp only); (try rfl)) (by unfold fU_X5_readItems; (try dsimp only); (try rfl)) (by unfold fZ_X5_readItems; (try dsimp only); (try rfl)) (by unfold fF_X5_readItems; (try dsimp only); (try rfl)) (by unfold fR_X5_readItems; (try dsimp only); (try rfl)) hG hS (lv_sub hl [0] rfl)
