theorem hdv_X5_readTemperature : yX5_readTemperature.cls = RX5 ∧ yX5_readTemperature.cls ≠ "java/lang/invoke/MethodHandle" ∧ yX5_readTemperature.cls ≠ "java/lang/invoke/VarHandle" ∧ (parseMethodDescriptor yX5_readTemperature.desc).map (fun d => d.parameters.length) = some 0 := by decide +kernel
def fF_X5_readTemperature (Y : Nat → Int32) (F : Nat → Int32) : Nat → Int32 :=
  if fR_X5_here Y F = 45 then
    let F2 := upd F 6 (nI ((ta5 F) + 1))
    let F3 := fF_X5_readNumber Y F2 3 0 300
    F3
  else
    let F1 := fF_X5_readNumber Y F 3 0 300
    F1
def fR_X5_readTemperature (Y : Nat → Int32) (F : Nat → Int32) : Int32 :=
  if fR_X5_here Y F = 45 then
    let F2 := upd F 6 (nI ((ta5 F) + 1))
    (-(fR_X5_readNumber Y F2 3 0 300))
  else
    fR_X5_readNumber Y F 3 0 300
set_option maxHeartbeats 4000000 in
set_option maxRecDepth 100000 in
theorem c_X5_readTemperature (l : Launch) (D : va_G) (t : Nat) (Y X U Z F : Nat → Int32) (hX : okX5 F) : Met l yX5_readTemperature (wA yX5_readTemperature cX5_readTemperature 1 (some .int)) (rmL 3) (gPc D [.ref t] (fun H => Tx D t Y X U Z F H)) (gQi (inT t) (fR_X5_readTemperature Y F) (fun H => Tx D t Y X U Z (fF_X5_readTemperature Y F) H)) 0 0 (inT t) := by
  refine Met.ofW (cc := cX5_readTemperature) (maxL := 1) (ret := (some .int)) (by decide) rfl ?_
  intro p e s m args below meth c s₁ B hml hv
  obtain ⟨hav, hG, hK⟩ := hv
  have hx := B.exec
  have hb := B.bytes
  have hr := B.returns
  have hts0 := atoms_spec (ws := wA yX5_readTemperature cX5_readTemperature 1 (some .int)) B.pre
  have hts : ∀ w ∈ AW, w.before _ s = true := fun w h => hts0 w (List.mem_cons_of_mem _ h)
  have hown : s.vm.findClass RX5 = some m.cls := findClass_of_methodNamed B.named
  have hlocks := B.notSynchronized
  have hA : ∀ q, (inT t) q → (inT t) q := fun _ h => h
  have hS : va_S (inT t) s.heap s.heap [] := va_S.rf
  have hG : Tx D t Y X U Z F s.heap := hG
  have hl := lv_entry ([.ref t]) (n := 1) (Nat.le_of_ble_eq_true rfl)
  refine W.eq (g2 := entryFrame m ([.ref t] : List Value).toArray 1) (by rw [hav]) ?_
  rw [lg_entry_eq]
  generalize (lg_sl ([.ref t]) ++ List.replicate (1 - (lg_sl ([.ref t])).length) Slot.unset).toArray = ls at hl ⊢
  have hl : lv_has ls 1 [(0, .ref t)] := hl
  have hX2 := hX.1.2
  have hX3 := hX.2.2
  refine lv_aload_n hx hb dX5_readTemperature_0 rfl (lv_at hl 0 rfl) ?_
  refine gcVi (As := []) (rest := []) hx hb hml hown hts hl.1 hK (c_X5_here l D t Y X U Z F hX) (gaV qM_X5_52 qI_X5_here qS_X5_here qK_X5 qC_X5_here) hdv_X5_here ⟨Nat.le_of_ble_eq_true rfl, Nat.le_of_ble_eq_true rfl⟩ hG (hG.recv hK) rfl (Nat.le_of_ble_eq_true rfl) ⟨Nat.zero_le _, Nat.zero_le _⟩ dX5_readTemperature_1 hS hA (fun H locs hG _ _ hS => ?_)
  have hG : Tx D t Y X U Z F H := hG
  refine lv_bipush (v := 45) hx hb dX5_readTemperature_4 (by decide) ?_
  refine lv_icmp_ne (tgt := 30) hx hb dX5_readTemperature_6 (by decide) (fun c6 => ?_) (fun c6 => ?_)
  · refine lv_aload_n hx hb dX5_readTemperature_30 rfl (lv_at hl 0 rfl) ?_
    refine lv_iconst (v := 3) hx hb dX5_readTemperature_31 (by decide) ?_
    refine lv_iconst (v := 0) hx hb dX5_readTemperature_32 (by decide) ?_
    refine lv_sipush (v := 300) hx hb dX5_readTemperature_33 (by decide) ?_
    refine gcVi (As := [.int 3, .int 0, .int 300]) (rest := []) hx hb hml hown hts hl.1 hK (c_X5_readNumber l D t Y X U Z F 3 0 300 hX (by first | assumption | omega)) (gaV qM_X5_48 qI_X5_readNumber qS_X5_readNumber qK_X5 qC_X5_readNumber) hdv_X5_readNumber ⟨Nat.le_of_ble_eq_true rfl, Nat.le_of_ble_eq_true rfl⟩ hG (hG.recv hK) rfl (Nat.le_of_ble_eq_true rfl) ⟨Nat.zero_le _, Nat.zero_le _⟩ dX5_readTemperature_36 hS hA (fun H locs hG _ _ hS => ?_)
    have hG : Tx D t Y X U Z (fF_X5_readNumber Y F 3 0 300) H := hG
    generalize eF1 : fF_X5_readNumber Y F 3 0 300 = F1 at hG
    subst eF1
    have hG9 : Tx D t Y X U Z (fF_X5_readTemperature Y F) H := by
      unfold fF_X5_readTemperature; (try dsimp only); (try rw [if_neg c6])
      exact hG
    exact W.iret hx hb hr (fun t ht hW => gQi_of (by unfold fR_X5_readTemperature; (try dsimp only); (try rw [if_neg c6]); (try rfl)) hG9 hS ht) hS.2.2 dX5_readTemperature_39
  · refine lv_aload_n hx hb dX5_readTemperature_9 rfl (lv_at hl 0 rfl) ?_
    refine lv_dup hx hb dX5_readTemperature_10 rfl ?_
    refine getX 6 hx hb hts hown hK hG (by decide) qF_X5_28 rfl dX5_readTemperature_11 ?_
    refine topN (n := (ta5 F)) hX.2.1 ?_
    refine lv_iconst (v := 1) hx hb dX5_readTemperature_14 (by decide) ?_
    refine iaddN (a := (ta5 F)) (b := 1) hx hb dX5_readTemperature_15 ?_
    refine putX 6 hx hb hts hown hK hG hS hA (by decide) qF_X5_28 rfl dX5_readTemperature_16 (fun H locs hG hS => ?_)
    generalize eF2 : upd F 6 (nI ((ta5 F) + 1)) = F2 at hG
    have hX : okX5 F2 := by rw [← eF2]; exact okX5_i hX (here_lt5 c6 (by decide)) rfl
    refine lv_aload_n hx hb dX5_readTemperature_19 rfl (lv_at hl 0 rfl) ?_
    refine lv_iconst (v := 3) hx hb dX5_readTemperature_20 (by decide) ?_
    refine lv_iconst (v := 0) hx hb dX5_readTemperature_21 (by decide) ?_
    refine lv_sipush (v := 300) hx hb dX5_readTemperature_22 (by decide) ?_
    refine gcVi (As := [.int 3, .int 0, .int 300]) (rest := []) hx hb hml hown hts hl.1 hK (c_X5_readNumber l D t Y X U Z F2 3 0 300 hX (by first | assumption | omega)) (gaV qM_X5_48 qI_X5_readNumber qS_X5_readNumber qK_X5 qC_X5_readNumber) hdv_X5_readNumber ⟨Nat.le_of_ble_eq_true rfl, Nat.le_of_ble_eq_true rfl⟩ hG (hG.recv hK) rfl (Nat.le_of_ble_eq_true rfl) ⟨Nat.zero_le _, Nat.zero_le _⟩ dX5_readTemperature_25 hS hA (fun H locs hG _ _ hS => ?_)
    have hG : Tx D t Y X U Z (fF_X5_readNumber Y F2 3 0 300) H := hG
    generalize eF3 : fF_X5_readNumber Y F2 3 0 300 = F3 at hG
    refine lv_ineg hx hb dX5_readTemperature_28 ?_
    subst eF3
    subst eF2
    have hG9 : Tx D t Y X U Z (fF_X5_readTemperature Y F) H := by
      unfold fF_X5_readTemperature; (try dsimp only); (try rw [if_pos c6])
      exact hG
    exact W.iret hx hb hr (fun t ht hW => gQi_of (by unfold fR_X5_readTemperature; (try dsimp only); (try rw [if_pos c6]); (try rfl)) hG9 hS ht) hS.2.2 dX5_readTemperature_29
