/-- the page of a new model -/
def M0 : Nat → Int32 := fP_X7_layTerms (fP_X7_layTerms (fP_X7_layTerms (upd (upd (upd (fun _ => 0) 3 1000) 7 1000) 4 10) 0 20 3 30) 1 40 6 20) 2 60 12 10
theorem hdv_X7_init : yX7_init.cls = RX7 ∧ yX7_init.cls ≠ "java/lang/invoke/MethodHandle" ∧ yX7_init.cls ≠ "java/lang/invoke/VarHandle" ∧ (parseMethodDescriptor yX7_init.desc).map (fun d => d.parameters.length) = some 0 := by decide +kernel
set_option maxHeartbeats 4000000 in
set_option maxRecDepth 100000 in
theorem c_X7_init (l : Launch) (D : va_G) (o : Nat) : Met l yX7_init (wA yX7_init cX7_init 1 none) (rmX 1 4 1596) (gPc D [.ref o] (fun H => H.size = o + 1 ∧ va_P D vwCl [(o, .inr (7, [.null, .null, .null, .int 0, .null, .int 0, .int 0, .int 0, .int 0, .int 0, .int 0, .int 0, .long 0]))] H)) (gQv (fun x => o ≤ x) (fun H => H.size = o + 5 ∧ Md D o M0 (fun _ => 0) (fun _ => 0) (fun _ => 0) (fun _ => 0) 0 H)) 4 1596 (fun x => o ≤ x) := by
  refine Met.ofW (cc := cX7_init) (maxL := 1) (ret := none) (by decide) rfl ?_
  intro p e s m args below meth c s₁ B hml hv
  obtain ⟨hav, hG, hK⟩ := hv
  have hx := B.exec
  have hb := B.bytes
  have hr := B.returns
  have hts0 := atoms_spec (ws := wA yX7_init cX7_init 1 none) B.pre
  have hts : ∀ w ∈ AW, w.before _ s = true := fun w h => hts0 w (List.mem_cons_of_mem _ h)
  have hown : s.vm.findClass RX7 = some m.cls := findClass_of_methodNamed B.named
  have hlocks := B.notSynchronized
  have hS : va_S (fun x => o ≤ x) s.heap s.heap [] := va_S.rf
  have hin : meth.name = "<init>" := (name_of_methodNamed B.named B.method).1
  have hl := lv_entry ([.ref o]) (n := 1) (Nat.le_of_ble_eq_true rfl)
  refine W.eq (g2 := entryFrame m ([.ref o] : List Value).toArray 1) (by rw [hav]) ?_
  rw [lg_entry_eq]
  generalize (lg_sl ([.ref o]) ++ List.replicate (1 - (lg_sl ([.ref o])).length) Slot.unset).toArray = ls at hl ⊢
  have hl : lv_has ls 1 [(0, .ref o)] := hl
  have hA : ∀ x, o ≤ x → o ≤ x := fun _ h => h
  have hP : va_P D vwCl [(o, .inr (7, [.null, .null, .null, .int 0, .null, .int 0, .int 0, .int 0, .int 0, .int 0, .int 0, .int 0, .long 0]))] s.heap := hG.2
  have hsz : s.heap.size = o + 1 := hG.1
  have hz0 : s.heap.size = o + 1 := hG.1
  have hsp : spn o 1 [(o, .inr (7, [.null, .null, .null, .int 0, .null, .int 0, .int 0, .int 0, .int 0, .int 0, .int 0, .int 0, .long 0]))] := spn_nil.push rfl
  refine lv_aload_n hx hb dX7_init_0 rfl (lv_at hl 0 rfl) ?_
  refine gobj hx hb hml hown hts hl.1 qM_X7_1 dX7_init_1 ⟨Nat.le_of_ble_eq_true rfl, Nat.le_of_ble_eq_true rfl⟩ (Nat.le_of_ble_eq_true rfl) ?_
  refine lv_aload_n hx hb dX7_init_4 rfl (lv_at hl 0 rfl) ?_
  refine lv_sipush (v := 241) hx hb dX7_init_5 (by decide) ?_
  refine gnewI hx hb hts hK hP hS hsz (by decide) (show _ = 241 from rfl) (by decide) (Nat.le_of_ble_eq_true rfl) (Nat.le_of_ble_eq_true rfl) dX7_init_8 (fun H hP hsz _ hS => ?_)
  have hsp : spn o 2 ([(o, .inr (7, [.null, .null, .null, .int 0, .null, .int 0, .int 0, .int 0, .int 0, .int 0, .int 0, .int 0, .long 0])), (o + 1, .inl (D.1 100, 241, .inl (fun _ => 0)))]) := hsp.push rfl
  have hP : va_P D vwCl ([(o, .inr (7, [.null, .null, .null, .int 0, .null, .int 0, .int 0, .int 0, .int 0, .int 0, .int 0, .int 0, .long 0])), (o + 1, .inl (D.1 100, 241, .inl (fun _ => 0)))]) H := hP
  have hsz : H.size = o + 2 := hsz
  refine va_putF (ci := 7) (C := RX7) (T := TX7) (N := 13) hx hb hts awsX70 tyX7 tyX7_ok nmX7 hown hK hP (hsp.D (fun q h _ => hA q h)) hS 0 rfl rfl 0 (by decide) (hts _ qF_X7_7) (fun _ h => h) rfl hin rfl (tyX7_ok 0 (by decide)) rfl rfl (by simp) dX7_init_10 (fun H locs hP _ hS => ?_)
  have hsp : spn o 2 ([(o, .inr (7, [.ref (o + 1), .null, .null, .int 0, .null, .int 0, .int 0, .int 0, .int 0, .int 0, .int 0, .int 0, .long 0])), (o + 1, .inl (D.1 100, 241, .inl (fun _ => 0)))]) := hsp.set (k := 0) (a := o) (y := .inr (7, [.ref (o + 1), .null, .null, .int 0, .null, .int 0, .int 0, .int 0, .int 0, .int 0, .int 0, .int 0, .long 0])) rfl
  have hP : va_P D vwCl ([(o, .inr (7, [.ref (o + 1), .null, .null, .int 0, .null, .int 0, .int 0, .int 0, .int 0, .int 0, .int 0, .int 0, .long 0])), (o + 1, .inl (D.1 100, 241, .inl (fun _ => 0)))]) H := hP
  refine W.sz (fun hz9 => ?_)
  have hsz : H.size = o + 2 := hsp.sz hP (by omega)
  clear hz9
  refine lv_aload_n hx hb dX7_init_13 rfl (lv_at hl 0 rfl) ?_
  refine lv_sipush (v := 241) hx hb dX7_init_14 (by decide) ?_
  refine gnewI hx hb hts hK hP hS hsz (by decide) (show _ = 241 from rfl) (by decide) (Nat.le_of_ble_eq_true rfl) (Nat.le_of_ble_eq_true rfl) dX7_init_17 (fun H hP hsz _ hS => ?_)
  have hsp : spn o 3 ([(o, .inr (7, [.ref (o + 1), .null, .null, .int 0, .null, .int 0, .int 0, .int 0, .int 0, .int 0, .int 0, .int 0, .long 0])), (o + 1, .inl (D.1 100, 241, .inl (fun _ => 0))), (o + 2, .inl (D.1 100, 241, .inl (fun _ => 0)))]) := hsp.push rfl
  have hP : va_P D vwCl ([(o, .inr (7, [.ref (o + 1), .null, .null, .int 0, .null, .int 0, .int 0, .int 0, .int 0, .int 0, .int 0, .int 0, .long 0])), (o + 1, .inl (D.1 100, 241, .inl (fun _ => 0))), (o + 2, .inl (D.1 100, 241, .inl (fun _ => 0)))]) H := hP
  have hsz : H.size = o + 3 := hsz
  refine va_putF (ci := 7) (C := RX7) (T := TX7) (N := 13) hx hb hts awsX70 tyX7 tyX7_ok nmX7 hown hK hP (hsp.D (fun q h _ => hA q h)) hS 0 rfl rfl 1 (by decide) (hts _ qF_X7_13) (fun _ h => h) rfl hin rfl (tyX7_ok 1 (by decide)) rfl rfl (by simp) dX7_init_19 (fun H locs hP _ hS => ?_)
  have hsp : spn o 3 ([(o, .inr (7, [.ref (o + 1), .ref (o + 2), .null, .int 0, .null, .int 0, .int 0, .int 0, .int 0, .int 0, .int 0, .int 0, .long 0])), (o + 1, .inl (D.1 100, 241, .inl (fun _ => 0))), (o + 2, .inl (D.1 100, 241, .inl (fun _ => 0)))]) := hsp.set (k := 0) (a := o) (y := .inr (7, [.ref (o + 1), .ref (o + 2), .null, .int 0, .null, .int 0, .int 0, .int 0, .int 0, .int 0, .int 0, .int 0, .long 0])) rfl
  have hP : va_P D vwCl ([(o, .inr (7, [.ref (o + 1), .ref (o + 2), .null, .int 0, .null, .int 0, .int 0, .int 0, .int 0, .int 0, .int 0, .int 0, .long 0])), (o + 1, .inl (D.1 100, 241, .inl (fun _ => 0))), (o + 2, .inl (D.1 100, 241, .inl (fun _ => 0)))]) H := hP
  refine W.sz (fun hz9 => ?_)
  have hsz : H.size = o + 3 := hsp.sz hP (by omega)
  clear hz9
  refine lv_aload_n hx hb dX7_init_22 rfl (lv_at hl 0 rfl) ?_
  refine lv_sipush (v := 964) hx hb dX7_init_23 (by decide) ?_
  refine gnewI hx hb hts hK hP hS hsz (by decide) (show _ = 964 from rfl) (by decide) (Nat.le_of_ble_eq_true rfl) (Nat.le_of_ble_eq_true rfl) dX7_init_26 (fun H hP hsz _ hS => ?_)
  have hsp : spn o 4 ([(o, .inr (7, [.ref (o + 1), .ref (o + 2), .null, .int 0, .null, .int 0, .int 0, .int 0, .int 0, .int 0, .int 0, .int 0, .long 0])), (o + 1, .inl (D.1 100, 241, .inl (fun _ => 0))), (o + 2, .inl (D.1 100, 241, .inl (fun _ => 0))), (o + 3, .inl (D.1 100, 964, .inl (fun _ => 0)))]) := hsp.push rfl
  have hP : va_P D vwCl ([(o, .inr (7, [.ref (o + 1), .ref (o + 2), .null, .int 0, .null, .int 0, .int 0, .int 0, .int 0, .int 0, .int 0, .int 0, .long 0])), (o + 1, .inl (D.1 100, 241, .inl (fun _ => 0))), (o + 2, .inl (D.1 100, 241, .inl (fun _ => 0))), (o + 3, .inl (D.1 100, 964, .inl (fun _ => 0)))]) H := hP
  have hsz : H.size = o + 4 := hsz
  refine va_putF (ci := 7) (C := RX7) (T := TX7) (N := 13) hx hb hts awsX70 tyX7 tyX7_ok nmX7 hown hK hP (hsp.D (fun q h _ => hA q h)) hS 0 rfl rfl 2 (by decide) (hts _ qF_X7_16) (fun _ h => h) rfl hin rfl (tyX7_ok 2 (by decide)) rfl rfl (by simp) dX7_init_28 (fun H locs hP _ hS => ?_)
  have hsp : spn o 4 ([(o, .inr (7, [.ref (o + 1), .ref (o + 2), .ref (o + 3), .int 0, .null, .int 0, .int 0, .int 0, .int 0, .int 0, .int 0, .int 0, .long 0])), (o + 1, .inl (D.1 100, 241, .inl (fun _ => 0))), (o + 2, .inl (D.1 100, 241, .inl (fun _ => 0))), (o + 3, .inl (D.1 100, 964, .inl (fun _ => 0)))]) := hsp.set (k := 0) (a := o) (y := .inr (7, [.ref (o + 1), .ref (o + 2), .ref (o + 3), .int 0, .null, .int 0, .int 0, .int 0, .int 0, .int 0, .int 0, .int 0, .long 0])) rfl
  have hP : va_P D vwCl ([(o, .inr (7, [.ref (o + 1), .ref (o + 2), .ref (o + 3), .int 0, .null, .int 0, .int 0, .int 0, .int 0, .int 0, .int 0, .int 0, .long 0])), (o + 1, .inl (D.1 100, 241, .inl (fun _ => 0))), (o + 2, .inl (D.1 100, 241, .inl (fun _ => 0))), (o + 3, .inl (D.1 100, 964, .inl (fun _ => 0)))]) H := hP
  refine W.sz (fun hz9 => ?_)
  have hsz : H.size = o + 4 := hsp.sz hP (by omega)
  clear hz9
  refine lv_aload_n hx hb dX7_init_31 rfl (lv_at hl 0 rfl) ?_
  refine lv_sipush (v := 150) hx hb dX7_init_32 (by decide) ?_
  refine gnewI hx hb hts hK hP hS hsz (by decide) (show _ = 150 from rfl) (by decide) (Nat.le_of_ble_eq_true rfl) (Nat.le_of_ble_eq_true rfl) dX7_init_35 (fun H hP hsz _ hS => ?_)
  have hsp : spn o 5 ([(o, .inr (7, [.ref (o + 1), .ref (o + 2), .ref (o + 3), .int 0, .null, .int 0, .int 0, .int 0, .int 0, .int 0, .int 0, .int 0, .long 0])), (o + 1, .inl (D.1 100, 241, .inl (fun _ => 0))), (o + 2, .inl (D.1 100, 241, .inl (fun _ => 0))), (o + 3, .inl (D.1 100, 964, .inl (fun _ => 0))), (o + 4, .inl (D.1 100, 150, .inl (fun _ => 0)))]) := hsp.push rfl
  have hP : va_P D vwCl ([(o, .inr (7, [.ref (o + 1), .ref (o + 2), .ref (o + 3), .int 0, .null, .int 0, .int 0, .int 0, .int 0, .int 0, .int 0, .int 0, .long 0])), (o + 1, .inl (D.1 100, 241, .inl (fun _ => 0))), (o + 2, .inl (D.1 100, 241, .inl (fun _ => 0))), (o + 3, .inl (D.1 100, 964, .inl (fun _ => 0))), (o + 4, .inl (D.1 100, 150, .inl (fun _ => 0)))]) H := hP
  have hsz : H.size = o + 5 := hsz
  refine va_putF (ci := 7) (C := RX7) (T := TX7) (N := 13) hx hb hts awsX70 tyX7 tyX7_ok nmX7 hown hK hP (hsp.D (fun q h _ => hA q h)) hS 0 rfl rfl 4 (by decide) (hts _ qF_X7_19) (fun _ h => h) rfl hin rfl (tyX7_ok 4 (by decide)) rfl rfl (by simp) dX7_init_37 (fun H locs hP _ hS => ?_)
  have hsp : spn o 5 ([(o, .inr (7, [.ref (o + 1), .ref (o + 2), .ref (o + 3), .int 0, .ref (o + 4), .int 0, .int 0, .int 0, .int 0, .int 0, .int 0, .int 0, .long 0])), (o + 1, .inl (D.1 100, 241, .inl (fun _ => 0))), (o + 2, .inl (D.1 100, 241, .inl (fun _ => 0))), (o + 3, .inl (D.1 100, 964, .inl (fun _ => 0))), (o + 4, .inl (D.1 100, 150, .inl (fun _ => 0)))]) := hsp.set (k := 0) (a := o) (y := .inr (7, [.ref (o + 1), .ref (o + 2), .ref (o + 3), .int 0, .ref (o + 4), .int 0, .int 0, .int 0, .int 0, .int 0, .int 0, .int 0, .long 0])) rfl
  have hP : va_P D vwCl ([(o, .inr (7, [.ref (o + 1), .ref (o + 2), .ref (o + 3), .int 0, .ref (o + 4), .int 0, .int 0, .int 0, .int 0, .int 0, .int 0, .int 0, .long 0])), (o + 1, .inl (D.1 100, 241, .inl (fun _ => 0))), (o + 2, .inl (D.1 100, 241, .inl (fun _ => 0))), (o + 3, .inl (D.1 100, 964, .inl (fun _ => 0))), (o + 4, .inl (D.1 100, 150, .inl (fun _ => 0)))]) H := hP
  refine W.sz (fun hz9 => ?_)
  have hsz : H.size = o + 5 := hsp.sz hP (by omega)
  clear hz9
  have hG : Md D o (fun _ => 0) (fun _ => 0) (fun _ => 0) (fun _ => 0) (fun _ => 0) 0 H := hP
  have hAM : ∀ q, inM o q → o ≤ q := fun q h => h.1
  refine lv_aload_n hx hb dX7_init_40 rfl (lv_at hl 0 rfl) ?_
  refine getMm hx hb hts hown hK hG qF_X7_7 dX7_init_41 ?_
  refine lv_iconst (v := 3) hx hb dX7_init_44 (by decide) ?_
  refine lv_sipush (v := 1000) hx hb dX7_init_45 (by decide) ?_
  refine astMm (k := 3) hx hb hK hG hS hAM (by decide) dX7_init_48 (fun H locs hG hS => ?_)
  refine lv_aload_n hx hb dX7_init_49 rfl (lv_at hl 0 rfl) ?_
  refine getMm hx hb hts hown hK hG qF_X7_7 dX7_init_50 ?_
  refine lv_bipush (v := 7) hx hb dX7_init_53 (by decide) ?_
  refine lv_sipush (v := 1000) hx hb dX7_init_55 (by decide) ?_
  refine astMm (k := 7) hx hb hK hG hS hAM (by decide) dX7_init_58 (fun H locs hG hS => ?_)
  refine lv_aload_n hx hb dX7_init_59 rfl (lv_at hl 0 rfl) ?_
  refine getMm hx hb hts hown hK hG qF_X7_7 dX7_init_60 ?_
  refine lv_iconst (v := 4) hx hb dX7_init_63 (by decide) ?_
  refine lv_bipush (v := 10) hx hb dX7_init_64 (by decide) ?_
  refine astMm (k := 4) hx hb hK hG hS hAM (by decide) dX7_init_66 (fun H locs hG hS => ?_)
  refine lv_aload_n hx hb dX7_init_67 rfl (lv_at hl 0 rfl) ?_
  refine lv_iconst (v := 0) hx hb dX7_init_68 (by decide) ?_
  refine lv_bipush (v := 20) hx hb dX7_init_69 (by decide) ?_
  refine lv_iconst (v := 3) hx hb dX7_init_71 (by decide) ?_
  refine lv_bipush (v := 30) hx hb dX7_init_72 (by decide) ?_
  refine gcVv (As := [.int (nI 0), .int 20, .int 3, .int 30]) (rest := []) hx hb hml hown hts hl.1 hK (c_X7_layTerms l D o _ _ _ _ _ _ 0 20 3 30 (by decide)) (gaV qM_X7_22 qI_X7_layTerms qS_X7_layTerms qK_X7 qC_X7_layTerms) hdv_X7_layTerms ⟨(Nat.le_of_ble_eq_true rfl), (Nat.le_of_ble_eq_true rfl)⟩ hG (hG.recv hK) rfl (Nat.le_of_ble_eq_true rfl) ⟨(Nat.le_of_ble_eq_true rfl), (Nat.le_of_ble_eq_true rfl)⟩ dX7_init_74 hS hAM (fun H locs hG _ _ hS => ?_)
  refine lv_aload_n hx hb dX7_init_77 rfl (lv_at hl 0 rfl) ?_
  refine lv_iconst (v := 1) hx hb dX7_init_78 (by decide) ?_
  refine lv_bipush (v := 40) hx hb dX7_init_79 (by decide) ?_
  refine lv_bipush (v := 6) hx hb dX7_init_81 (by decide) ?_
  refine lv_bipush (v := 20) hx hb dX7_init_83 (by decide) ?_
  refine gcVv (As := [.int (nI 1), .int 40, .int 6, .int 20]) (rest := []) hx hb hml hown hts hl.1 hK (c_X7_layTerms l D o _ _ _ _ _ _ 1 40 6 20 (by decide)) (gaV qM_X7_22 qI_X7_layTerms qS_X7_layTerms qK_X7 qC_X7_layTerms) hdv_X7_layTerms ⟨(Nat.le_of_ble_eq_true rfl), (Nat.le_of_ble_eq_true rfl)⟩ hG (hG.recv hK) rfl (Nat.le_of_ble_eq_true rfl) ⟨(Nat.le_of_ble_eq_true rfl), (Nat.le_of_ble_eq_true rfl)⟩ dX7_init_85 hS hAM (fun H locs hG _ _ hS => ?_)
  refine lv_aload_n hx hb dX7_init_88 rfl (lv_at hl 0 rfl) ?_
  refine lv_iconst (v := 2) hx hb dX7_init_89 (by decide) ?_
  refine lv_bipush (v := 60) hx hb dX7_init_90 (by decide) ?_
  refine lv_bipush (v := 12) hx hb dX7_init_92 (by decide) ?_
  refine lv_bipush (v := 10) hx hb dX7_init_94 (by decide) ?_
  refine gcVv (As := [.int (nI 2), .int 60, .int 12, .int 10]) (rest := []) hx hb hml hown hts hl.1 hK (c_X7_layTerms l D o _ _ _ _ _ _ 2 60 12 10 (by decide)) (gaV qM_X7_22 qI_X7_layTerms qS_X7_layTerms qK_X7 qC_X7_layTerms) hdv_X7_layTerms ⟨(Nat.le_of_ble_eq_true rfl), (Nat.le_of_ble_eq_true rfl)⟩ hG (hG.recv hK) rfl (Nat.le_of_ble_eq_true rfl) ⟨(Nat.le_of_ble_eq_true rfl), (Nat.le_of_ble_eq_true rfl)⟩ dX7_init_96 hS hAM (fun H locs hG _ _ hS => ?_)
  have hsp : spn o 5 (mL D o M0 (fun _ => 0) (fun _ => 0) (fun _ => 0) (fun _ => 0) 0) := mL_spn
  have hP : va_P D vwCl (mL D o M0 (fun _ => 0) (fun _ => 0) (fun _ => 0) (fun _ => 0) 0) H := hG
  refine W.sz (fun hz9 => ?_)
  have hsz : H.size = o + 5 := hsp.sz hP (by omega)
  clear hz9
  refine W.widen (k := 4) (n := 1596) (by omega) (by omega) ?_
  exact W.vret hx hb hr (fun t1 ht hW => gQv_of (Pic := fun H => H.size = o + 5 ∧ Md D o M0 (fun _ => 0) (fun _ => 0) (fun _ => 0) (fun _ => 0) 0 H) ⟨hsz, hP⟩ hS ht) hS.2.2 dX7_init_99

