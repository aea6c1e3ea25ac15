theorem hdv_X5_init : yX5_init.cls = RX5 ∧ yX5_init.cls ≠ "java/lang/invoke/MethodHandle" ∧ yX5_init.cls ≠ "java/lang/invoke/VarHandle" ∧ (parseMethodDescriptor yX5_init.desc).map (fun d => d.parameters.length) = some 0 := by decide +kernel
set_option maxHeartbeats 4000000 in
set_option maxRecDepth 100000 in
theorem c_X5_init (l : Launch) (D : va_G) (t : Nat) : Met l yX5_init (wA yX5_init cX5_init 1 none) (rmX 1 4 264) (gPc D [.ref t] (fun H => H.size = t + 1 ∧ va_P D vwCl [(t, .inr (5, [.null, .int 0, .null, .null, .null, .int 0, .int 0, .int 0]))] H)) (gQv (fun x => t ≤ x) (fun H => H.size = t + 5 ∧ Tx D t (fun _ => 0) (fun _ => 0) (fun _ => 0) (fun _ => 0) (fun _ => 0) H)) 4 264 (fun x => t ≤ x) := by
  refine Met.ofW (cc := cX5_init) (maxL := 1) (ret := none) (by decide) rfl ?_
  intro p e s m args below meth c s₁ B hml hv
  obtain ⟨hav, hG, hK⟩ := hv
  have hx := B.exec
  have hb := B.bytes
  have hr := B.returns
  have hts0 := atoms_spec (ws := wA yX5_init cX5_init 1 none) B.pre
  have hts : ∀ w ∈ AW, w.before _ s = true := fun w h => hts0 w (List.mem_cons_of_mem _ h)
  have hown : s.vm.findClass RX5 = some m.cls := findClass_of_methodNamed B.named
  have hlocks := B.notSynchronized
  have hS : va_S (fun x => t ≤ x) s.heap s.heap [] := va_S.rf
  have hin : meth.name = "<init>" := (name_of_methodNamed B.named B.method).1
  have hl := lv_entry ([.ref t]) (n := 1) (Nat.le_of_ble_eq_true rfl)
  refine W.eq (g2 := entryFrame m ([.ref t] : List Value).toArray 1) (by rw [hav]) ?_
  rw [lg_entry_eq]
  generalize (lg_sl ([.ref t]) ++ List.replicate (1 - (lg_sl ([.ref t])).length) Slot.unset).toArray = ls at hl ⊢
  have hl : lv_has ls 1 [(0, .ref t)] := hl
  have hA : ∀ x, t ≤ x → t ≤ x := fun _ h => h
  have hP : va_P D vwCl [(t, .inr (5, [.null, .int 0, .null, .null, .null, .int 0, .int 0, .int 0]))] s.heap := hG.2
  have hsz : s.heap.size = t + 1 := hG.1
  have hz0 : s.heap.size = t + 1 := hG.1
  have hsp : spn t 1 [(t, .inr (5, [.null, .int 0, .null, .null, .null, .int 0, .int 0, .int 0]))] := spn_nil.push rfl
  refine lv_aload_n hx hb dX5_init_0 rfl (lv_at hl 0 rfl) ?_
  refine gobj hx hb hml hown hts hl.1 qM_X5_3 dX5_init_1 ⟨Nat.le_of_ble_eq_true rfl, Nat.le_of_ble_eq_true rfl⟩ (Nat.le_of_ble_eq_true rfl) ?_
  refine lv_aload_n hx hb dX5_init_4 rfl (lv_at hl 0 rfl) ?_
  refine lv_sipush (v := 150) hx hb dX5_init_5 (by decide) ?_
  refine gnewI hx hb hts hK hP hS hsz (by decide) (show _ = 150 from rfl) (by decide) (Nat.le_of_ble_eq_true rfl) (Nat.le_of_ble_eq_true rfl) dX5_init_8 (fun H hP hsz _ hS => ?_)
  have hsp : spn t 2 ([(t, .inr (5, [.null, .int 0, .null, .null, .null, .int 0, .int 0, .int 0])), (t + 1, .inl (D.1 100, 150, .inl (fun _ => 0)))]) := hsp.push rfl
  have hP : va_P D vwCl ([(t, .inr (5, [.null, .int 0, .null, .null, .null, .int 0, .int 0, .int 0])), (t + 1, .inl (D.1 100, 150, .inl (fun _ => 0)))]) H := hP
  have hsz : H.size = t + 2 := hsz
  refine va_putF (ci := 5) (C := RX5) (T := TX5) (N := 8) hx hb hts awsX50 tyX5 tyX5_ok nmX5 hown hK hP (hsp.D (fun q h _ => hA q h)) hS 0 rfl rfl 0 (by decide) (hts _ qF_X5_9) (fun _ h => h) rfl hin rfl (tyX5_ok 0 (by decide)) rfl rfl (by simp) dX5_init_10 (fun H locs hP _ hS => ?_)
  have hsp : spn t 2 ([(t, .inr (5, [.ref (t + 1), .int 0, .null, .null, .null, .int 0, .int 0, .int 0])), (t + 1, .inl (D.1 100, 150, .inl (fun _ => 0)))]) := hsp.set (k := 0) (a := t) (y := .inr (5, [.ref (t + 1), .int 0, .null, .null, .null, .int 0, .int 0, .int 0])) rfl
  have hP : va_P D vwCl ([(t, .inr (5, [.ref (t + 1), .int 0, .null, .null, .null, .int 0, .int 0, .int 0])), (t + 1, .inl (D.1 100, 150, .inl (fun _ => 0)))]) H := hP
  refine W.sz (fun hz9 => ?_)
  have hsz : H.size = t + 2 := hsp.sz hP (by omega)
  clear hz9
  refine lv_aload_n hx hb dX5_init_13 rfl (lv_at hl 0 rfl) ?_
  refine lv_bipush (v := 38) hx hb dX5_init_14 (by decide) ?_
  refine gnewI hx hb hts hK hP hS hsz (by decide) (show _ = 38 from rfl) (by decide) (Nat.le_of_ble_eq_true rfl) (Nat.le_of_ble_eq_true rfl) dX5_init_16 (fun H hP hsz _ hS => ?_)
  have hsp : spn t 3 ([(t, .inr (5, [.ref (t + 1), .int 0, .null, .null, .null, .int 0, .int 0, .int 0])), (t + 1, .inl (D.1 100, 150, .inl (fun _ => 0))), (t + 2, .inl (D.1 100, 38, .inl (fun _ => 0)))]) := hsp.push rfl
  have hP : va_P D vwCl ([(t, .inr (5, [.ref (t + 1), .int 0, .null, .null, .null, .int 0, .int 0, .int 0])), (t + 1, .inl (D.1 100, 150, .inl (fun _ => 0))), (t + 2, .inl (D.1 100, 38, .inl (fun _ => 0)))]) H := hP
  have hsz : H.size = t + 3 := hsz
  refine va_putF (ci := 5) (C := RX5) (T := TX5) (N := 8) hx hb hts awsX50 tyX5 tyX5_ok nmX5 hown hK hP (hsp.D (fun q h _ => hA q h)) hS 0 rfl rfl 2 (by decide) (hts _ qF_X5_15) (fun _ h => h) rfl hin rfl (tyX5_ok 2 (by decide)) rfl rfl (by simp) dX5_init_18 (fun H locs hP _ hS => ?_)
  have hsp : spn t 3 ([(t, .inr (5, [.ref (t + 1), .int 0, .ref (t + 2), .null, .null, .int 0, .int 0, .int 0])), (t + 1, .inl (D.1 100, 150, .inl (fun _ => 0))), (t + 2, .inl (D.1 100, 38, .inl (fun _ => 0)))]) := hsp.set (k := 0) (a := t) (y := .inr (5, [.ref (t + 1), .int 0, .ref (t + 2), .null, .null, .int 0, .int 0, .int 0])) rfl
  have hP : va_P D vwCl ([(t, .inr (5, [.ref (t + 1), .int 0, .ref (t + 2), .null, .null, .int 0, .int 0, .int 0])), (t + 1, .inl (D.1 100, 150, .inl (fun _ => 0))), (t + 2, .inl (D.1 100, 38, .inl (fun _ => 0)))]) H := hP
  refine W.sz (fun hz9 => ?_)
  have hsz : H.size = t + 3 := hsp.sz hP (by omega)
  clear hz9
  refine lv_aload_n hx hb dX5_init_21 rfl (lv_at hl 0 rfl) ?_
  refine lv_bipush (v := 38) hx hb dX5_init_22 (by decide) ?_
  refine gnewI hx hb hts hK hP hS hsz (by decide) (show _ = 38 from rfl) (by decide) (Nat.le_of_ble_eq_true rfl) (Nat.le_of_ble_eq_true rfl) dX5_init_24 (fun H hP hsz _ hS => ?_)
  have hsp : spn t 4 ([(t, .inr (5, [.ref (t + 1), .int 0, .ref (t + 2), .null, .null, .int 0, .int 0, .int 0])), (t + 1, .inl (D.1 100, 150, .inl (fun _ => 0))), (t + 2, .inl (D.1 100, 38, .inl (fun _ => 0))), (t + 3, .inl (D.1 100, 38, .inl (fun _ => 0)))]) := hsp.push rfl
  have hP : va_P D vwCl ([(t, .inr (5, [.ref (t + 1), .int 0, .ref (t + 2), .null, .null, .int 0, .int 0, .int 0])), (t + 1, .inl (D.1 100, 150, .inl (fun _ => 0))), (t + 2, .inl (D.1 100, 38, .inl (fun _ => 0))), (t + 3, .inl (D.1 100, 38, .inl (fun _ => 0)))]) H := hP
  have hsz : H.size = t + 4 := hsz
  refine va_putF (ci := 5) (C := RX5) (T := TX5) (N := 8) hx hb hts awsX50 tyX5 tyX5_ok nmX5 hown hK hP (hsp.D (fun q h _ => hA q h)) hS 0 rfl rfl 3 (by decide) (hts _ qF_X5_18) (fun _ h => h) rfl hin rfl (tyX5_ok 3 (by decide)) rfl rfl (by simp) dX5_init_26 (fun H locs hP _ hS => ?_)
  have hsp : spn t 4 ([(t, .inr (5, [.ref (t + 1), .int 0, .ref (t + 2), .ref (t + 3), .null, .int 0, .int 0, .int 0])), (t + 1, .inl (D.1 100, 150, .inl (fun _ => 0))), (t + 2, .inl (D.1 100, 38, .inl (fun _ => 0))), (t + 3, .inl (D.1 100, 38, .inl (fun _ => 0)))]) := hsp.set (k := 0) (a := t) (y := .inr (5, [.ref (t + 1), .int 0, .ref (t + 2), .ref (t + 3), .null, .int 0, .int 0, .int 0])) rfl
  have hP : va_P D vwCl ([(t, .inr (5, [.ref (t + 1), .int 0, .ref (t + 2), .ref (t + 3), .null, .int 0, .int 0, .int 0])), (t + 1, .inl (D.1 100, 150, .inl (fun _ => 0))), (t + 2, .inl (D.1 100, 38, .inl (fun _ => 0))), (t + 3, .inl (D.1 100, 38, .inl (fun _ => 0)))]) H := hP
  refine W.sz (fun hz9 => ?_)
  have hsz : H.size = t + 4 := hsp.sz hP (by omega)
  clear hz9
  refine lv_aload_n hx hb dX5_init_29 rfl (lv_at hl 0 rfl) ?_
  refine lv_bipush (v := 38) hx hb dX5_init_30 (by decide) ?_
  refine gnewI hx hb hts hK hP hS hsz (by decide) (show _ = 38 from rfl) (by decide) (Nat.le_of_ble_eq_true rfl) (Nat.le_of_ble_eq_true rfl) dX5_init_32 (fun H hP hsz _ hS => ?_)
  have hsp : spn t 5 ([(t, .inr (5, [.ref (t + 1), .int 0, .ref (t + 2), .ref (t + 3), .null, .int 0, .int 0, .int 0])), (t + 1, .inl (D.1 100, 150, .inl (fun _ => 0))), (t + 2, .inl (D.1 100, 38, .inl (fun _ => 0))), (t + 3, .inl (D.1 100, 38, .inl (fun _ => 0))), (t + 4, .inl (D.1 100, 38, .inl (fun _ => 0)))]) := hsp.push rfl
  have hP : va_P D vwCl ([(t, .inr (5, [.ref (t + 1), .int 0, .ref (t + 2), .ref (t + 3), .null, .int 0, .int 0, .int 0])), (t + 1, .inl (D.1 100, 150, .inl (fun _ => 0))), (t + 2, .inl (D.1 100, 38, .inl (fun _ => 0))), (t + 3, .inl (D.1 100, 38, .inl (fun _ => 0))), (t + 4, .inl (D.1 100, 38, .inl (fun _ => 0)))]) H := hP
  have hsz : H.size = t + 5 := hsz
  refine va_putF (ci := 5) (C := RX5) (T := TX5) (N := 8) hx hb hts awsX50 tyX5 tyX5_ok nmX5 hown hK hP (hsp.D (fun q h _ => hA q h)) hS 0 rfl rfl 4 (by decide) (hts _ qF_X5_21) (fun _ h => h) rfl hin rfl (tyX5_ok 4 (by decide)) rfl rfl (by simp) dX5_init_34 (fun H locs hP _ hS => ?_)
  have hsp : spn t 5 ([(t, .inr (5, [.ref (t + 1), .int 0, .ref (t + 2), .ref (t + 3), .ref (t + 4), .int 0, .int 0, .int 0])), (t + 1, .inl (D.1 100, 150, .inl (fun _ => 0))), (t + 2, .inl (D.1 100, 38, .inl (fun _ => 0))), (t + 3, .inl (D.1 100, 38, .inl (fun _ => 0))), (t + 4, .inl (D.1 100, 38, .inl (fun _ => 0)))]) := hsp.set (k := 0) (a := t) (y := .inr (5, [.ref (t + 1), .int 0, .ref (t + 2), .ref (t + 3), .ref (t + 4), .int 0, .int 0, .int 0])) rfl
  have hP : va_P D vwCl ([(t, .inr (5, [.ref (t + 1), .int 0, .ref (t + 2), .ref (t + 3), .ref (t + 4), .int 0, .int 0, .int 0])), (t + 1, .inl (D.1 100, 150, .inl (fun _ => 0))), (t + 2, .inl (D.1 100, 38, .inl (fun _ => 0))), (t + 3, .inl (D.1 100, 38, .inl (fun _ => 0))), (t + 4, .inl (D.1 100, 38, .inl (fun _ => 0)))]) H := hP
  refine W.sz (fun hz9 => ?_)
  have hsz : H.size = t + 5 := hsp.sz hP (by omega)
  clear hz9
  exact W.vret hx hb hr (fun t1 ht hW => gQv_of (Pic := fun H => H.size = t + 5 ∧ Tx D t (fun _ => 0) (fun _ => 0) (fun _ => 0) (fun _ => 0) (fun _ => 0) H) ⟨hsz, hP⟩ hS ht) hS.2.2 dX5_init_37
