theorem hdv_X6_init : yX6_init.cls = RX6 ∧ yX6_init.cls ≠ "java/lang/invoke/MethodHandle" ∧ yX6_init.cls ≠ "java/lang/invoke/VarHandle" ∧ (parseMethodDescriptor yX6_init.desc).map (fun d => d.parameters.length) = some 0 := by decide +kernel
set_option maxHeartbeats 4000000 in
set_option maxRecDepth 100000 in
theorem c_X6_init (l : Launch) (D : va_G) (r : Nat) : Met l yX6_init (wA yX6_init cX6_init 1 none) (rmX 4 205 1910) (kPc D [.ref r] (fun H => H.size = r + 1 ∧ va_P D vwCl [(r, .inr (6, [.null, .null, .null, .null]))] H)) (gQv (fun x => r ≤ x) (fun H => H.size = r + 206 ∧ Sn D r P0 P0 (fun _ => P0) 0 (fun _ => 0) (fun _ => 0) (fun _ => 0) (fun _ => 0) (fun _ => 0) H)) 205 1910 (fun x => r ≤ x) := by
  refine Met.ofW (cc := cX6_init) (maxL := 1) (ret := none) (by decide) rfl ?_
  intro p e s m args below meth c s₁ B hml hv
  obtain ⟨hav, hG, hK, hKa⟩ := hv
  have hx := B.exec
  have hb := B.bytes
  have hr := B.returns
  have hts0 := atoms_spec (ws := wA yX6_init cX6_init 1 none) B.pre
  have hts : ∀ w ∈ AW, w.before _ s = true := fun w h => hts0 w (List.mem_cons_of_mem _ h)
  have hown : s.vm.findClass RX6 = some m.cls := findClass_of_methodNamed B.named
  have hlocks := B.notSynchronized
  have hS : va_S (fun x => r ≤ x) s.heap s.heap [] := va_S.rf
  have hin : meth.name = "<init>" := (name_of_methodNamed B.named B.method).1
  have hl := lv_entry ([.ref r]) (n := 1) (Nat.le_of_ble_eq_true rfl)
  refine W.eq (g2 := entryFrame m ([.ref r] : List Value).toArray 1) (by rw [hav]) ?_
  rw [lg_entry_eq]
  generalize (lg_sl ([.ref r]) ++ List.replicate (1 - (lg_sl ([.ref r])).length) Slot.unset).toArray = ls at hl ⊢
  have hl : lv_has ls 1 [(0, .ref r)] := hl
  have hA : ∀ x, r ≤ x → r ≤ x := fun _ h => h
  have hz0 : s.heap.size = r + 1 := hG.1
  have ST4 : ∀ (H : Heap) (locs : List Loc) (ls : Array Slot), va_P D vwCl ([(r, .inr (6, [.ref (r + 1), .ref (r + 34), .ref (r + 67), .ref (r + 201)]))] ++ ((((([] : va_W) ++ gL D (r + 1) P0) ++ gL D (r + 34) P0) ++ vL D (r + 67) (fun i => i) (fun _ => P0) 0) ++ xL D (r + 201) (fun _ => 0) (fun _ => 0) (fun _ => 0) (fun _ => 0) (fun _ => 0))) H → spn r 206 ([(r, .inr (6, [.ref (r + 1), .ref (r + 34), .ref (r + 67), .ref (r + 201)]))] ++ ((((([] : va_W) ++ gL D (r + 1) P0) ++ gL D (r + 34) P0) ++ vL D (r + 67) (fun i => i) (fun _ => P0) 0) ++ xL D (r + 201) (fun _ => 0) (fun _ => 0) (fun _ => 0) (fun _ => 0) (fun _ => 0))) → H.size = r + 206 → va_S (fun x => r ≤ x) s.heap H locs → lv_has ls 1 [(0, .ref r)] → W p l e (headSpec (wA yX6_init cX6_init 1 none) (rmX 4 205 1910)).room s m args below meth c H locs (205) (1910) (MQ below (gQv (fun x => r ≤ x) (fun H => H.size = r + 206 ∧ Sn D r P0 P0 (fun _ => P0) 0 (fun _ => 0) (fun _ => 0) (fun _ => 0) (fun _ => 0) (fun _ => 0) H)) args s 205 1910 (fun x => r ≤ x)) (F0 m 48 ls []) := by
    intro H locs ls hP hsp hsz hS hl
    have hT := va_P_r hP
    have hG9 : Sn D r P0 P0 (fun _ => P0) 0 (fun _ => 0) (fun _ => 0) (fun _ => 0) (fun _ => 0) (fun _ => 0) H := Sn.mk (g := fun i => i) (N := fun _ => P0) ⟨fun i h => h, fun i j _ _ h => h⟩ (fun _ _ => rfl) (va_P_l hP) (va_P_r (va_P_l (va_P_l (va_P_l hT)))) (va_P_r (va_P_l (va_P_l hT))) (va_P_r (va_P_l hT)) (va_P_r hT)
    refine W.widen (k := 205) (n := 1910) (by omega) (by omega) ?_
    exact W.vret hx hb hr (fun t1 ht hW => gQv_of (Pic := fun H => H.size = r + 206 ∧ Sn D r P0 P0 (fun _ => P0) 0 (fun _ => 0) (fun _ => 0) (fun _ => 0) (fun _ => 0) (fun _ => 0) H) ⟨hsz, hG9⟩ hS ht) hS.2.2 dX6_init_48
  have ST3 : ∀ (H : Heap) (locs : List Loc) (ls : Array Slot), va_P D vwCl ([(r, .inr (6, [.ref (r + 1), .ref (r + 34), .ref (r + 67), .null]))] ++ (((([] : va_W) ++ gL D (r + 1) P0) ++ gL D (r + 34) P0) ++ vL D (r + 67) (fun i => i) (fun _ => P0) 0)) H → spn r 201 ([(r, .inr (6, [.ref (r + 1), .ref (r + 34), .ref (r + 67), .null]))] ++ (((([] : va_W) ++ gL D (r + 1) P0) ++ gL D (r + 34) P0) ++ vL D (r + 67) (fun i => i) (fun _ => P0) 0)) → H.size = r + 201 → va_S (fun x => r ≤ x) s.heap H locs → lv_has ls 1 [(0, .ref r)] → W p l e (headSpec (wA yX6_init cX6_init 1 none) (rmX 4 205 1910)).room s m args below meth c H locs (200) (1638) (MQ below (gQv (fun x => r ≤ x) (fun H => H.size = r + 206 ∧ Sn D r P0 P0 (fun _ => P0) 0 (fun _ => 0) (fun _ => 0) (fun _ => 0) (fun _ => 0) (fun _ => 0) H)) args s 205 1910 (fun x => r ≤ x)) (F0 m 37 ls []) := by
    intro H locs ls hP hsp hsz hS hl
    refine lv_aload_n hx hb dX6_init_37 rfl (lv_at hl 0 rfl) ?_
    refine gnew (ci := 5) (C := RX5) (T := TX5) (N := 8) (fs := [.null, .int 0, .null, .null, .null, .int 0, .int 0, .int 0]) hx hb hts awsX50 tyX5_ok hown qL_X6_26 qN_X5 qK_X5 hK hP hS hsz rfl (fun j hj => by rcases (show j = 0 ∨ j = 1 ∨ j = 2 ∨ j = 3 ∨ j = 4 ∨ j = 5 ∨ j = 6 ∨ j = 7 by omega) with rfl | rfl | rfl | rfl | rfl | rfl | rfl | rfl <;> rfl) (Nat.le_of_ble_eq_true rfl) (Nat.le_of_ble_eq_true rfl) dX6_init_38 (fun H hP hsz _ hS => ?_)
    refine lv_dup hx hb dX6_init_41 rfl ?_
    refine gcIn (As := []) (rest := [.ref (r + 201), .ref r]) hx hb hml hown hts hl.1 (c_X5_init l D (r + 201)) qC_X5_init qK_X5 hKa.2.2.2 qI_X5_init rfl hdv_X5_init.2 ⟨(Nat.le_of_ble_eq_true rfl), (Nat.le_of_ble_eq_true rfl)⟩ (gPre_S hK ⟨hsz, va_P_r hP⟩) rfl (Nat.le_of_ble_eq_true rfl) ⟨(Nat.le_of_ble_eq_true rfl), (Nat.le_of_ble_eq_true rfl)⟩ dX6_init_42 hS (fun q h => by omega) (fun H locs hN _ hq hS => ?_)
    have hP : va_P D vwCl (([(r, .inr (6, [.ref (r + 1), .ref (r + 34), .ref (r + 67), .null]))] ++ (((([] : va_W) ++ gL D (r + 1) P0) ++ gL D (r + 34) P0) ++ vL D (r + 67) (fun i => i) (fun _ => P0) 0)) ++ xL D (r + 201) (fun _ => 0) (fun _ => 0) (fun _ => 0) (fun _ => 0) (fun _ => 0)) H := ctor_join hsp hP rfl hN.2 hq
    have hsp : spn r 206 (([(r, .inr (6, [.ref (r + 1), .ref (r + 34), .ref (r + 67), .null]))] ++ (((([] : va_W) ++ gL D (r + 1) P0) ++ gL D (r + 34) P0) ++ vL D (r + 67) (fun i => i) (fun _ => P0) 0)) ++ xL D (r + 201) (fun _ => 0) (fun _ => 0) (fun _ => 0) (fun _ => 0) (fun _ => 0)) := hsp.app (n := 201) (m := 5) xL_spn
    rw [List.append_assoc] at hP hsp
    refine va_putF (ci := 6) (C := RX6) (T := TX6) (N := 4) hx hb hts awsX60 tyX6 tyX6_ok nmX6 hown hK hP (hsp.D (fun q h _ => hA q h)) hS 0 rfl rfl 3 (by decide) (hts _ qF_X6_29) (fun _ h => h) rfl hin rfl (tyX6_ok 3 (by decide)) rfl rfl (by simp) dX6_init_45 (fun H locs hP _ hS => ?_)
    have hsp : spn r 206 ([(r, .inr (6, [.ref (r + 1), .ref (r + 34), .ref (r + 67), .ref (r + 201)]))] ++ ((((([] : va_W) ++ gL D (r + 1) P0) ++ gL D (r + 34) P0) ++ vL D (r + 67) (fun i => i) (fun _ => P0) 0) ++ xL D (r + 201) (fun _ => 0) (fun _ => 0) (fun _ => 0) (fun _ => 0) (fun _ => 0))) := hsp.set (k := 0) (a := r) (y := .inr (6, [.ref (r + 1), .ref (r + 34), .ref (r + 67), .ref (r + 201)])) rfl
    have hP : va_P D vwCl ([(r, .inr (6, [.ref (r + 1), .ref (r + 34), .ref (r + 67), .ref (r + 201)]))] ++ ((((([] : va_W) ++ gL D (r + 1) P0) ++ gL D (r + 34) P0) ++ vL D (r + 67) (fun i => i) (fun _ => P0) 0) ++ xL D (r + 201) (fun _ => 0) (fun _ => 0) (fun _ => 0) (fun _ => 0) (fun _ => 0))) H := hP
    refine W.sz (fun hz9 => ?_)
    have hsz : H.size = r + 206 := hsp.sz hP (by omega)
    clear hz9
    refine W.widen (k := 205) (n := 1910) (by omega) (by omega) ?_
    exact ST4 _ _ _ hP hsp hsz hS hl
  have ST2 : ∀ (H : Heap) (locs : List Loc) (ls : Array Slot), va_P D vwCl ([(r, .inr (6, [.ref (r + 1), .ref (r + 34), .null, .null]))] ++ ((([] : va_W) ++ gL D (r + 1) P0) ++ gL D (r + 34) P0)) H → spn r 67 ([(r, .inr (6, [.ref (r + 1), .ref (r + 34), .null, .null]))] ++ ((([] : va_W) ++ gL D (r + 1) P0) ++ gL D (r + 34) P0)) → H.size = r + 67 → va_S (fun x => r ≤ x) s.heap H locs → lv_has ls 1 [(0, .ref r)] → W p l e (headSpec (wA yX6_init cX6_init 1 none) (rmX 4 205 1910)).room s m args below meth c H locs (66) (544) (MQ below (gQv (fun x => r ≤ x) (fun H => H.size = r + 206 ∧ Sn D r P0 P0 (fun _ => P0) 0 (fun _ => 0) (fun _ => 0) (fun _ => 0) (fun _ => 0) (fun _ => 0) H)) args s 205 1910 (fun x => r ≤ x)) (F0 m 26 ls []) := by
    intro H locs ls hP hsp hsz hS hl
    refine lv_aload_n hx hb dX6_init_26 rfl (lv_at hl 0 rfl) ?_
    refine gnew (ci := 2) (C := RX2) (T := TX2) (N := 2) (fs := [.null, .int 0]) hx hb hts awsX20 tyX2_ok hown qL_X6_19 qN_X2 qK_X2 hK hP hS hsz rfl (fun j hj => by rcases (show j = 0 ∨ j = 1 by omega) with rfl | rfl <;> rfl) (Nat.le_of_ble_eq_true rfl) (Nat.le_of_ble_eq_true rfl) dX6_init_27 (fun H hP hsz _ hS => ?_)
    refine lv_dup hx hb dX6_init_30 rfl ?_
    refine gcIv (As := []) (rest := [.ref (r + 67), .ref r]) hx hb hml hown hts hl.1 (c_X2_init l D (r + 67)) qC_X2_init qK_X2 qM_X6_21 qI_X2_init rfl hdv_X2_init.2 ⟨(Nat.le_of_ble_eq_true rfl), (Nat.le_of_ble_eq_true rfl)⟩ (kPre_S hK hKa ⟨hsz, va_P_r hP⟩) rfl (Nat.le_of_ble_eq_true rfl) ⟨(Nat.le_of_ble_eq_true rfl), (Nat.le_of_ble_eq_true rfl)⟩ dX6_init_31 hS (fun q h => by omega) (fun H locs hN _ hq hS => ?_)
    have hP : va_P D vwCl (([(r, .inr (6, [.ref (r + 1), .ref (r + 34), .null, .null]))] ++ ((([] : va_W) ++ gL D (r + 1) P0) ++ gL D (r + 34) P0)) ++ vL D (r + 67) (fun i => i) (fun _ => P0) 0) H := ctor_join hsp hP rfl hN.2 hq
    have hsp : spn r 201 (([(r, .inr (6, [.ref (r + 1), .ref (r + 34), .null, .null]))] ++ ((([] : va_W) ++ gL D (r + 1) P0) ++ gL D (r + 34) P0)) ++ vL D (r + 67) (fun i => i) (fun _ => P0) 0) := hsp.app (n := 67) (m := 134) vL_spn
    rw [List.append_assoc] at hP hsp
    refine va_putF (ci := 6) (C := RX6) (T := TX6) (N := 4) hx hb hts awsX60 tyX6 tyX6_ok nmX6 hown hK hP (hsp.D (fun q h _ => hA q h)) hS 0 rfl rfl 2 (by decide) (hts _ qF_X6_22) (fun _ h => h) rfl hin rfl (tyX6_ok 2 (by decide)) rfl rfl (by simp) dX6_init_34 (fun H locs hP _ hS => ?_)
    have hsp : spn r 201 ([(r, .inr (6, [.ref (r + 1), .ref (r + 34), .ref (r + 67), .null]))] ++ (((([] : va_W) ++ gL D (r + 1) P0) ++ gL D (r + 34) P0) ++ vL D (r + 67) (fun i => i) (fun _ => P0) 0)) := hsp.set (k := 0) (a := r) (y := .inr (6, [.ref (r + 1), .ref (r + 34), .ref (r + 67), .null])) rfl
    have hP : va_P D vwCl ([(r, .inr (6, [.ref (r + 1), .ref (r + 34), .ref (r + 67), .null]))] ++ (((([] : va_W) ++ gL D (r + 1) P0) ++ gL D (r + 34) P0) ++ vL D (r + 67) (fun i => i) (fun _ => P0) 0)) H := hP
    refine W.sz (fun hz9 => ?_)
    have hsz : H.size = r + 201 := hsp.sz hP (by omega)
    clear hz9
    refine W.widen (k := 200) (n := 1638) (by omega) (by omega) ?_
    exact ST3 _ _ _ hP hsp hsz hS hl
  have ST1 : ∀ (H : Heap) (locs : List Loc) (ls : Array Slot), va_P D vwCl ([(r, .inr (6, [.ref (r + 1), .null, .null, .null]))] ++ (([] : va_W) ++ gL D (r + 1) P0)) H → spn r 34 ([(r, .inr (6, [.ref (r + 1), .null, .null, .null]))] ++ (([] : va_W) ++ gL D (r + 1) P0)) → H.size = r + 34 → va_S (fun x => r ≤ x) s.heap H locs → lv_has ls 1 [(0, .ref r)] → W p l e (headSpec (wA yX6_init cX6_init 1 none) (rmX 4 205 1910)).room s m args below meth c H locs (33) (272) (MQ below (gQv (fun x => r ≤ x) (fun H => H.size = r + 206 ∧ Sn D r P0 P0 (fun _ => P0) 0 (fun _ => 0) (fun _ => 0) (fun _ => 0) (fun _ => 0) (fun _ => 0) H)) args s 205 1910 (fun x => r ≤ x)) (F0 m 15 ls []) := by
    intro H locs ls hP hsp hsz hS hl
    refine lv_aload_n hx hb dX6_init_15 rfl (lv_at hl 0 rfl) ?_
    refine gnew (ci := 0) (C := RX0) (T := TX0) (N := 11) (fs := [.null, .int 0, .null, .int 0, .null, .int 0, .int 0, .int 0, .int 0, .int 0, .int 0]) hx hb hts awsX00 tyX0_ok hown qL_X6_7 qN_X0 qK_X0 hK hP hS hsz rfl (fun j hj => by rcases (show j = 0 ∨ j = 1 ∨ j = 2 ∨ j = 3 ∨ j = 4 ∨ j = 5 ∨ j = 6 ∨ j = 7 ∨ j = 8 ∨ j = 9 ∨ j = 10 by omega) with rfl | rfl | rfl | rfl | rfl | rfl | rfl | rfl | rfl | rfl | rfl <;> rfl) (Nat.le_of_ble_eq_true rfl) (Nat.le_of_ble_eq_true rfl) dX6_init_16 (fun H hP hsz _ hS => ?_)
    refine lv_dup hx hb dX6_init_19 rfl ?_
    refine gcIv (As := []) (rest := [.ref (r + 34), .ref r]) hx hb hml hown hts hl.1 (c_X0_init l D (r + 34)) qC_X0_init qK_X0 qM_X6_9 qI_X0_init rfl hdv_X0_init.2 ⟨(Nat.le_of_ble_eq_true rfl), (Nat.le_of_ble_eq_true rfl)⟩ (kPre_S hK hKa ⟨hsz, va_P_r hP⟩) rfl (Nat.le_of_ble_eq_true rfl) ⟨(Nat.le_of_ble_eq_true rfl), (Nat.le_of_ble_eq_true rfl)⟩ dX6_init_20 hS (fun q h => by omega) (fun H locs hN _ hq hS => ?_)
    have hP : va_P D vwCl (([(r, .inr (6, [.ref (r + 1), .null, .null, .null]))] ++ (([] : va_W) ++ gL D (r + 1) P0)) ++ gL D (r + 34) P0) H := ctor_join hsp hP rfl hN.2 hq
    have hsp : spn r 67 (([(r, .inr (6, [.ref (r + 1), .null, .null, .null]))] ++ (([] : va_W) ++ gL D (r + 1) P0)) ++ gL D (r + 34) P0) := hsp.app (n := 34) (m := 33) gL_spn
    rw [List.append_assoc] at hP hsp
    refine va_putF (ci := 6) (C := RX6) (T := TX6) (N := 4) hx hb hts awsX60 tyX6 tyX6_ok nmX6 hown hK hP (hsp.D (fun q h _ => hA q h)) hS 0 rfl rfl 1 (by decide) (hts _ qF_X6_16) (fun _ h => h) rfl hin rfl (tyX6_ok 1 (by decide)) rfl rfl (by simp) dX6_init_23 (fun H locs hP _ hS => ?_)
    have hsp : spn r 67 ([(r, .inr (6, [.ref (r + 1), .ref (r + 34), .null, .null]))] ++ ((([] : va_W) ++ gL D (r + 1) P0) ++ gL D (r + 34) P0)) := hsp.set (k := 0) (a := r) (y := .inr (6, [.ref (r + 1), .ref (r + 34), .null, .null])) rfl
    have hP : va_P D vwCl ([(r, .inr (6, [.ref (r + 1), .ref (r + 34), .null, .null]))] ++ ((([] : va_W) ++ gL D (r + 1) P0) ++ gL D (r + 34) P0)) H := hP
    refine W.sz (fun hz9 => ?_)
    have hsz : H.size = r + 67 := hsp.sz hP (by omega)
    clear hz9
    refine W.widen (k := 66) (n := 544) (by omega) (by omega) ?_
    exact ST2 _ _ _ hP hsp hsz hS hl
  have ST0 : ∀ (H : Heap) (locs : List Loc) (ls : Array Slot), va_P D vwCl ([(r, .inr (6, [.null, .null, .null, .null]))] ++ ([] : va_W)) H → spn r 1 ([(r, .inr (6, [.null, .null, .null, .null]))] ++ ([] : va_W)) → H.size = r + 1 → va_S (fun x => r ≤ x) s.heap H locs → lv_has ls 1 [(0, .ref r)] → W p l e (headSpec (wA yX6_init cX6_init 1 none) (rmX 4 205 1910)).room s m args below meth c H locs (0) (0) (MQ below (gQv (fun x => r ≤ x) (fun H => H.size = r + 206 ∧ Sn D r P0 P0 (fun _ => P0) 0 (fun _ => 0) (fun _ => 0) (fun _ => 0) (fun _ => 0) (fun _ => 0) H)) args s 205 1910 (fun x => r ≤ x)) (F0 m 4 ls []) := by
    intro H locs ls hP hsp hsz hS hl
    refine lv_aload_n hx hb dX6_init_4 rfl (lv_at hl 0 rfl) ?_
    refine gnew (ci := 0) (C := RX0) (T := TX0) (N := 11) (fs := [.null, .int 0, .null, .int 0, .null, .int 0, .int 0, .int 0, .int 0, .int 0, .int 0]) hx hb hts awsX00 tyX0_ok hown qL_X6_7 qN_X0 qK_X0 hK hP hS hsz rfl (fun j hj => by rcases (show j = 0 ∨ j = 1 ∨ j = 2 ∨ j = 3 ∨ j = 4 ∨ j = 5 ∨ j = 6 ∨ j = 7 ∨ j = 8 ∨ j = 9 ∨ j = 10 by omega) with rfl | rfl | rfl | rfl | rfl | rfl | rfl | rfl | rfl | rfl | rfl <;> rfl) (Nat.le_of_ble_eq_true rfl) (Nat.le_of_ble_eq_true rfl) dX6_init_5 (fun H hP hsz _ hS => ?_)
    refine lv_dup hx hb dX6_init_8 rfl ?_
    refine gcIv (As := []) (rest := [.ref (r + 1), .ref r]) hx hb hml hown hts hl.1 (c_X0_init l D (r + 1)) qC_X0_init qK_X0 qM_X6_9 qI_X0_init rfl hdv_X0_init.2 ⟨(Nat.le_of_ble_eq_true rfl), (Nat.le_of_ble_eq_true rfl)⟩ (kPre_S hK hKa ⟨hsz, va_P_r hP⟩) rfl (Nat.le_of_ble_eq_true rfl) ⟨(Nat.le_of_ble_eq_true rfl), (Nat.le_of_ble_eq_true rfl)⟩ dX6_init_9 hS (fun q h => by omega) (fun H locs hN _ hq hS => ?_)
    have hP : va_P D vwCl (([(r, .inr (6, [.null, .null, .null, .null]))] ++ ([] : va_W)) ++ gL D (r + 1) P0) H := ctor_join hsp hP rfl hN.2 hq
    have hsp : spn r 34 (([(r, .inr (6, [.null, .null, .null, .null]))] ++ ([] : va_W)) ++ gL D (r + 1) P0) := hsp.app (n := 1) (m := 33) gL_spn
    rw [List.append_assoc] at hP hsp
    refine va_putF (ci := 6) (C := RX6) (T := TX6) (N := 4) hx hb hts awsX60 tyX6 tyX6_ok nmX6 hown hK hP (hsp.D (fun q h _ => hA q h)) hS 0 rfl rfl 0 (by decide) (hts _ qF_X6_10) (fun _ h => h) rfl hin rfl (tyX6_ok 0 (by decide)) rfl rfl (by simp) dX6_init_12 (fun H locs hP _ hS => ?_)
    have hsp : spn r 34 ([(r, .inr (6, [.ref (r + 1), .null, .null, .null]))] ++ (([] : va_W) ++ gL D (r + 1) P0)) := hsp.set (k := 0) (a := r) (y := .inr (6, [.ref (r + 1), .null, .null, .null])) rfl
    have hP : va_P D vwCl ([(r, .inr (6, [.ref (r + 1), .null, .null, .null]))] ++ (([] : va_W) ++ gL D (r + 1) P0)) H := hP
    refine W.sz (fun hz9 => ?_)
    have hsz : H.size = r + 34 := hsp.sz hP (by omega)
    clear hz9
    refine W.widen (k := 33) (n := 272) (by omega) (by omega) ?_
    exact ST1 _ _ _ hP hsp hsz hS hl
  have hP : va_P D vwCl [(r, .inr (6, [.null, .null, .null, .null]))] s.heap := hG.2
  have hsz : s.heap.size = r + 1 := hG.1
  have hsp : spn r 1 [(r, .inr (6, [.null, .null, .null, .null]))] := spn_nil.push rfl
  refine lv_aload_n hx hb dX6_init_0 rfl (lv_at hl 0 rfl) ?_
  refine gobj hx hb hml hown hts hl.1 qM_X6_1 dX6_init_1 ⟨Nat.le_of_ble_eq_true rfl, Nat.le_of_ble_eq_true rfl⟩ (Nat.le_of_ble_eq_true rfl) ?_
  have hP : va_P D vwCl ([(r, .inr (6, [.null, .null, .null, .null]))] ++ ([] : va_W)) s.heap := hP
  have hsp : spn r 1 ([(r, .inr (6, [.null, .null, .null, .null]))] ++ ([] : va_W)) := hsp
  refine W.widen (k := 0) (n := 0) (by omega) (by omega) ?_
  exact ST0 _ _ _ hP hsp hsz hS hl
