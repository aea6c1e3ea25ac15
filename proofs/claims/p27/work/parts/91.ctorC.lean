/-! Constructors, the large ones. -/
theorem mid_get {ws r : va_W} {x : Nat × va_E} : (ws ++ (x :: r))[ws.length]? = some x := by simp
theorem set_c1 {D : va_G} {b j j' p t : Nat} {tl : va_W} : (cH D b j p t ++ tl).set 1 (b + 1, .inl (D.1 101, 20, .inr (.inr (.inr (.inr (fS b j')))))) = cH D b j' p t ++ tl := rfl
theorem set_c2 {D : va_G} {b j p p' t : Nat} {tl : va_W} : (cH D b j p t ++ tl).set 2 (b + 2, .inl (D.1 102, 3, .inr (.inr (.inr (.inr (fPl b p')))))) = cH D b j p' t ++ tl := rfl
theorem set_c3 {D : va_G} {b j p t t' : Nat} {tl : va_W} : (cH D b j p t ++ tl).set 3 (b + 3, .inl (D.1 103, 3, .inr (.inr (.inr (.inr (fTm b t')))))) = cH D b j p t' ++ tl := rfl
theorem get_c2 {D : va_G} {b j p t : Nat} {tl : va_W} : (cH D b j p t ++ tl)[2]? = some (b + 2, .inl (D.1 102, 3, .inr (.inr (.inr (.inr (fPl b p)))))) := rfl
theorem get_c3 {D : va_G} {b j p t : Nat} {tl : va_W} : (cH D b j p t ++ tl)[3]? = some (b + 3, .inl (D.1 103, 3, .inr (.inr (.inr (.inr (fTm b t)))))) := rfl
theorem get_c0 {D : va_G} {b j p t : Nat} {tl : va_W} : (cH D b j p t ++ tl)[0]? = some (b, .inr (0, cZ b)) := rfl
theorem pE_spn {D : va_G} {q : Nat} : spn q 2 (pE D q) := ⟨rfl, fun k x hk => by
  match k, hk with
  | 0, hk => cases hk; rfl
  | 1, hk => cases hk; rfl
  | k + 2, hk => simp [pE] at hk⟩
theorem tE_spn {q : Nat} {a b c : Int32} : spn q 1 (tE q a b c) := ⟨rfl, fun k x hk => by
  match k, hk with
  | 0, hk => cases hk; rfl
  | k + 1, hk => simp [tE] at hk⟩
theorem hdv_X0_init : yX0_init.cls = RX0 ∧ yX0_init.cls ≠ "java/lang/invoke/MethodHandle" ∧ yX0_init.cls ≠ "java/lang/invoke/VarHandle" ∧ (parseMethodDescriptor yX0_init.desc).map (fun d => d.parameters.length) = some 0 := by decide +kernel
set_option maxHeartbeats 4000000 in
set_option maxRecDepth 100000 in
theorem c_X0_init (l : Launch) (D : va_G) (b : Nat) : Met l yX0_init (wA yX0_init cX0_init 2 none) (rmX 2 32 261) (kPc D [.ref b] (fun H => H.size = b + 1 ∧ va_P D vwCl [(b, .inr (0, [.null, .int 0, .null, .int 0, .null, .int 0, .int 0, .int 0, .int 0, .int 0, .int 0]))] H)) (gQv (fun x => b ≤ x) (fun H => H.size = b + 33 ∧ Graph D b P0 H)) 32 261 (fun x => b ≤ x) := by
  refine Met.ofW (cc := cX0_init) (maxL := 2) (ret := none) (by decide) rfl ?_
  intro p e s m args below meth c s₁ B hml hv
  obtain ⟨hav, hG, hK, hKa⟩ := hv
  have hx := B.exec
  have hb := B.bytes
  have hr := B.returns
  have hts0 := atoms_spec (ws := wA yX0_init cX0_init 2 none) B.pre
  have hts : ∀ w ∈ AW, w.before _ s = true := fun w h => hts0 w (List.mem_cons_of_mem _ h)
  have hown : s.vm.findClass RX0 = some m.cls := findClass_of_methodNamed B.named
  have hlocks := B.notSynchronized
  have hS : va_S (fun x => b ≤ x) s.heap s.heap [] := va_S.rf
  have hin : meth.name = "<init>" := (name_of_methodNamed B.named B.method).1
  have hl := lv_entry ([.ref b]) (n := 2) (Nat.le_of_ble_eq_true rfl)
  refine W.eq (g2 := entryFrame m ([.ref b] : List Value).toArray 2) (by rw [hav]) ?_
  rw [lg_entry_eq]
  generalize (lg_sl ([.ref b]) ++ List.replicate (2 - (lg_sl ([.ref b])).length) Slot.unset).toArray = ls at hl ⊢
  have hl : lv_has ls 2 [(0, .ref b)] := hl
  have hA : ∀ x, b ≤ x → b ≤ x := fun _ h => h
  have hz0 : s.heap.size = b + 1 := hG.1
  have ST8 : ∀ (H : Heap) (locs : List Loc) (ls : Array Slot), va_P D vwCl (cH D b 20 3 3 ++ ((((((tS b 20 ++ pE D (b + 24)) ++ pE D (b + 26)) ++ pE D (b + 28)) ++ tE (b + 30) 20 3 30) ++ tE (b + 31) 40 6 20) ++ tE (b + 32) 60 12 10)) H → spn b 33 (cH D b 20 3 3 ++ ((((((tS b 20 ++ pE D (b + 24)) ++ pE D (b + 26)) ++ pE D (b + 28)) ++ tE (b + 30) 20 3 30) ++ tE (b + 31) 40 6 20) ++ tE (b + 32) 60 12 10)) → H.size = b + 33 → va_S (fun x => b ≤ x) s.heap H locs → lv_has ls 2 [(1, .int (nI 3)), (0, .ref b)] → W p l e (headSpec (wA yX0_init cX0_init 2 none) (rmX 2 32 261)).room s m args below meth c H locs (32) (261) (MQ below (gQv (fun x => b ≤ x) (fun H => H.size = b + 33 ∧ Graph D b P0 H)) args s 32 261 (fun x => b ≤ x)) (F0 m 158 ls []) := by
    intro H locs ls hP hsp hsz hS hl
    refine W.widen (k := 32) (n := 261) (by omega) (by omega) ?_
    exact W.vret hx hb hr (fun t ht hW => gQv_of (Pic := fun H => H.size = b + 33 ∧ Graph D b P0 H) ⟨hsz, Graph_new hP⟩ hS ht) hS.2.2 dX0_init_158
  have ST7 : ∀ (H : Heap) (locs : List Loc) (ls : Array Slot), va_P D vwCl (cH D b 20 3 2 ++ (((((tS b 20 ++ pE D (b + 24)) ++ pE D (b + 26)) ++ pE D (b + 28)) ++ tE (b + 30) 20 3 30) ++ tE (b + 31) 40 6 20)) H → spn b 32 (cH D b 20 3 2 ++ (((((tS b 20 ++ pE D (b + 24)) ++ pE D (b + 26)) ++ pE D (b + 28)) ++ tE (b + 30) 20 3 30) ++ tE (b + 31) 40 6 20)) → H.size = b + 32 → va_S (fun x => b ≤ x) s.heap H locs → lv_has ls 2 [(1, .int (nI 3)), (0, .ref b)] → W p l e (headSpec (wA yX0_init cX0_init 2 none) (rmX 2 32 261)).room s m args below meth c H locs (31) (257) (MQ below (gQv (fun x => b ≤ x) (fun H => H.size = b + 33 ∧ Graph D b P0 H)) args s 32 261 (fun x => b ≤ x)) (F0 m 139 ls []) := by
    intro H locs ls hP hsp hsz hS hl
    refine lv_aload_n hx hb dX0_init_139 rfl (lv_at hl 1 rfl) ?_
    refine va_get (ci := 0) (C := RX0) (T := TX0) (N := 11) hx hb hts awsX00 hown hK hP 0 rfl rfl 4 (by decide) (hts _ qF_X0_25) (fun _ h => h) rfl dX0_init_140 ?_
    refine lv_iconst (v := 2) hx hb dX0_init_143 (by decide) ?_
    refine topN (n := 2) rfl ?_
    refine gnew (ci := 4) (C := RX4) (T := TX4) (N := 4) (fs := [.int 0, .int 0, .int 0, .int 0]) hx hb hts awsX40 tyX4_ok hown qL_X0_23 qN_X4 qK_X4 hK hP hS hsz rfl (fun j hj => by rcases (show j = 0 ∨ j = 1 ∨ j = 2 ∨ j = 3 by omega) with rfl | rfl | rfl | rfl <;> rfl) (Nat.le_of_ble_eq_true rfl) (Nat.le_of_ble_eq_true rfl) dX0_init_144 (fun H hP hsz _ hS => ?_)
    refine lv_dup hx hb dX0_init_147 rfl ?_
    refine lv_bipush (v := 60) hx hb dX0_init_148 (by decide) ?_
    refine lv_bipush (v := 12) hx hb dX0_init_150 (by decide) ?_
    refine lv_bipush (v := 10) hx hb dX0_init_152 (by decide) ?_
    refine gcIv (As := [.int 60, .int 12, .int 10]) (rest := [.ref (b + 32), .int (nI 2), .ref (b + 3)]) hx hb hml hown hts hl.1 (c_X4_init l D (b + 32) 60 12 10) qC_X4_init qK_X4 qM_X0_41 qI_X4_init rfl hdv_X4_init.2 ⟨(Nat.le_of_ble_eq_true rfl), (Nat.le_of_ble_eq_true rfl)⟩ (gPre_S hK (va_P_r hP)) rfl (Nat.le_of_ble_eq_true rfl) ⟨(Nat.le_of_ble_eq_true rfl), (Nat.le_of_ble_eq_true rfl)⟩ dX0_init_154 hS (fun q h => by omega) (fun H locs hN _ hq hS => ?_)
    have hP : va_P D vwCl ((cH D b 20 3 2 ++ (((((tS b 20 ++ pE D (b + 24)) ++ pE D (b + 26)) ++ pE D (b + 28)) ++ tE (b + 30) 20 3 30) ++ tE (b + 31) 40 6 20)) ++ tE (b + 32) 60 12 10) H := ctor_join hsp hP rfl hN hq
    have hsp : spn b 33 ((cH D b 20 3 2 ++ (((((tS b 20 ++ pE D (b + 24)) ++ pE D (b + 26)) ++ pE D (b + 28)) ++ tE (b + 30) 20 3 30) ++ tE (b + 31) 40 6 20)) ++ tE (b + 32) 60 12 10) := hsp.app (n := 32) (m := 1) tE_spn
    refine va_astq hx hb hK hP (hsp.D (fun q h _ => hA q h)) hS 3 3 (cH D b 20 3 2 ++ (((((tS b 20 ++ pE D (b + 24)) ++ pE D (b + 26)) ++ pE D (b + 28)) ++ tE (b + 30) 20 3 30) ++ tE (b + 31) 40 6 20)).length 4 (by rw [List.append_assoc]; exact get_c3) rfl mid_get rfl (vp_in_nI (by decide) (by decide)) dX0_init_157 (fun H locs hP _ hS => ?_)
    rw [nI_clamp (by omega)] at hP
    have e9 : va_up (fTm b 2) 2 (some (b + 32)) = fTm b 3 := fTm_up
    rw [e9] at hP
    clear e9
    rw [List.append_assoc, set_c3] at hP
    have hP : va_P D vwCl (cH D b 20 3 3 ++ ((((((tS b 20 ++ pE D (b + 24)) ++ pE D (b + 26)) ++ pE D (b + 28)) ++ tE (b + 30) 20 3 30) ++ tE (b + 31) 40 6 20) ++ tE (b + 32) 60 12 10)) H := hP
    have hsp : spn b 33 (cH D b 20 3 3 ++ ((((((tS b 20 ++ pE D (b + 24)) ++ pE D (b + 26)) ++ pE D (b + 28)) ++ tE (b + 30) 20 3 30) ++ tE (b + 31) 40 6 20) ++ tE (b + 32) 60 12 10)) := by
      have h9 := hsp.set (k := 3) (a := b + 3) (y := .inl (D.1 103, 3, .inr (.inr (.inr (.inr (fTm b 3)))))) (by rw [List.append_assoc]; exact get_c3)
      rw [List.append_assoc, set_c3] at h9
      exact h9
    refine W.sz (fun hz9 => ?_)
    have hsz : H.size = b + 33 := hsp.sz hP (by omega)
    clear hz9
    refine W.widen (k := 32) (n := 261) (by omega) (by omega) ?_
    exact ST8 _ _ _ hP hsp hsz hS hl
  have ST6 : ∀ (H : Heap) (locs : List Loc) (ls : Array Slot), va_P D vwCl (cH D b 20 3 1 ++ ((((tS b 20 ++ pE D (b + 24)) ++ pE D (b + 26)) ++ pE D (b + 28)) ++ tE (b + 30) 20 3 30)) H → spn b 31 (cH D b 20 3 1 ++ ((((tS b 20 ++ pE D (b + 24)) ++ pE D (b + 26)) ++ pE D (b + 28)) ++ tE (b + 30) 20 3 30)) → H.size = b + 31 → va_S (fun x => b ≤ x) s.heap H locs → lv_has ls 2 [(1, .int (nI 3)), (0, .ref b)] → W p l e (headSpec (wA yX0_init cX0_init 2 none) (rmX 2 32 261)).room s m args below meth c H locs (30) (253) (MQ below (gQv (fun x => b ≤ x) (fun H => H.size = b + 33 ∧ Graph D b P0 H)) args s 32 261 (fun x => b ≤ x)) (F0 m 120 ls []) := by
    intro H locs ls hP hsp hsz hS hl
    refine lv_aload_n hx hb dX0_init_120 rfl (lv_at hl 1 rfl) ?_
    refine va_get (ci := 0) (C := RX0) (T := TX0) (N := 11) hx hb hts awsX00 hown hK hP 0 rfl rfl 4 (by decide) (hts _ qF_X0_25) (fun _ h => h) rfl dX0_init_121 ?_
    refine lv_iconst (v := 1) hx hb dX0_init_124 (by decide) ?_
    refine topN (n := 1) rfl ?_
    refine gnew (ci := 4) (C := RX4) (T := TX4) (N := 4) (fs := [.int 0, .int 0, .int 0, .int 0]) hx hb hts awsX40 tyX4_ok hown qL_X0_23 qN_X4 qK_X4 hK hP hS hsz rfl (fun j hj => by rcases (show j = 0 ∨ j = 1 ∨ j = 2 ∨ j = 3 by omega) with rfl | rfl | rfl | rfl <;> rfl) (Nat.le_of_ble_eq_true rfl) (Nat.le_of_ble_eq_true rfl) dX0_init_125 (fun H hP hsz _ hS => ?_)
    refine lv_dup hx hb dX0_init_128 rfl ?_
    refine lv_bipush (v := 40) hx hb dX0_init_129 (by decide) ?_
    refine lv_bipush (v := 6) hx hb dX0_init_131 (by decide) ?_
    refine lv_bipush (v := 20) hx hb dX0_init_133 (by decide) ?_
    refine gcIv (As := [.int 40, .int 6, .int 20]) (rest := [.ref (b + 31), .int (nI 1), .ref (b + 3)]) hx hb hml hown hts hl.1 (c_X4_init l D (b + 31) 40 6 20) qC_X4_init qK_X4 qM_X0_41 qI_X4_init rfl hdv_X4_init.2 ⟨(Nat.le_of_ble_eq_true rfl), (Nat.le_of_ble_eq_true rfl)⟩ (gPre_S hK (va_P_r hP)) rfl (Nat.le_of_ble_eq_true rfl) ⟨(Nat.le_of_ble_eq_true rfl), (Nat.le_of_ble_eq_true rfl)⟩ dX0_init_135 hS (fun q h => by omega) (fun H locs hN _ hq hS => ?_)
    have hP : va_P D vwCl ((cH D b 20 3 1 ++ ((((tS b 20 ++ pE D (b + 24)) ++ pE D (b + 26)) ++ pE D (b + 28)) ++ tE (b + 30) 20 3 30)) ++ tE (b + 31) 40 6 20) H := ctor_join hsp hP rfl hN hq
    have hsp : spn b 32 ((cH D b 20 3 1 ++ ((((tS b 20 ++ pE D (b + 24)) ++ pE D (b + 26)) ++ pE D (b + 28)) ++ tE (b + 30) 20 3 30)) ++ tE (b + 31) 40 6 20) := hsp.app (n := 31) (m := 1) tE_spn
    refine va_astq hx hb hK hP (hsp.D (fun q h _ => hA q h)) hS 3 3 (cH D b 20 3 1 ++ ((((tS b 20 ++ pE D (b + 24)) ++ pE D (b + 26)) ++ pE D (b + 28)) ++ tE (b + 30) 20 3 30)).length 4 (by rw [List.append_assoc]; exact get_c3) rfl mid_get rfl (vp_in_nI (by decide) (by decide)) dX0_init_138 (fun H locs hP _ hS => ?_)
    rw [nI_clamp (by omega)] at hP
    have e9 : va_up (fTm b 1) 1 (some (b + 31)) = fTm b 2 := fTm_up
    rw [e9] at hP
    clear e9
    rw [List.append_assoc, set_c3] at hP
    have hP : va_P D vwCl (cH D b 20 3 2 ++ (((((tS b 20 ++ pE D (b + 24)) ++ pE D (b + 26)) ++ pE D (b + 28)) ++ tE (b + 30) 20 3 30) ++ tE (b + 31) 40 6 20)) H := hP
    have hsp : spn b 32 (cH D b 20 3 2 ++ (((((tS b 20 ++ pE D (b + 24)) ++ pE D (b + 26)) ++ pE D (b + 28)) ++ tE (b + 30) 20 3 30) ++ tE (b + 31) 40 6 20)) := by
      have h9 := hsp.set (k := 3) (a := b + 3) (y := .inl (D.1 103, 3, .inr (.inr (.inr (.inr (fTm b 2)))))) (by rw [List.append_assoc]; exact get_c3)
      rw [List.append_assoc, set_c3] at h9
      exact h9
    refine W.sz (fun hz9 => ?_)
    have hsz : H.size = b + 32 := hsp.sz hP (by omega)
    clear hz9
    refine W.widen (k := 31) (n := 257) (by omega) (by omega) ?_
    exact ST7 _ _ _ hP hsp hsz hS hl
  have ST5 : ∀ (H : Heap) (locs : List Loc) (ls : Array Slot), va_P D vwCl (cH D b 20 3 0 ++ (((tS b 20 ++ pE D (b + 24)) ++ pE D (b + 26)) ++ pE D (b + 28))) H → spn b 30 (cH D b 20 3 0 ++ (((tS b 20 ++ pE D (b + 24)) ++ pE D (b + 26)) ++ pE D (b + 28))) → H.size = b + 30 → va_S (fun x => b ≤ x) s.heap H locs → lv_has ls 2 [(1, .int (nI 3)), (0, .ref b)] → W p l e (headSpec (wA yX0_init cX0_init 2 none) (rmX 2 32 261)).room s m args below meth c H locs (29) (249) (MQ below (gQv (fun x => b ≤ x) (fun H => H.size = b + 33 ∧ Graph D b P0 H)) args s 32 261 (fun x => b ≤ x)) (F0 m 102 ls []) := by
    intro H locs ls hP hsp hsz hS hl
    refine lv_aload_n hx hb dX0_init_102 rfl (lv_at hl 1 rfl) ?_
    refine va_get (ci := 0) (C := RX0) (T := TX0) (N := 11) hx hb hts awsX00 hown hK hP 0 rfl rfl 4 (by decide) (hts _ qF_X0_25) (fun _ h => h) rfl dX0_init_103 ?_
    refine lv_iconst (v := 0) hx hb dX0_init_106 (by decide) ?_
    refine topN (n := 0) rfl ?_
    refine gnew (ci := 4) (C := RX4) (T := TX4) (N := 4) (fs := [.int 0, .int 0, .int 0, .int 0]) hx hb hts awsX40 tyX4_ok hown qL_X0_23 qN_X4 qK_X4 hK hP hS hsz rfl (fun j hj => by rcases (show j = 0 ∨ j = 1 ∨ j = 2 ∨ j = 3 by omega) with rfl | rfl | rfl | rfl <;> rfl) (Nat.le_of_ble_eq_true rfl) (Nat.le_of_ble_eq_true rfl) dX0_init_107 (fun H hP hsz _ hS => ?_)
    refine lv_dup hx hb dX0_init_110 rfl ?_
    refine lv_bipush (v := 20) hx hb dX0_init_111 (by decide) ?_
    refine lv_iconst (v := 3) hx hb dX0_init_113 (by decide) ?_
    refine lv_bipush (v := 30) hx hb dX0_init_114 (by decide) ?_
    refine gcIv (As := [.int 20, .int 3, .int 30]) (rest := [.ref (b + 30), .int (nI 0), .ref (b + 3)]) hx hb hml hown hts hl.1 (c_X4_init l D (b + 30) 20 3 30) qC_X4_init qK_X4 qM_X0_41 qI_X4_init rfl hdv_X4_init.2 ⟨(Nat.le_of_ble_eq_true rfl), (Nat.le_of_ble_eq_true rfl)⟩ (gPre_S hK (va_P_r hP)) rfl (Nat.le_of_ble_eq_true rfl) ⟨(Nat.le_of_ble_eq_true rfl), (Nat.le_of_ble_eq_true rfl)⟩ dX0_init_116 hS (fun q h => by omega) (fun H locs hN _ hq hS => ?_)
    have hP : va_P D vwCl ((cH D b 20 3 0 ++ (((tS b 20 ++ pE D (b + 24)) ++ pE D (b + 26)) ++ pE D (b + 28))) ++ tE (b + 30) 20 3 30) H := ctor_join hsp hP rfl hN hq
    have hsp : spn b 31 ((cH D b 20 3 0 ++ (((tS b 20 ++ pE D (b + 24)) ++ pE D (b + 26)) ++ pE D (b + 28))) ++ tE (b + 30) 20 3 30) := hsp.app (n := 30) (m := 1) tE_spn
    refine va_astq hx hb hK hP (hsp.D (fun q h _ => hA q h)) hS 3 3 (cH D b 20 3 0 ++ (((tS b 20 ++ pE D (b + 24)) ++ pE D (b + 26)) ++ pE D (b + 28))).length 4 (by rw [List.append_assoc]; exact get_c3) rfl mid_get rfl (vp_in_nI (by decide) (by decide)) dX0_init_119 (fun H locs hP _ hS => ?_)
    rw [nI_clamp (by omega)] at hP
    have e9 : va_up (fTm b 0) 0 (some (b + 30)) = fTm b 1 := fTm_up
    rw [e9] at hP
    clear e9
    rw [List.append_assoc, set_c3] at hP
    have hP : va_P D vwCl (cH D b 20 3 1 ++ ((((tS b 20 ++ pE D (b + 24)) ++ pE D (b + 26)) ++ pE D (b + 28)) ++ tE (b + 30) 20 3 30)) H := hP
    have hsp : spn b 31 (cH D b 20 3 1 ++ ((((tS b 20 ++ pE D (b + 24)) ++ pE D (b + 26)) ++ pE D (b + 28)) ++ tE (b + 30) 20 3 30)) := by
      have h9 := hsp.set (k := 3) (a := b + 3) (y := .inl (D.1 103, 3, .inr (.inr (.inr (.inr (fTm b 1)))))) (by rw [List.append_assoc]; exact get_c3)
      rw [List.append_assoc, set_c3] at h9
      exact h9
    refine W.sz (fun hz9 => ?_)
    have hsz : H.size = b + 31 := hsp.sz hP (by omega)
    clear hz9
    refine W.widen (k := 30) (n := 253) (by omega) (by omega) ?_
    exact ST6 _ _ _ hP hsp hsz hS hl
  have ST4 : ∀ (H : Heap) (locs : List Loc) (ls : Array Slot), va_P D vwCl (cH D b 20 3 0 ++ (((tS b 20 ++ pE D (b + 24)) ++ pE D (b + 26)) ++ pE D (b + 28))) H → spn b 30 (cH D b 20 3 0 ++ (((tS b 20 ++ pE D (b + 24)) ++ pE D (b + 26)) ++ pE D (b + 28))) → H.size = b + 30 → va_S (fun x => b ≤ x) s.heap H locs → lv_has ls 2 [(1, .int (nI 3)), (0, .ref b)] → W p l e (headSpec (wA yX0_init cX0_init 2 none) (rmX 2 32 261)).room s m args below meth c H locs (29) (249) (MQ below (gQv (fun x => b ≤ x) (fun H => H.size = b + 33 ∧ Graph D b P0 H)) args s 32 261 (fun x => b ≤ x)) (F0 m 78 ls []) := by
    intro H locs ls hP hsp hsz hS hl
    refine lv_iload_n hx hb dX0_init_78 rfl (lv_at hl 0 rfl) ?_
    refine lv_iconst (v := 3) hx hb dX0_init_79 (by decide) ?_
    refine lv_icmp_ge (tgt := 102) hx hb dX0_init_80 (by decide) (fun c9 => ?_) (fun c9 => absurd (by decide) c9)
    clear c9
    refine W.widen (k := 29) (n := 249) (by omega) (by omega) ?_
    exact ST5 _ _ _ hP hsp hsz hS hl
  have ST3 : ∀ (H : Heap) (locs : List Loc) (ls : Array Slot), va_P D vwCl (cH D b 20 2 0 ++ ((tS b 20 ++ pE D (b + 24)) ++ pE D (b + 26))) H → spn b 28 (cH D b 20 2 0 ++ ((tS b 20 ++ pE D (b + 24)) ++ pE D (b + 26))) → H.size = b + 28 → va_S (fun x => b ≤ x) s.heap H locs → lv_has ls 2 [(1, .int (nI 2)), (0, .ref b)] → W p l e (headSpec (wA yX0_init cX0_init 2 none) (rmX 2 32 261)).room s m args below meth c H locs (27) (228) (MQ below (gQv (fun x => b ≤ x) (fun H => H.size = b + 33 ∧ Graph D b P0 H)) args s 32 261 (fun x => b ≤ x)) (F0 m 78 ls []) := by
    intro H locs ls hP hsp hsz hS hl
    refine lv_iload_n hx hb dX0_init_78 rfl (lv_at hl 0 rfl) ?_
    refine lv_iconst (v := 3) hx hb dX0_init_79 (by decide) ?_
    refine lv_icmp_ge (tgt := 102) hx hb dX0_init_80 (by decide) (fun c9 => absurd c9 (by decide)) (fun c9 => ?_)
    clear c9
    refine lv_aload_n hx hb dX0_init_83 rfl (lv_at hl 1 rfl) ?_
    refine va_get (ci := 0) (C := RX0) (T := TX0) (N := 11) hx hb hts awsX00 hown hK hP 0 rfl rfl 2 (by decide) (hts _ qF_X0_19) (fun _ h => h) rfl dX0_init_84 ?_
    refine lv_iload_n hx hb dX0_init_87 rfl (lv_at hl 0 rfl) ?_
    refine gnew (ci := 1) (C := RX1) (T := TX1) (N := 9) (fs := [.int 0, .int 0, .int 0, .null, .int 0, .int 0, .int 0, .int 0, .int 0]) hx hb hts awsX10 tyX1_ok hown qL_X0_17 qN_X1 qK_X1 hK hP hS hsz rfl (fun j hj => by rcases (show j = 0 ∨ j = 1 ∨ j = 2 ∨ j = 3 ∨ j = 4 ∨ j = 5 ∨ j = 6 ∨ j = 7 ∨ j = 8 by omega) with rfl | rfl | rfl | rfl | rfl | rfl | rfl | rfl | rfl <;> rfl) (Nat.le_of_ble_eq_true rfl) (Nat.le_of_ble_eq_true rfl) dX0_init_88 (fun H hP hsz _ hS => ?_)
    refine lv_dup hx hb dX0_init_91 rfl ?_
    refine gcIn (As := []) (rest := [.ref (b + 28), .int (nI 2), .ref (b + 2)]) hx hb hml hown hts hl.1 (c_X1_init l D (b + 28)) qC_X1_init qK_X1 hKa.2.2.1 qI_X1_init rfl hdv_X1_init.2 ⟨(Nat.le_of_ble_eq_true rfl), (Nat.le_of_ble_eq_true rfl)⟩ (gPre_S hK ⟨hsz, va_P_r hP⟩) rfl (Nat.le_of_ble_eq_true rfl) ⟨(Nat.le_of_ble_eq_true rfl), (Nat.le_of_ble_eq_true rfl)⟩ dX0_init_92 hS (fun q h => by omega) (fun H locs hN _ hq hS => ?_)
    have hP : va_P D vwCl ((cH D b 20 2 0 ++ ((tS b 20 ++ pE D (b + 24)) ++ pE D (b + 26))) ++ pE D (b + 28)) H := ctor_join hsp hP rfl hN.2 hq
    have hsp : spn b 30 ((cH D b 20 2 0 ++ ((tS b 20 ++ pE D (b + 24)) ++ pE D (b + 26))) ++ pE D (b + 28)) := hsp.app (n := 28) (m := 2) pE_spn
    refine va_astq hx hb hK hP (hsp.D (fun q h _ => hA q h)) hS 2 2 (cH D b 20 2 0 ++ ((tS b 20 ++ pE D (b + 24)) ++ pE D (b + 26))).length 1 (by rw [List.append_assoc]; exact get_c2) rfl mid_get rfl (vp_in_nI (by decide) (by decide)) dX0_init_95 (fun H locs hP _ hS => ?_)
    rw [nI_clamp (by omega)] at hP
    have e9 : va_up (fPl b 2) 2 (some (b + 28)) = fPl b 3 := fPl_up
    rw [e9] at hP
    clear e9
    rw [List.append_assoc, set_c2] at hP
    have hP : va_P D vwCl (cH D b 20 3 0 ++ (((tS b 20 ++ pE D (b + 24)) ++ pE D (b + 26)) ++ pE D (b + 28))) H := hP
    have hsp : spn b 30 (cH D b 20 3 0 ++ (((tS b 20 ++ pE D (b + 24)) ++ pE D (b + 26)) ++ pE D (b + 28))) := by
      have h9 := hsp.set (k := 2) (a := b + 2) (y := .inl (D.1 102, 3, .inr (.inr (.inr (.inr (fPl b 3)))))) (by rw [List.append_assoc]; exact get_c2)
      rw [List.append_assoc, set_c2] at h9
      exact h9
    refine W.sz (fun hz9 => ?_)
    have hsz : H.size = b + 30 := hsp.sz hP (by omega)
    clear hz9
    refine lv_iinc (v := nI 3) (lv' := [(1, .int (nI 3)), (0, .ref b)]) hx hb dX0_init_96 hl (k := 0) rfl (nI_add 2 1) (by decide) rfl (fun ls hl => ?_)
    refine lv_goto (tgt := 78) hx hb dX0_init_99 (by decide) ?_
    refine W.widen (k := 29) (n := 249) (by omega) (by omega) ?_
    exact ST4 _ _ _ hP hsp hsz hS hl
  have ST2 : ∀ (H : Heap) (locs : List Loc) (ls : Array Slot), va_P D vwCl (cH D b 20 1 0 ++ (tS b 20 ++ pE D (b + 24))) H → spn b 26 (cH D b 20 1 0 ++ (tS b 20 ++ pE D (b + 24))) → H.size = b + 26 → va_S (fun x => b ≤ x) s.heap H locs → lv_has ls 2 [(1, .int (nI 1)), (0, .ref b)] → W p l e (headSpec (wA yX0_init cX0_init 2 none) (rmX 2 32 261)).room s m args below meth c H locs (25) (207) (MQ below (gQv (fun x => b ≤ x) (fun H => H.size = b + 33 ∧ Graph D b P0 H)) args s 32 261 (fun x => b ≤ x)) (F0 m 78 ls []) := by
    intro H locs ls hP hsp hsz hS hl
    refine lv_iload_n hx hb dX0_init_78 rfl (lv_at hl 0 rfl) ?_
    refine lv_iconst (v := 3) hx hb dX0_init_79 (by decide) ?_
    refine lv_icmp_ge (tgt := 102) hx hb dX0_init_80 (by decide) (fun c9 => absurd c9 (by decide)) (fun c9 => ?_)
    clear c9
    refine lv_aload_n hx hb dX0_init_83 rfl (lv_at hl 1 rfl) ?_
    refine va_get (ci := 0) (C := RX0) (T := TX0) (N := 11) hx hb hts awsX00 hown hK hP 0 rfl rfl 2 (by decide) (hts _ qF_X0_19) (fun _ h => h) rfl dX0_init_84 ?_
    refine lv_iload_n hx hb dX0_init_87 rfl (lv_at hl 0 rfl) ?_
    refine gnew (ci := 1) (C := RX1) (T := TX1) (N := 9) (fs := [.int 0, .int 0, .int 0, .null, .int 0, .int 0, .int 0, .int 0, .int 0]) hx hb hts awsX10 tyX1_ok hown qL_X0_17 qN_X1 qK_X1 hK hP hS hsz rfl (fun j hj => by rcases (show j = 0 ∨ j = 1 ∨ j = 2 ∨ j = 3 ∨ j = 4 ∨ j = 5 ∨ j = 6 ∨ j = 7 ∨ j = 8 by omega) with rfl | rfl | rfl | rfl | rfl | rfl | rfl | rfl | rfl <;> rfl) (Nat.le_of_ble_eq_true rfl) (Nat.le_of_ble_eq_true rfl) dX0_init_88 (fun H hP hsz _ hS => ?_)
    refine lv_dup hx hb dX0_init_91 rfl ?_
    refine gcIn (As := []) (rest := [.ref (b + 26), .int (nI 1), .ref (b + 2)]) hx hb hml hown hts hl.1 (c_X1_init l D (b + 26)) qC_X1_init qK_X1 hKa.2.2.1 qI_X1_init rfl hdv_X1_init.2 ⟨(Nat.le_of_ble_eq_true rfl), (Nat.le_of_ble_eq_true rfl)⟩ (gPre_S hK ⟨hsz, va_P_r hP⟩) rfl (Nat.le_of_ble_eq_true rfl) ⟨(Nat.le_of_ble_eq_true rfl), (Nat.le_of_ble_eq_true rfl)⟩ dX0_init_92 hS (fun q h => by omega) (fun H locs hN _ hq hS => ?_)
    have hP : va_P D vwCl ((cH D b 20 1 0 ++ (tS b 20 ++ pE D (b + 24))) ++ pE D (b + 26)) H := ctor_join hsp hP rfl hN.2 hq
    have hsp : spn b 28 ((cH D b 20 1 0 ++ (tS b 20 ++ pE D (b + 24))) ++ pE D (b + 26)) := hsp.app (n := 26) (m := 2) pE_spn
    refine va_astq hx hb hK hP (hsp.D (fun q h _ => hA q h)) hS 2 2 (cH D b 20 1 0 ++ (tS b 20 ++ pE D (b + 24))).length 1 (by rw [List.append_assoc]; exact get_c2) rfl mid_get rfl (vp_in_nI (by decide) (by decide)) dX0_init_95 (fun H locs hP _ hS => ?_)
    rw [nI_clamp (by omega)] at hP
    have e9 : va_up (fPl b 1) 1 (some (b + 26)) = fPl b 2 := fPl_up
    rw [e9] at hP
    clear e9
    rw [List.append_assoc, set_c2] at hP
    have hP : va_P D vwCl (cH D b 20 2 0 ++ ((tS b 20 ++ pE D (b + 24)) ++ pE D (b + 26))) H := hP
    have hsp : spn b 28 (cH D b 20 2 0 ++ ((tS b 20 ++ pE D (b + 24)) ++ pE D (b + 26))) := by
      have h9 := hsp.set (k := 2) (a := b + 2) (y := .inl (D.1 102, 3, .inr (.inr (.inr (.inr (fPl b 2)))))) (by rw [List.append_assoc]; exact get_c2)
      rw [List.append_assoc, set_c2] at h9
      exact h9
    refine W.sz (fun hz9 => ?_)
    have hsz : H.size = b + 28 := hsp.sz hP (by omega)
    clear hz9
    refine lv_iinc (v := nI 2) (lv' := [(1, .int (nI 2)), (0, .ref b)]) hx hb dX0_init_96 hl (k := 0) rfl (nI_add 1 1) (by decide) rfl (fun ls hl => ?_)
    refine lv_goto (tgt := 78) hx hb dX0_init_99 (by decide) ?_
    refine W.widen (k := 27) (n := 228) (by omega) (by omega) ?_
    exact ST3 _ _ _ hP hsp hsz hS hl
  have ST1 : ∀ (H : Heap) (locs : List Loc) (ls : Array Slot), va_P D vwCl (cH D b 20 0 0 ++ tS b 20) H → spn b 24 (cH D b 20 0 0 ++ tS b 20) → H.size = b + 24 → va_S (fun x => b ≤ x) s.heap H locs → lv_has ls 2 [(1, .int (nI 0)), (0, .ref b)] → W p l e (headSpec (wA yX0_init cX0_init 2 none) (rmX 2 32 261)).room s m args below meth c H locs (23) (186) (MQ below (gQv (fun x => b ≤ x) (fun H => H.size = b + 33 ∧ Graph D b P0 H)) args s 32 261 (fun x => b ≤ x)) (F0 m 78 ls []) := by
    intro H locs ls hP hsp hsz hS hl
    refine lv_iload_n hx hb dX0_init_78 rfl (lv_at hl 0 rfl) ?_
    refine lv_iconst (v := 3) hx hb dX0_init_79 (by decide) ?_
    refine lv_icmp_ge (tgt := 102) hx hb dX0_init_80 (by decide) (fun c9 => absurd c9 (by decide)) (fun c9 => ?_)
    clear c9
    refine lv_aload_n hx hb dX0_init_83 rfl (lv_at hl 1 rfl) ?_
    refine va_get (ci := 0) (C := RX0) (T := TX0) (N := 11) hx hb hts awsX00 hown hK hP 0 rfl rfl 2 (by decide) (hts _ qF_X0_19) (fun _ h => h) rfl dX0_init_84 ?_
    refine lv_iload_n hx hb dX0_init_87 rfl (lv_at hl 0 rfl) ?_
    refine gnew (ci := 1) (C := RX1) (T := TX1) (N := 9) (fs := [.int 0, .int 0, .int 0, .null, .int 0, .int 0, .int 0, .int 0, .int 0]) hx hb hts awsX10 tyX1_ok hown qL_X0_17 qN_X1 qK_X1 hK hP hS hsz rfl (fun j hj => by rcases (show j = 0 ∨ j = 1 ∨ j = 2 ∨ j = 3 ∨ j = 4 ∨ j = 5 ∨ j = 6 ∨ j = 7 ∨ j = 8 by omega) with rfl | rfl | rfl | rfl | rfl | rfl | rfl | rfl | rfl <;> rfl) (Nat.le_of_ble_eq_true rfl) (Nat.le_of_ble_eq_true rfl) dX0_init_88 (fun H hP hsz _ hS => ?_)
    refine lv_dup hx hb dX0_init_91 rfl ?_
    refine gcIn (As := []) (rest := [.ref (b + 24), .int (nI 0), .ref (b + 2)]) hx hb hml hown hts hl.1 (c_X1_init l D (b + 24)) qC_X1_init qK_X1 hKa.2.2.1 qI_X1_init rfl hdv_X1_init.2 ⟨(Nat.le_of_ble_eq_true rfl), (Nat.le_of_ble_eq_true rfl)⟩ (gPre_S hK ⟨hsz, va_P_r hP⟩) rfl (Nat.le_of_ble_eq_true rfl) ⟨(Nat.le_of_ble_eq_true rfl), (Nat.le_of_ble_eq_true rfl)⟩ dX0_init_92 hS (fun q h => by omega) (fun H locs hN _ hq hS => ?_)
    have hP : va_P D vwCl ((cH D b 20 0 0 ++ tS b 20) ++ pE D (b + 24)) H := ctor_join hsp hP rfl hN.2 hq
    have hsp : spn b 26 ((cH D b 20 0 0 ++ tS b 20) ++ pE D (b + 24)) := hsp.app (n := 24) (m := 2) pE_spn
    refine va_astq hx hb hK hP (hsp.D (fun q h _ => hA q h)) hS 2 2 (cH D b 20 0 0 ++ tS b 20).length 1 (by rw [List.append_assoc]; exact get_c2) rfl mid_get rfl (vp_in_nI (by decide) (by decide)) dX0_init_95 (fun H locs hP _ hS => ?_)
    rw [nI_clamp (by omega)] at hP
    have e9 : va_up (fPl b 0) 0 (some (b + 24)) = fPl b 1 := fPl_up
    rw [e9] at hP
    clear e9
    rw [List.append_assoc, set_c2] at hP
    have hP : va_P D vwCl (cH D b 20 1 0 ++ (tS b 20 ++ pE D (b + 24))) H := hP
    have hsp : spn b 26 (cH D b 20 1 0 ++ (tS b 20 ++ pE D (b + 24))) := by
      have h9 := hsp.set (k := 2) (a := b + 2) (y := .inl (D.1 102, 3, .inr (.inr (.inr (.inr (fPl b 1)))))) (by rw [List.append_assoc]; exact get_c2)
      rw [List.append_assoc, set_c2] at h9
      exact h9
    refine W.sz (fun hz9 => ?_)
    have hsz : H.size = b + 26 := hsp.sz hP (by omega)
    clear hz9
    refine lv_iinc (v := nI 1) (lv' := [(1, .int (nI 1)), (0, .ref b)]) hx hb dX0_init_96 hl (k := 0) rfl (nI_add 0 1) (by decide) rfl (fun ls hl => ?_)
    refine lv_goto (tgt := 78) hx hb dX0_init_99 (by decide) ?_
    refine W.widen (k := 25) (n := 207) (by omega) (by omega) ?_
    exact ST2 _ _ _ hP hsp hsz hS hl
  have ST0 : ∀ (H : Heap) (locs : List Loc) (ls : Array Slot), va_P D vwCl (cH D b 20 0 0 ++ tS b 20) H → spn b 24 (cH D b 20 0 0 ++ tS b 20) → H.size = b + 24 → va_S (fun x => b ≤ x) s.heap H locs → lv_has ls 2 [(1, .int (nI 20)), (0, .ref b)] → W p l e (headSpec (wA yX0_init cX0_init 2 none) (rmX 2 32 261)).room s m args below meth c H locs (23) (186) (MQ below (gQv (fun x => b ≤ x) (fun H => H.size = b + 33 ∧ Graph D b P0 H)) args s 32 261 (fun x => b ≤ x)) (F0 m 76 ls []) := by
    intro H locs ls hP hsp hsz hS hl
    refine lv_iconst (v := 0) hx hb dX0_init_76 (by decide) ?_
    refine lv_istore_n (lv' := [(1, .int (nI 0)), (0, .ref b)]) hx hb dX0_init_77 rfl hl (by decide) rfl (fun ls hl => ?_)
    refine W.widen (k := 23) (n := 186) (by omega) (by omega) ?_
    exact ST1 _ _ _ hP hsp hsz hS hl
  have hP : va_P D vwCl [(b, .inr (0, [.null, .int 0, .null, .int 0, .null, .int 0, .int 0, .int 0, .int 0, .int 0, .int 0]))] s.heap := hG.2
  have hsz : s.heap.size = b + 1 := hG.1
  have hsp : spn b 1 [(b, .inr (0, [.null, .int 0, .null, .int 0, .null, .int 0, .int 0, .int 0, .int 0, .int 0, .int 0]))] := spn_nil.push rfl
  refine lv_aload_n hx hb dX0_init_0 rfl (lv_at hl 0 rfl) ?_
  refine gobj hx hb hml hown hts hl.1 qM_X0_3 dX0_init_1 ⟨Nat.le_of_ble_eq_true rfl, Nat.le_of_ble_eq_true rfl⟩ (Nat.le_of_ble_eq_true rfl) ?_
  refine lv_aload_n hx hb dX0_init_4 rfl (lv_at hl 0 rfl) ?_
  refine lv_bipush (v := 20) hx hb dX0_init_5 (by decide) ?_
  refine gnewQ (C := RX3) 1 hx hb hts hown qL_X0_9 hKa.1.1 rfl hK hP hS hsz (by decide) (show _ = 20 from rfl) (by decide) (Nat.le_of_ble_eq_true rfl) (Nat.le_of_ble_eq_true rfl) dX0_init_7 (fun H hP hsz _ hS => ?_)
  have hsp : spn b 2 ([(b, .inr (0, [.null, .int 0, .null, .int 0, .null, .int 0, .int 0, .int 0, .int 0, .int 0, .int 0])), (b + 1, .inl (D.1 101, 20, .inr (.inr (.inr (.inr (fun _ => none))))))]) := hsp.push rfl
  have hP : va_P D vwCl ([(b, .inr (0, [.null, .int 0, .null, .int 0, .null, .int 0, .int 0, .int 0, .int 0, .int 0, .int 0])), (b + 1, .inl (D.1 101, 20, .inr (.inr (.inr (.inr (fun _ => none))))))]) H := hP
  have hsz : H.size = b + 2 := hsz
  refine va_putF (ci := 0) (C := RX0) (T := TX0) (N := 11) hx hb hts awsX00 tyX0 tyX0_ok nmX0 hown hK hP (hsp.D (fun q h _ => hA q h)) hS 0 rfl rfl 0 (by decide) (hts _ qF_X0_11) (fun _ h => h) rfl hin rfl (tyX0_ok 0 (by decide)) rfl rfl (by simp) dX0_init_10 (fun H locs hP _ hS => ?_)
  have hsp : spn b 2 ([(b, .inr (0, [.ref (b + 1), .int 0, .null, .int 0, .null, .int 0, .int 0, .int 0, .int 0, .int 0, .int 0])), (b + 1, .inl (D.1 101, 20, .inr (.inr (.inr (.inr (fun _ => none))))))]) := hsp.set (k := 0) (a := b) (y := .inr (0, [.ref (b + 1), .int 0, .null, .int 0, .null, .int 0, .int 0, .int 0, .int 0, .int 0, .int 0])) rfl
  have hP : va_P D vwCl ([(b, .inr (0, [.ref (b + 1), .int 0, .null, .int 0, .null, .int 0, .int 0, .int 0, .int 0, .int 0, .int 0])), (b + 1, .inl (D.1 101, 20, .inr (.inr (.inr (.inr (fun _ => none))))))]) H := hP
  refine W.sz (fun hz9 => ?_)
  have hsz : H.size = b + 2 := hsp.sz hP (by omega)
  clear hz9
  refine lv_aload_n hx hb dX0_init_13 rfl (lv_at hl 0 rfl) ?_
  refine lv_iconst (v := 3) hx hb dX0_init_14 (by decide) ?_
  refine gnewQ (C := RX1) 2 hx hb hts hown qL_X0_17 hKa.1.2.1 rfl hK hP hS hsz (by decide) (show _ = 3 from rfl) (by decide) (Nat.le_of_ble_eq_true rfl) (Nat.le_of_ble_eq_true rfl) dX0_init_15 (fun H hP hsz _ hS => ?_)
  have hsp : spn b 3 ([(b, .inr (0, [.ref (b + 1), .int 0, .null, .int 0, .null, .int 0, .int 0, .int 0, .int 0, .int 0, .int 0])), (b + 1, .inl (D.1 101, 20, .inr (.inr (.inr (.inr (fun _ => none)))))), (b + 2, .inl (D.1 102, 3, .inr (.inr (.inr (.inr (fun _ => none))))))]) := hsp.push rfl
  have hP : va_P D vwCl ([(b, .inr (0, [.ref (b + 1), .int 0, .null, .int 0, .null, .int 0, .int 0, .int 0, .int 0, .int 0, .int 0])), (b + 1, .inl (D.1 101, 20, .inr (.inr (.inr (.inr (fun _ => none)))))), (b + 2, .inl (D.1 102, 3, .inr (.inr (.inr (.inr (fun _ => none))))))]) H := hP
  have hsz : H.size = b + 3 := hsz
  refine va_putF (ci := 0) (C := RX0) (T := TX0) (N := 11) hx hb hts awsX00 tyX0 tyX0_ok nmX0 hown hK hP (hsp.D (fun q h _ => hA q h)) hS 0 rfl rfl 2 (by decide) (hts _ qF_X0_19) (fun _ h => h) rfl hin rfl (tyX0_ok 2 (by decide)) rfl rfl (by simp) dX0_init_18 (fun H locs hP _ hS => ?_)
  have hsp : spn b 3 ([(b, .inr (0, [.ref (b + 1), .int 0, .ref (b + 2), .int 0, .null, .int 0, .int 0, .int 0, .int 0, .int 0, .int 0])), (b + 1, .inl (D.1 101, 20, .inr (.inr (.inr (.inr (fun _ => none)))))), (b + 2, .inl (D.1 102, 3, .inr (.inr (.inr (.inr (fun _ => none))))))]) := hsp.set (k := 0) (a := b) (y := .inr (0, [.ref (b + 1), .int 0, .ref (b + 2), .int 0, .null, .int 0, .int 0, .int 0, .int 0, .int 0, .int 0])) rfl
  have hP : va_P D vwCl ([(b, .inr (0, [.ref (b + 1), .int 0, .ref (b + 2), .int 0, .null, .int 0, .int 0, .int 0, .int 0, .int 0, .int 0])), (b + 1, .inl (D.1 101, 20, .inr (.inr (.inr (.inr (fun _ => none)))))), (b + 2, .inl (D.1 102, 3, .inr (.inr (.inr (.inr (fun _ => none))))))]) H := hP
  refine W.sz (fun hz9 => ?_)
  have hsz : H.size = b + 3 := hsp.sz hP (by omega)
  clear hz9
  refine lv_aload_n hx hb dX0_init_21 rfl (lv_at hl 0 rfl) ?_
  refine lv_iconst (v := 3) hx hb dX0_init_22 (by decide) ?_
  refine gnewQ (C := RX4) 3 hx hb hts hown qL_X0_23 hKa.1.2.2.1 rfl hK hP hS hsz (by decide) (show _ = 3 from rfl) (by decide) (Nat.le_of_ble_eq_true rfl) (Nat.le_of_ble_eq_true rfl) dX0_init_23 (fun H hP hsz _ hS => ?_)
  have hsp : spn b 4 ([(b, .inr (0, [.ref (b + 1), .int 0, .ref (b + 2), .int 0, .null, .int 0, .int 0, .int 0, .int 0, .int 0, .int 0])), (b + 1, .inl (D.1 101, 20, .inr (.inr (.inr (.inr (fun _ => none)))))), (b + 2, .inl (D.1 102, 3, .inr (.inr (.inr (.inr (fun _ => none)))))), (b + 3, .inl (D.1 103, 3, .inr (.inr (.inr (.inr (fun _ => none))))))]) := hsp.push rfl
  have hP : va_P D vwCl ([(b, .inr (0, [.ref (b + 1), .int 0, .ref (b + 2), .int 0, .null, .int 0, .int 0, .int 0, .int 0, .int 0, .int 0])), (b + 1, .inl (D.1 101, 20, .inr (.inr (.inr (.inr (fun _ => none)))))), (b + 2, .inl (D.1 102, 3, .inr (.inr (.inr (.inr (fun _ => none)))))), (b + 3, .inl (D.1 103, 3, .inr (.inr (.inr (.inr (fun _ => none))))))]) H := hP
  have hsz : H.size = b + 4 := hsz
  refine va_putF (ci := 0) (C := RX0) (T := TX0) (N := 11) hx hb hts awsX00 tyX0 tyX0_ok nmX0 hown hK hP (hsp.D (fun q h _ => hA q h)) hS 0 rfl rfl 4 (by decide) (hts _ qF_X0_25) (fun _ h => h) rfl hin rfl (tyX0_ok 4 (by decide)) rfl rfl (by simp) dX0_init_26 (fun H locs hP _ hS => ?_)
  have hsp : spn b 4 ([(b, .inr (0, [.ref (b + 1), .int 0, .ref (b + 2), .int 0, .ref (b + 3), .int 0, .int 0, .int 0, .int 0, .int 0, .int 0])), (b + 1, .inl (D.1 101, 20, .inr (.inr (.inr (.inr (fun _ => none)))))), (b + 2, .inl (D.1 102, 3, .inr (.inr (.inr (.inr (fun _ => none)))))), (b + 3, .inl (D.1 103, 3, .inr (.inr (.inr (.inr (fun _ => none))))))]) := hsp.set (k := 0) (a := b) (y := .inr (0, [.ref (b + 1), .int 0, .ref (b + 2), .int 0, .ref (b + 3), .int 0, .int 0, .int 0, .int 0, .int 0, .int 0])) rfl
  have hP : va_P D vwCl ([(b, .inr (0, [.ref (b + 1), .int 0, .ref (b + 2), .int 0, .ref (b + 3), .int 0, .int 0, .int 0, .int 0, .int 0, .int 0])), (b + 1, .inl (D.1 101, 20, .inr (.inr (.inr (.inr (fun _ => none)))))), (b + 2, .inl (D.1 102, 3, .inr (.inr (.inr (.inr (fun _ => none)))))), (b + 3, .inl (D.1 103, 3, .inr (.inr (.inr (.inr (fun _ => none))))))]) H := hP
  refine W.sz (fun hz9 => ?_)
  have hsz : H.size = b + 4 := hsp.sz hP (by omega)
  clear hz9
  refine lv_aload_n hx hb dX0_init_29 rfl (lv_at hl 0 rfl) ?_
  refine lv_sipush (v := 1000) hx hb dX0_init_30 (by decide) ?_
  refine va_put (ci := 0) (C := RX0) (T := TX0) (N := 11) hx hb hts awsX00 tyX0 tyX0_ok nmX0 hown hK hP (hsp.D (fun q h _ => hA q h)) hS 0 rfl rfl 6 (by decide) (hts _ qF_X0_29) (fun _ h => h) rfl (tyX0_ok 6 (by decide)) rfl rfl (by simp) dX0_init_33 (fun H locs hP _ hS => ?_)
  have hsp : spn b 4 ([(b, .inr (0, [.ref (b + 1), .int 0, .ref (b + 2), .int 0, .ref (b + 3), .int 0, .int 1000, .int 0, .int 0, .int 0, .int 0])), (b + 1, .inl (D.1 101, 20, .inr (.inr (.inr (.inr (fun _ => none)))))), (b + 2, .inl (D.1 102, 3, .inr (.inr (.inr (.inr (fun _ => none)))))), (b + 3, .inl (D.1 103, 3, .inr (.inr (.inr (.inr (fun _ => none))))))]) := hsp.set (k := 0) (a := b) (y := .inr (0, [.ref (b + 1), .int 0, .ref (b + 2), .int 0, .ref (b + 3), .int 0, .int 1000, .int 0, .int 0, .int 0, .int 0])) rfl
  have hP : va_P D vwCl ([(b, .inr (0, [.ref (b + 1), .int 0, .ref (b + 2), .int 0, .ref (b + 3), .int 0, .int 1000, .int 0, .int 0, .int 0, .int 0])), (b + 1, .inl (D.1 101, 20, .inr (.inr (.inr (.inr (fun _ => none)))))), (b + 2, .inl (D.1 102, 3, .inr (.inr (.inr (.inr (fun _ => none)))))), (b + 3, .inl (D.1 103, 3, .inr (.inr (.inr (.inr (fun _ => none))))))]) H := hP
  refine lv_aload_n hx hb dX0_init_36 rfl (lv_at hl 0 rfl) ?_
  refine lv_bipush (v := 10) hx hb dX0_init_37 (by decide) ?_
  refine va_put (ci := 0) (C := RX0) (T := TX0) (N := 11) hx hb hts awsX00 tyX0 tyX0_ok nmX0 hown hK hP (hsp.D (fun q h _ => hA q h)) hS 0 rfl rfl 7 (by decide) (hts _ qF_X0_33) (fun _ h => h) rfl (tyX0_ok 7 (by decide)) rfl rfl (by simp) dX0_init_39 (fun H locs hP _ hS => ?_)
  have hsp : spn b 4 ([(b, .inr (0, [.ref (b + 1), .int 0, .ref (b + 2), .int 0, .ref (b + 3), .int 0, .int 1000, .int 10, .int 0, .int 0, .int 0])), (b + 1, .inl (D.1 101, 20, .inr (.inr (.inr (.inr (fun _ => none)))))), (b + 2, .inl (D.1 102, 3, .inr (.inr (.inr (.inr (fun _ => none)))))), (b + 3, .inl (D.1 103, 3, .inr (.inr (.inr (.inr (fun _ => none))))))]) := hsp.set (k := 0) (a := b) (y := .inr (0, [.ref (b + 1), .int 0, .ref (b + 2), .int 0, .ref (b + 3), .int 0, .int 1000, .int 10, .int 0, .int 0, .int 0])) rfl
  have hP : va_P D vwCl ([(b, .inr (0, [.ref (b + 1), .int 0, .ref (b + 2), .int 0, .ref (b + 3), .int 0, .int 1000, .int 10, .int 0, .int 0, .int 0])), (b + 1, .inl (D.1 101, 20, .inr (.inr (.inr (.inr (fun _ => none)))))), (b + 2, .inl (D.1 102, 3, .inr (.inr (.inr (.inr (fun _ => none)))))), (b + 3, .inl (D.1 103, 3, .inr (.inr (.inr (.inr (fun _ => none))))))]) H := hP
  refine lv_aload_n hx hb dX0_init_42 rfl (lv_at hl 0 rfl) ?_
  refine lv_sipush (v := 1000) hx hb dX0_init_43 (by decide) ?_
  refine va_put (ci := 0) (C := RX0) (T := TX0) (N := 11) hx hb hts awsX00 tyX0 tyX0_ok nmX0 hown hK hP (hsp.D (fun q h _ => hA q h)) hS 0 rfl rfl 9 (by decide) (hts _ qF_X0_36) (fun _ h => h) rfl (tyX0_ok 9 (by decide)) rfl rfl (by simp) dX0_init_46 (fun H locs hP _ hS => ?_)
  have hsp : spn b 4 ([(b, .inr (0, [.ref (b + 1), .int 0, .ref (b + 2), .int 0, .ref (b + 3), .int 0, .int 1000, .int 10, .int 0, .int 1000, .int 0])), (b + 1, .inl (D.1 101, 20, .inr (.inr (.inr (.inr (fun _ => none)))))), (b + 2, .inl (D.1 102, 3, .inr (.inr (.inr (.inr (fun _ => none)))))), (b + 3, .inl (D.1 103, 3, .inr (.inr (.inr (.inr (fun _ => none))))))]) := hsp.set (k := 0) (a := b) (y := .inr (0, [.ref (b + 1), .int 0, .ref (b + 2), .int 0, .ref (b + 3), .int 0, .int 1000, .int 10, .int 0, .int 1000, .int 0])) rfl
  have hP : va_P D vwCl ([(b, .inr (0, [.ref (b + 1), .int 0, .ref (b + 2), .int 0, .ref (b + 3), .int 0, .int 1000, .int 10, .int 0, .int 1000, .int 0])), (b + 1, .inl (D.1 101, 20, .inr (.inr (.inr (.inr (fun _ => none)))))), (b + 2, .inl (D.1 102, 3, .inr (.inr (.inr (.inr (fun _ => none)))))), (b + 3, .inl (D.1 103, 3, .inr (.inr (.inr (.inr (fun _ => none))))))]) H := hP
  refine W.sz (fun hz9 => ?_)
  have hsz : H.size = b + 4 := hsp.sz hP (by omega)
  clear hz9
  refine lv_iconst (v := 0) hx hb dX0_init_49 (by decide) ?_
  refine lv_istore_n (lv' := [(1, .int (nI 0)), (0, .ref b)]) hx hb dX0_init_50 rfl hl (by decide) rfl (fun ls hl => ?_)
  have hP : va_P D vwCl (cH D b 0 0 0 ++ tS b 0) H := hP
  have hsp : spn b (4 + 0) (cH D b 0 0 0 ++ tS b 0) := hsp
  have LS : ∀ (k j : Nat) (H : Heap) (locs : List Loc) (ls : Array Slot), j + k = 20 → va_P D vwCl (cH D b j 0 0 ++ tS b j) H → spn b (4 + j) (cH D b j 0 0 ++ tS b j) → H.size = b + (4 + j) → va_S (fun x => b ≤ x) s.heap H locs → lv_has ls 2 [(1, .int (nI j)), (0, .ref b)] → (∀ (H : Heap) (locs : List Loc) (ls : Array Slot), va_P D vwCl (cH D b 20 0 0 ++ tS b 20) H → spn b 24 (cH D b 20 0 0 ++ tS b 20) → H.size = b + 24 → va_S (fun x => b ≤ x) s.heap H locs → lv_has ls 2 [(1, .int (nI 20)), (0, .ref b)] → W p l e (headSpec (wA yX0_init cX0_init 2 none) (rmX 2 32 261)).room s m args below meth c H locs (23) (186) (MQ below (gQv (fun x => b ≤ x) (fun H => H.size = b + 33 ∧ Graph D b P0 H)) args s 32 261 (fun x => b ≤ x)) (F0 m 76 ls [])) → W p l e (headSpec (wA yX0_init cX0_init 2 none) (rmX 2 32 261)).room s m args below meth c H locs (3 + j) (26 + 8 * j) (MQ below (gQv (fun x => b ≤ x) (fun H => H.size = b + 33 ∧ Graph D b P0 H)) args s 32 261 (fun x => b ≤ x)) (F0 m 51 ls []) := by
    intro k
    induction k with
    | zero =>
      intro j H locs ls hj hP hsp hsz hS hl K
      obtain rfl : j = 20 := by omega
      refine lv_iload_n hx hb dX0_init_51 rfl (lv_at hl 0 rfl) ?_
      refine lv_bipush (v := 20) hx hb dX0_init_52 (by decide) ?_
      refine lv_icmp_ge (tgt := 76) hx hb dX0_init_54 (by decide) (fun c9 => ?_) (fun c9 => absurd (by decide) c9)
      exact K _ _ _ hP hsp hsz hS hl
    | succ k ih =>
      intro j H locs ls hj hP hsp hsz hS hl K
      refine lv_iload_n hx hb dX0_init_51 rfl (lv_at hl 0 rfl) ?_
      refine lv_bipush (v := 20) hx hb dX0_init_52 (by decide) ?_
      refine lv_icmp_ge (tgt := 76) hx hb dX0_init_54 (by decide) (fun c9 => absurd ((nI_leI (a := 20) (b := j) (by omega) (by omega)).mp c9) (by omega)) (fun c9 => ?_)
      refine lv_aload_n hx hb dX0_init_57 rfl (lv_at hl 1 rfl) ?_
      refine va_get (ci := 0) (C := RX0) (T := TX0) (N := 11) hx hb hts awsX00 hown hK hP 0 rfl rfl 0 (by decide) (hts _ qF_X0_11) (fun _ h => h) rfl dX0_init_58 ?_
      refine lv_iload_n hx hb dX0_init_61 rfl (lv_at hl 0 rfl) ?_
      refine gnew (ci := 3) (C := RX3) (T := TX3) (N := 8) (fs := z8) hx hb hts awsX30 tyX3_ok hown qL_X0_9 qN_X3 qK_X3 hK hP hS hsz rfl (fun j hj => by rcases (show j = 0 ∨ j = 1 ∨ j = 2 ∨ j = 3 ∨ j = 4 ∨ j = 5 ∨ j = 6 ∨ j = 7 by omega) with rfl | rfl | rfl | rfl | rfl | rfl | rfl | rfl <;> rfl) (by show 3 + j + 1 ≤ 32; omega) (by show 26 + 8 * j + 8 ≤ 261; omega) dX0_init_62 (fun H hP hsz _ hS => ?_)
      have hsp : spn b (4 + j + 1) ((cH D b j 0 0 ++ tS b j) ++ [(b + (4 + j), .inr (3, z8))]) := hsp.push rfl
      refine lv_dup hx hb dX0_init_65 rfl ?_
      refine gcIn (As := []) (rest := [.ref (b + (4 + j)), .int (nI j), .ref (b + 1)]) hx hb hml hown hts hl.1 (c_X3_init l D (b + (4 + j)) (fun H => va_P D vwCl ((cH D b j 0 0 ++ tS b j) ++ [(b + (4 + j), .inr (3, z8))]) H)) qC_X3_init qK_X3 hKa.2.1 qI_X3_init rfl hdv_X3_init.2 ⟨(Nat.le_of_ble_eq_true rfl), (Nat.le_of_ble_eq_true rfl)⟩ (gPre_S hK hP) rfl (Nat.le_of_ble_eq_true rfl) ⟨by show 3 + j + 1 + 0 ≤ 32; omega, by show 26 + 8 * j + 8 + 0 ≤ 261; omega⟩ dX0_init_66 hS (fun q h => False.elim h) (fun H locs hP _ _ hS => ?_)
      refine va_astq hx hb hK hP (hsp.D (fun q h _ => hA q h)) hS 1 1 (cH D b j 0 0 ++ tS b j).length 3 rfl rfl last_get rfl (vp_in_nI (by omega) (by decide)) dX0_init_69 (fun H locs hP _ hS => ?_)
      rw [nI_clamp (by omega), show b + (4 + j) = b + 4 + j by omega, fS_up] at hP
      have hP : va_P D vwCl (cH D b (j + 1) 0 0 ++ tS b (j + 1)) H := by rw [tS_1]; exact hP
      have hsp : spn b (4 + (j + 1)) (cH D b (j + 1) 0 0 ++ tS b (j + 1)) := by rw [tS_1, show b + 4 + j = b + (4 + j) by omega]; exact hsp.set (k := 1) (a := b + 1) (y := .inl (D.1 101, 20, .inr (.inr (.inr (.inr (fS b (j + 1))))))) rfl
      refine W.sz (fun hz9 => ?_)
      have hsz : H.size = b + (4 + (j + 1)) := spn.sz (n := 4 + j) hsp hP (by omega)
      refine lv_iinc (v := nI (j + 1)) (lv' := [(1, .int (nI (j + 1))), (0, .ref b)]) hx hb dX0_init_70 hl (k := 0) rfl (nI_add j 1) (by decide) rfl (fun ls hl => ?_)
      refine lv_goto (tgt := 51) hx hb dX0_init_73 (by decide) ?_
      refine W.widen (k := 3 + (j + 1)) (n := 26 + 8 * (j + 1)) (by omega) (by omega) ?_
      exact ih (j + 1) _ _ _ (by omega) hP hsp hsz hS hl K
  refine W.widen (k := 3 + 0) (n := 26 + 8 * 0) (by omega) (by omega) ?_
  exact LS 20 0 _ _ _ rfl hP hsp hsz hS hl (fun H locs ls hP hsp hsz hS hl => ST0 _ _ _ hP hsp hsz hS hl)
