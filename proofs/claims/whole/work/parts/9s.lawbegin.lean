/-! The law from its entry to its loop. -/
theorem law_begin {p : Program} {l : Launch} {e : Env} {s : State} {m : MethodId} {args : Array Value} {below : List Frame} {meth : Method} {c : Code} {Q : State → Prop} {ls : Array Slot} {D : va_G} {b L r : Nat} {xs : Nat → Int32} (hl0 : l.stackTraces = false) (hx : p.tables.exec = Jvm.exec) (hb : c.code = cL_law) (hml : c.maxLocals = 9) (hown : s.vm.findClass RL = some m.cls) (hts : ∀ w ∈ AW, w.before args s = true) (hK : Kn D s) (hKx : Kx r s) (hKa : Ka s) (hX : va_X b L xs s s.heap) (hbl : b < r) (hsz0 : s.heap.size = r) (hL : L ≤ 2560) (hl : lv_has ls 9 [(0, .ref b)])
    (kk : ∀ (H1 : Heap) (locs1 : List Loc) (ls1 : Array Slot) (c1 c2 : Nat), c1 ≤ 601024 → c2 ≤ 7293034 → va_S (fun q => r ≤ q) s.heap H1 locs1 → W p l e room_1 s m args below meth c H1 locs1 c1 c2 Q (F0 m 1638 ls1 [])) : W p l e room_1 s m args below meth c s.heap [] 0 0 Q (F0 m 0 ls []) := by
  have hS : va_S (fun q => r ≤ q) s.heap s.heap [] := va_S.rf
  have hP : va_P D vwCl [] s.heap := fun k q h => by simp at h
  refine gnew (ci := 6) (C := RX6) (T := TX6) (N := 4) (fs := [.null, .null, .null, .null]) hx hb hts awsX60 tyX6_ok hown qL_L_8 qN_X6 qK_X6 hK hP hS hsz0 rfl (fun j hj => by rcases (show j = 0 ∨ j = 1 ∨ j = 2 ∨ j = 3 by omega) with rfl | rfl | rfl | rfl <;> rfl) (Nat.le_of_ble_eq_true rfl) (Nat.le_of_ble_eq_true rfl) dL_law_0 (fun H hP hsz _ hS => ?_)
  refine lv_dup hx hb dL_law_3 rfl ?_
  refine gcIv (As := []) (rest := [.ref r]) hx hb hml hown hts hl.1 (c_X6_init l D r) qC_X6_init qK_X6 qM_L_83 qI_X6_init rfl hdv_X6_init.2 ⟨(Nat.le_of_ble_eq_true rfl), (Nat.le_of_ble_eq_true rfl)⟩ (kPre_S hK hKa ⟨hsz, hP⟩) rfl (Nat.le_of_ble_eq_true rfl) ⟨(Nat.le_of_ble_eq_true rfl), (Nat.le_of_ble_eq_true rfl)⟩ dL_law_4 hS (fun q h => h) (fun H locs hN _ _ hS => ?_)
  obtain ⟨hsz, hG⟩ := hN
  refine lv_astore_n (lv' := [(1, .ref r), (0, .ref b)]) hx hb dL_law_7 rfl hl (by decide) rfl (fun ls hl => ?_)
  have hP : va_P D vwCl [] H := fun k q h => by simp at h
  refine gnew (ci := 7) (C := RX7) (T := TX7) (N := 13) (fs := [.null, .null, .null, .int 0, .null, .int 0, .int 0, .int 0, .int 0, .int 0, .int 0, .int 0, .long 0]) hx hb hts awsX70 tyX7_ok hown qL_L_84 qN_X7 qK_X7 hK hP hS hsz rfl (fun j hj => by rcases (show j = 0 ∨ j = 1 ∨ j = 2 ∨ j = 3 ∨ j = 4 ∨ j = 5 ∨ j = 6 ∨ j = 7 ∨ j = 8 ∨ j = 9 ∨ j = 10 ∨ j = 11 ∨ j = 12 by omega) with rfl | rfl | rfl | rfl | rfl | rfl | rfl | rfl | rfl | rfl | rfl | rfl | rfl <;> rfl) (Nat.le_of_ble_eq_true rfl) (Nat.le_of_ble_eq_true rfl) dL_law_8 (fun H hP hsz hq hS => ?_)
  have hG := hG.kept (fun q h => hq q (hG.lt h))
  refine lv_dup hx hb dL_law_11 rfl ?_
  refine gcIv (As := []) (rest := [.ref (r + 206)]) hx hb hml hown hts hl.1 (c_X7_init l D (r + 206)) qC_X7_init qK_X7 qM_L_86 qI_X7_init rfl hdv_X7_init.2 ⟨(Nat.le_of_ble_eq_true rfl), (Nat.le_of_ble_eq_true rfl)⟩ (gPre_S hK ⟨hsz, hP⟩) rfl (Nat.le_of_ble_eq_true rfl) ⟨(Nat.le_of_ble_eq_true rfl), (Nat.le_of_ble_eq_true rfl)⟩ dL_law_12 hS (fun q h => by omega) (fun H locs hN _ hq hS => ?_)
  have hG := hG.kept (fun q h => hq q (hG.lt h) (fun h2 => by have := h.2; omega))
  obtain ⟨hsz, hM⟩ := hN
  refine lv_astore_n (lv' := [(2, .ref (r + 206)), (1, .ref r), (0, .ref b)]) hx hb dL_law_15 rfl hl (by decide) rfl (fun ls hl => ?_)
  refine lv_iconst (v := 1) hx hb dL_law_16 (by decide) ?_
  have hP : va_P D vwCl [] H := fun k q h => by simp at h
  refine gnewJ (N := 1) (n0 := r + 211) hx hb hts hK hP hS hsz (by decide) rfl (by decide) (Nat.le_of_ble_eq_true rfl) (Nat.le_of_ble_eq_true rfl) dL_law_17 (fun H hP hsz hq hS => ?_)
  have hG := hG.kept (fun q h => hq q (hG.lt h))
  have hM := hM.kept (fun q h => hq q (hM.lt h))
  refine lv_astore_n (lv' := [(3, .ref (r + 211)), (2, .ref (r + 206)), (1, .ref r), (0, .ref b)]) hx hb dL_law_19 rfl hl (by decide) rfl (fun ls hl => ?_)
  refine lv_iconst (v := 0) hx hb dL_law_20 (by decide) ?_
  refine topN (n := 0) rfl ?_
  refine lv_istore (lv' := [(4, .int (nI 0)), (3, .ref (r + 211)), (2, .ref (r + 206)), (1, .ref r), (0, .ref b)]) hx hb dL_law_21 hl (by decide) rfl (fun ls hl => ?_)
  exact law_loop hl0 hx hb hml hown hts hK hKx hX hbl hsz0 hL kk 513 0 H locs _ _ ls (by omega) (by omega) (by omega) (by omega) hS (lv_sub hl [4, 3, 2, 1, 0] rfl) ⟨_, _, _, _, _, _, _, _, _, _, _, _, _, _, _, _, hG, hM, hP, Rel0⟩
