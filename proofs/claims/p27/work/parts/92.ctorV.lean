def fV (v j : Nat) : Nat → Option Nat := fun x => if x < j then some (v + 2 + 33 * x) else none
theorem fV_up {b j : Nat} : va_up (fV b j) j (some (b + 2 + 33 * j)) = fV b (j + 1) := by
  funext x
  unfold va_up fV
  by_cases h : x = j
  · subst h; rw [if_pos rfl, if_pos (by omega)]
  · rw [if_neg h]
    by_cases h2 : x < j
    · rw [if_pos h2, if_pos (by omega)]
    · rw [if_neg h2, if_neg (by omega)]
def vK (D : va_G) (v j : Nat) : va_W := [(v, .inr (2, [.ref (v + 1), .int 0])), (v + 1, .inl (D.1 104, 4, .inr (.inr (.inr (.inr (fV v j))))))]
theorem set_k1 {D : va_G} {v j j' : Nat} {tl : va_W} : (vK D v j ++ tl).set 1 (v + 1, .inl (D.1 104, 4, .inr (.inr (.inr (.inr (fV v j')))))) = vK D v j' ++ tl := rfl
theorem get_k1 {D : va_G} {v j : Nat} {tl : va_W} : (vK D v j ++ tl)[1]? = some (v + 1, .inl (D.1 104, 4, .inr (.inr (.inr (.inr (fV v j)))))) := rfl
theorem gL_mid {D : va_G} {b : Nat} {P : Nat → Int32} {ws : va_W} : (ws ++ gL D b P)[ws.length]? = some (b, .inr (0, cF P b)) := by
  rw [List.getElem?_append_right (Nat.le_refl _), Nat.sub_self]
  exact gL_0
theorem vL_new {D : va_G} {v : Nat} {H : Heap} (hP : va_P D vwCl (vK D v 4 ++ ((((([] : va_W) ++ gL D (v + 2) P0) ++ gL D (v + 35) P0) ++ gL D (v + 68) P0) ++ gL D (v + 101) P0)) H) : va_P D vwCl (vL D v (fun i => i) (fun _ => P0) 0) H := by
  have ht := va_P_r hP
  have h3 := va_P_r ht
  have h2 := va_P_r (va_P_l ht)
  have h1 := va_P_r (va_P_l (va_P_l ht))
  have h0 := va_P_r (va_P_l (va_P_l (va_P_l ht)))
  exact va_P.app (va_P_l hP) (va_P.app h0 (va_P.app h1 (va_P.app h2 h3)))
theorem hdv_X2_init : yX2_init.cls = RX2 ∧ yX2_init.cls ≠ "java/lang/invoke/MethodHandle" ∧ yX2_init.cls ≠ "java/lang/invoke/VarHandle" ∧ (parseMethodDescriptor yX2_init.desc).map (fun d => d.parameters.length) = some 0 := by decide +kernel
set_option maxHeartbeats 4000000 in
set_option maxRecDepth 100000 in
theorem c_X2_init (l : Launch) (D : va_G) (v : Nat) : Met l yX2_init (wA yX2_init cX2_init 2 none) (rmX 3 133 1092) (kPc D [.ref v] (fun H => H.size = v + 1 ∧ va_P D vwCl [(v, .inr (2, [.null, .int 0]))] H)) (gQv (fun x => v ≤ x) (fun H => H.size = v + 134 ∧ va_P D vwCl (vL D v (fun i => i) (fun _ => P0) 0) H)) 133 1092 (fun x => v ≤ x) := by
  refine Met.ofW (cc := cX2_init) (maxL := 2) (ret := none) (by decide) rfl ?_
  intro p e s m args below meth c s₁ B hml hv
  obtain ⟨hav, hG, hK, hKa⟩ := hv
  have hx := B.exec
  have hb := B.bytes
  have hr := B.returns
  have hts0 := atoms_spec (ws := wA yX2_init cX2_init 2 none) B.pre
  have hts : ∀ w ∈ AW, w.before _ s = true := fun w h => hts0 w (List.mem_cons_of_mem _ h)
  have hown : s.vm.findClass RX2 = some m.cls := findClass_of_methodNamed B.named
  have hlocks := B.notSynchronized
  have hS : va_S (fun x => v ≤ x) s.heap s.heap [] := va_S.rf
  have hin : meth.name = "<init>" := (name_of_methodNamed B.named B.method).1
  have hl := lv_entry ([.ref v]) (n := 2) (Nat.le_of_ble_eq_true rfl)
  refine W.eq (g2 := entryFrame m ([.ref v] : List Value).toArray 2) (by rw [hav]) ?_
  rw [lg_entry_eq]
  generalize (lg_sl ([.ref v]) ++ List.replicate (2 - (lg_sl ([.ref v])).length) Slot.unset).toArray = ls at hl ⊢
  have hl : lv_has ls 2 [(0, .ref v)] := hl
  have hA : ∀ x, v ≤ x → v ≤ x := fun _ h => h
  have hz0 : s.heap.size = v + 1 := hG.1
  have ST4 : ∀ (H : Heap) (locs : List Loc) (ls : Array Slot), va_P D vwCl (vK D v 4 ++ ((((([] : va_W) ++ gL D (v + 2) P0) ++ gL D (v + 35) P0) ++ gL D (v + 68) P0) ++ gL D (v + 101) P0)) H → spn v 134 (vK D v 4 ++ ((((([] : va_W) ++ gL D (v + 2) P0) ++ gL D (v + 35) P0) ++ gL D (v + 68) P0) ++ gL D (v + 101) P0)) → H.size = v + 134 → va_S (fun x => v ≤ x) s.heap H locs → lv_has ls 2 [(1, .int (nI 4)), (0, .ref v)] → W p l e (headSpec (wA yX2_init cX2_init 2 none) (rmX 3 133 1092)).room s m args below meth c H locs (133) (1092) (MQ below (gQv (fun x => v ≤ x) (fun H => H.size = v + 134 ∧ va_P D vwCl (vL D v (fun i => i) (fun _ => P0) 0) H)) args s 133 1092 (fun x => v ≤ x)) (F0 m 14 ls []) := by
    intro H locs ls hP hsp hsz hS hl
    refine lv_iload_n hx hb dX2_init_14 rfl (lv_at hl 0 rfl) ?_
    refine lv_iconst (v := 4) hx hb dX2_init_15 (by decide) ?_
    refine lv_icmp_ge (tgt := 38) hx hb dX2_init_16 (by decide) (fun c9 => ?_) (fun c9 => absurd (by decide) c9)
    clear c9
    refine W.widen (k := 133) (n := 1092) (by omega) (by omega) ?_
    exact W.vret hx hb hr (fun t ht hW => gQv_of (Pic := fun H => H.size = v + 134 ∧ va_P D vwCl (vL D v (fun i => i) (fun _ => P0) 0) H) ⟨hsz, vL_new hP⟩ hS ht) hS.2.2 dX2_init_38
  have ST3 : ∀ (H : Heap) (locs : List Loc) (ls : Array Slot), va_P D vwCl (vK D v 3 ++ (((([] : va_W) ++ gL D (v + 2) P0) ++ gL D (v + 35) P0) ++ gL D (v + 68) P0)) H → spn v 101 (vK D v 3 ++ (((([] : va_W) ++ gL D (v + 2) P0) ++ gL D (v + 35) P0) ++ gL D (v + 68) P0)) → H.size = v + 101 → va_S (fun x => v ≤ x) s.heap H locs → lv_has ls 2 [(1, .int (nI 3)), (0, .ref v)] → W p l e (headSpec (wA yX2_init cX2_init 2 none) (rmX 3 133 1092)).room s m args below meth c H locs (100) (820) (MQ below (gQv (fun x => v ≤ x) (fun H => H.size = v + 134 ∧ va_P D vwCl (vL D v (fun i => i) (fun _ => P0) 0) H)) args s 133 1092 (fun x => v ≤ x)) (F0 m 14 ls []) := by
    intro H locs ls hP hsp hsz hS hl
    refine lv_iload_n hx hb dX2_init_14 rfl (lv_at hl 0 rfl) ?_
    refine lv_iconst (v := 4) hx hb dX2_init_15 (by decide) ?_
    refine lv_icmp_ge (tgt := 38) hx hb dX2_init_16 (by decide) (fun c9 => absurd c9 (by decide)) (fun c9 => ?_)
    clear c9
    refine lv_aload_n hx hb dX2_init_19 rfl (lv_at hl 1 rfl) ?_
    refine va_get (ci := 2) (C := RX2) (T := TX2) (N := 2) hx hb hts awsX20 hown hK hP 0 rfl rfl 0 (by decide) (hts _ qF_X2_11) (fun _ h => h) rfl dX2_init_20 ?_
    refine lv_iload_n hx hb dX2_init_23 rfl (lv_at hl 0 rfl) ?_
    refine gnew (ci := 0) (C := RX0) (T := TX0) (N := 11) (fs := [.null, .int 0, .null, .int 0, .null, .int 0, .int 0, .int 0, .int 0, .int 0, .int 0]) hx hb hts awsX00 tyX0_ok hown qL_X2_9 qN_X0 qK_X0 hK hP hS hsz rfl (fun j hj => by rcases (show j = 0 ∨ j = 1 ∨ j = 2 ∨ j = 3 ∨ j = 4 ∨ j = 5 ∨ j = 6 ∨ j = 7 ∨ j = 8 ∨ j = 9 ∨ j = 10 by omega) with rfl | rfl | rfl | rfl | rfl | rfl | rfl | rfl | rfl | rfl | rfl <;> rfl) (Nat.le_of_ble_eq_true rfl) (Nat.le_of_ble_eq_true rfl) dX2_init_24 (fun H hP hsz _ hS => ?_)
    refine lv_dup hx hb dX2_init_27 rfl ?_
    refine gcIv (As := []) (rest := [.ref (v + 101), .int (nI 3), .ref (v + 1)]) hx hb hml hown hts hl.1 (c_X0_init l D (v + 101)) qC_X0_init qK_X0 qM_X2_17 qI_X0_init rfl hdv_X0_init.2 ⟨(Nat.le_of_ble_eq_true rfl), (Nat.le_of_ble_eq_true rfl)⟩ (kPre_S hK hKa ⟨hsz, va_P_r hP⟩) rfl (Nat.le_of_ble_eq_true rfl) ⟨(Nat.le_of_ble_eq_true rfl), (Nat.le_of_ble_eq_true rfl)⟩ dX2_init_28 hS (fun q h => by omega) (fun H locs hN _ hq hS => ?_)
    have hP : va_P D vwCl ((vK D v 3 ++ (((([] : va_W) ++ gL D (v + 2) P0) ++ gL D (v + 35) P0) ++ gL D (v + 68) P0)) ++ gL D (v + 101) P0) H := ctor_join hsp hP rfl hN.2 hq
    have hsp : spn v 134 ((vK D v 3 ++ (((([] : va_W) ++ gL D (v + 2) P0) ++ gL D (v + 35) P0) ++ gL D (v + 68) P0)) ++ gL D (v + 101) P0) := hsp.app (n := 101) (m := 33) gL_spn
    refine va_astq hx hb hK hP (hsp.D (fun q h _ => hA q h)) hS 1 4 (vK D v 3 ++ (((([] : va_W) ++ gL D (v + 2) P0) ++ gL D (v + 35) P0) ++ gL D (v + 68) P0)).length 0 (by rw [List.append_assoc]; exact get_k1) rfl gL_mid rfl (vp_in_nI (by decide) (by decide)) dX2_init_31 (fun H locs hP _ hS => ?_)
    rw [nI_clamp (by omega)] at hP
    have e9 : va_up (fV v 3) 3 (some (v + 101)) = fV v 4 := fV_up
    rw [e9] at hP
    clear e9
    rw [List.append_assoc, set_k1] at hP
    have hP : va_P D vwCl (vK D v 4 ++ ((((([] : va_W) ++ gL D (v + 2) P0) ++ gL D (v + 35) P0) ++ gL D (v + 68) P0) ++ gL D (v + 101) P0)) H := hP
    have hsp : spn v 134 (vK D v 4 ++ ((((([] : va_W) ++ gL D (v + 2) P0) ++ gL D (v + 35) P0) ++ gL D (v + 68) P0) ++ gL D (v + 101) P0)) := by
      have h9 := hsp.set (k := 1) (a := v + 1) (y := .inl (D.1 104, 4, .inr (.inr (.inr (.inr (fV v 4)))))) (by rw [List.append_assoc]; exact get_k1)
      rw [List.append_assoc, set_k1] at h9
      exact h9
    refine W.sz (fun hz9 => ?_)
    have hsz : H.size = v + 134 := hsp.sz hP (by omega)
    clear hz9
    refine lv_iinc (v := nI 4) (lv' := [(1, .int (nI 4)), (0, .ref v)]) hx hb dX2_init_32 hl (k := 0) rfl (nI_add 3 1) (by decide) rfl (fun ls hl => ?_)
    refine lv_goto (tgt := 14) hx hb dX2_init_35 (by decide) ?_
    refine W.widen (k := 133) (n := 1092) (by omega) (by omega) ?_
    exact ST4 _ _ _ hP hsp hsz hS hl
  have ST2 : ∀ (H : Heap) (locs : List Loc) (ls : Array Slot), va_P D vwCl (vK D v 2 ++ ((([] : va_W) ++ gL D (v + 2) P0) ++ gL D (v + 35) P0)) H → spn v 68 (vK D v 2 ++ ((([] : va_W) ++ gL D (v + 2) P0) ++ gL D (v + 35) P0)) → H.size = v + 68 → va_S (fun x => v ≤ x) s.heap H locs → lv_has ls 2 [(1, .int (nI 2)), (0, .ref v)] → W p l e (headSpec (wA yX2_init cX2_init 2 none) (rmX 3 133 1092)).room s m args below meth c H locs (67) (548) (MQ below (gQv (fun x => v ≤ x) (fun H => H.size = v + 134 ∧ va_P D vwCl (vL D v (fun i => i) (fun _ => P0) 0) H)) args s 133 1092 (fun x => v ≤ x)) (F0 m 14 ls []) := by
    intro H locs ls hP hsp hsz hS hl
    refine lv_iload_n hx hb dX2_init_14 rfl (lv_at hl 0 rfl) ?_
    refine lv_iconst (v := 4) hx hb dX2_init_15 (by decide) ?_
    refine lv_icmp_ge (tgt := 38) hx hb dX2_init_16 (by decide) (fun c9 => absurd c9 (by decide)) (fun c9 => ?_)
    clear c9
    refine lv_aload_n hx hb dX2_init_19 rfl (lv_at hl 1 rfl) ?_
    refine va_get (ci := 2) (C := RX2) (T := TX2) (N := 2) hx hb hts awsX20 hown hK hP 0 rfl rfl 0 (by decide) (hts _ qF_X2_11) (fun _ h => h) rfl dX2_init_20 ?_
    refine lv_iload_n hx hb dX2_init_23 rfl (lv_at hl 0 rfl) ?_
    refine gnew (ci := 0) (C := RX0) (T := TX0) (N := 11) (fs := [.null, .int 0, .null, .int 0, .null, .int 0, .int 0, .int 0, .int 0, .int 0, .int 0]) hx hb hts awsX00 tyX0_ok hown qL_X2_9 qN_X0 qK_X0 hK hP hS hsz rfl (fun j hj => by rcases (show j = 0 ∨ j = 1 ∨ j = 2 ∨ j = 3 ∨ j = 4 ∨ j = 5 ∨ j = 6 ∨ j = 7 ∨ j = 8 ∨ j = 9 ∨ j = 10 by omega) with rfl | rfl | rfl | rfl | rfl | rfl | rfl | rfl | rfl | rfl | rfl <;> rfl) (Nat.le_of_ble_eq_true rfl) (Nat.le_of_ble_eq_true rfl) dX2_init_24 (fun H hP hsz _ hS => ?_)
    refine lv_dup hx hb dX2_init_27 rfl ?_
    refine gcIv (As := []) (rest := [.ref (v + 68), .int (nI 2), .ref (v + 1)]) hx hb hml hown hts hl.1 (c_X0_init l D (v + 68)) qC_X0_init qK_X0 qM_X2_17 qI_X0_init rfl hdv_X0_init.2 ⟨(Nat.le_of_ble_eq_true rfl), (Nat.le_of_ble_eq_true rfl)⟩ (kPre_S hK hKa ⟨hsz, va_P_r hP⟩) rfl (Nat.le_of_ble_eq_true rfl) ⟨(Nat.le_of_ble_eq_true rfl), (Nat.le_of_ble_eq_true rfl)⟩ dX2_init_28 hS (fun q h => by omega) (fun H locs hN _ hq hS => ?_)
    have hP : va_P D vwCl ((vK D v 2 ++ ((([] : va_W) ++ gL D (v + 2) P0) ++ gL D (v + 35) P0)) ++ gL D (v + 68) P0) H := ctor_join hsp hP rfl hN.2 hq
    have hsp : spn v 101 ((vK D v 2 ++ ((([] : va_W) ++ gL D (v + 2) P0) ++ gL D (v + 35) P0)) ++ gL D (v + 68) P0) := hsp.app (n := 68) (m := 33) gL_spn
    refine va_astq hx hb hK hP (hsp.D (fun q h _ => hA q h)) hS 1 4 (vK D v 2 ++ ((([] : va_W) ++ gL D (v + 2) P0) ++ gL D (v + 35) P0)).length 0 (by rw [List.append_assoc]; exact get_k1) rfl gL_mid rfl (vp_in_nI (by decide) (by decide)) dX2_init_31 (fun H locs hP _ hS => ?_)
    rw [nI_clamp (by omega)] at hP
    have e9 : va_up (fV v 2) 2 (some (v + 68)) = fV v 3 := fV_up
    rw [e9] at hP
    clear e9
    rw [List.append_assoc, set_k1] at hP
    have hP : va_P D vwCl (vK D v 3 ++ (((([] : va_W) ++ gL D (v + 2) P0) ++ gL D (v + 35) P0) ++ gL D (v + 68) P0)) H := hP
    have hsp : spn v 101 (vK D v 3 ++ (((([] : va_W) ++ gL D (v + 2) P0) ++ gL D (v + 35) P0) ++ gL D (v + 68) P0)) := by
      have h9 := hsp.set (k := 1) (a := v + 1) (y := .inl (D.1 104, 4, .inr (.inr (.inr (.inr (fV v 3)))))) (by rw [List.append_assoc]; exact get_k1)
      rw [List.append_assoc, set_k1] at h9
      exact h9
    refine W.sz (fun hz9 => ?_)
    have hsz : H.size = v + 101 := hsp.sz hP (by omega)
    clear hz9
    refine lv_iinc (v := nI 3) (lv' := [(1, .int (nI 3)), (0, .ref v)]) hx hb dX2_init_32 hl (k := 0) rfl (nI_add 2 1) (by decide) rfl (fun ls hl => ?_)
    refine lv_goto (tgt := 14) hx hb dX2_init_35 (by decide) ?_
    refine W.widen (k := 100) (n := 820) (by omega) (by omega) ?_
    exact ST3 _ _ _ hP hsp hsz hS hl
  have ST1 : ∀ (H : Heap) (locs : List Loc) (ls : Array Slot), va_P D vwCl (vK D v 1 ++ (([] : va_W) ++ gL D (v + 2) P0)) H → spn v 35 (vK D v 1 ++ (([] : va_W) ++ gL D (v + 2) P0)) → H.size = v + 35 → va_S (fun x => v ≤ x) s.heap H locs → lv_has ls 2 [(1, .int (nI 1)), (0, .ref v)] → W p l e (headSpec (wA yX2_init cX2_init 2 none) (rmX 3 133 1092)).room s m args below meth c H locs (34) (276) (MQ below (gQv (fun x => v ≤ x) (fun H => H.size = v + 134 ∧ va_P D vwCl (vL D v (fun i => i) (fun _ => P0) 0) H)) args s 133 1092 (fun x => v ≤ x)) (F0 m 14 ls []) := by
    intro H locs ls hP hsp hsz hS hl
    refine lv_iload_n hx hb dX2_init_14 rfl (lv_at hl 0 rfl) ?_
    refine lv_iconst (v := 4) hx hb dX2_init_15 (by decide) ?_
    refine lv_icmp_ge (tgt := 38) hx hb dX2_init_16 (by decide) (fun c9 => absurd c9 (by decide)) (fun c9 => ?_)
    clear c9
    refine lv_aload_n hx hb dX2_init_19 rfl (lv_at hl 1 rfl) ?_
    refine va_get (ci := 2) (C := RX2) (T := TX2) (N := 2) hx hb hts awsX20 hown hK hP 0 rfl rfl 0 (by decide) (hts _ qF_X2_11) (fun _ h => h) rfl dX2_init_20 ?_
    refine lv_iload_n hx hb dX2_init_23 rfl (lv_at hl 0 rfl) ?_
    refine gnew (ci := 0) (C := RX0) (T := TX0) (N := 11) (fs := [.null, .int 0, .null, .int 0, .null, .int 0, .int 0, .int 0, .int 0, .int 0, .int 0]) hx hb hts awsX00 tyX0_ok hown qL_X2_9 qN_X0 qK_X0 hK hP hS hsz rfl (fun j hj => by rcases (show j = 0 ∨ j = 1 ∨ j = 2 ∨ j = 3 ∨ j = 4 ∨ j = 5 ∨ j = 6 ∨ j = 7 ∨ j = 8 ∨ j = 9 ∨ j = 10 by omega) with rfl | rfl | rfl | rfl | rfl | rfl | rfl | rfl | rfl | rfl | rfl <;> rfl) (Nat.le_of_ble_eq_true rfl) (Nat.le_of_ble_eq_true rfl) dX2_init_24 (fun H hP hsz _ hS => ?_)
    refine lv_dup hx hb dX2_init_27 rfl ?_
    refine gcIv (As := []) (rest := [.ref (v + 35), .int (nI 1), .ref (v + 1)]) hx hb hml hown hts hl.1 (c_X0_init l D (v + 35)) qC_X0_init qK_X0 qM_X2_17 qI_X0_init rfl hdv_X0_init.2 ⟨(Nat.le_of_ble_eq_true rfl), (Nat.le_of_ble_eq_true rfl)⟩ (kPre_S hK hKa ⟨hsz, va_P_r hP⟩) rfl (Nat.le_of_ble_eq_true rfl) ⟨(Nat.le_of_ble_eq_true rfl), (Nat.le_of_ble_eq_true rfl)⟩ dX2_init_28 hS (fun q h => by omega) (fun H locs hN _ hq hS => ?_)
    have hP : va_P D vwCl ((vK D v 1 ++ (([] : va_W) ++ gL D (v + 2) P0)) ++ gL D (v + 35) P0) H := ctor_join hsp hP rfl hN.2 hq
    have hsp : spn v 68 ((vK D v 1 ++ (([] : va_W) ++ gL D (v + 2) P0)) ++ gL D (v + 35) P0) := hsp.app (n := 35) (m := 33) gL_spn
    refine va_astq hx hb hK hP (hsp.D (fun q h _ => hA q h)) hS 1 4 (vK D v 1 ++ (([] : va_W) ++ gL D (v + 2) P0)).length 0 (by rw [List.append_assoc]; exact get_k1) rfl gL_mid rfl (vp_in_nI (by decide) (by decide)) dX2_init_31 (fun H locs hP _ hS => ?_)
    rw [nI_clamp (by omega)] at hP
    have e9 : va_up (fV v 1) 1 (some (v + 35)) = fV v 2 := fV_up
    rw [e9] at hP
    clear e9
    rw [List.append_assoc, set_k1] at hP
    have hP : va_P D vwCl (vK D v 2 ++ ((([] : va_W) ++ gL D (v + 2) P0) ++ gL D (v + 35) P0)) H := hP
    have hsp : spn v 68 (vK D v 2 ++ ((([] : va_W) ++ gL D (v + 2) P0) ++ gL D (v + 35) P0)) := by
      have h9 := hsp.set (k := 1) (a := v + 1) (y := .inl (D.1 104, 4, .inr (.inr (.inr (.inr (fV v 2)))))) (by rw [List.append_assoc]; exact get_k1)
      rw [List.append_assoc, set_k1] at h9
      exact h9
    refine W.sz (fun hz9 => ?_)
    have hsz : H.size = v + 68 := hsp.sz hP (by omega)
    clear hz9
    refine lv_iinc (v := nI 2) (lv' := [(1, .int (nI 2)), (0, .ref v)]) hx hb dX2_init_32 hl (k := 0) rfl (nI_add 1 1) (by decide) rfl (fun ls hl => ?_)
    refine lv_goto (tgt := 14) hx hb dX2_init_35 (by decide) ?_
    refine W.widen (k := 67) (n := 548) (by omega) (by omega) ?_
    exact ST2 _ _ _ hP hsp hsz hS hl
  have ST0 : ∀ (H : Heap) (locs : List Loc) (ls : Array Slot), va_P D vwCl (vK D v 0 ++ ([] : va_W)) H → spn v 2 (vK D v 0 ++ ([] : va_W)) → H.size = v + 2 → va_S (fun x => v ≤ x) s.heap H locs → lv_has ls 2 [(1, .int (nI 0)), (0, .ref v)] → W p l e (headSpec (wA yX2_init cX2_init 2 none) (rmX 3 133 1092)).room s m args below meth c H locs (1) (4) (MQ below (gQv (fun x => v ≤ x) (fun H => H.size = v + 134 ∧ va_P D vwCl (vL D v (fun i => i) (fun _ => P0) 0) H)) args s 133 1092 (fun x => v ≤ x)) (F0 m 14 ls []) := by
    intro H locs ls hP hsp hsz hS hl
    refine lv_iload_n hx hb dX2_init_14 rfl (lv_at hl 0 rfl) ?_
    refine lv_iconst (v := 4) hx hb dX2_init_15 (by decide) ?_
    refine lv_icmp_ge (tgt := 38) hx hb dX2_init_16 (by decide) (fun c9 => absurd c9 (by decide)) (fun c9 => ?_)
    clear c9
    refine lv_aload_n hx hb dX2_init_19 rfl (lv_at hl 1 rfl) ?_
    refine va_get (ci := 2) (C := RX2) (T := TX2) (N := 2) hx hb hts awsX20 hown hK hP 0 rfl rfl 0 (by decide) (hts _ qF_X2_11) (fun _ h => h) rfl dX2_init_20 ?_
    refine lv_iload_n hx hb dX2_init_23 rfl (lv_at hl 0 rfl) ?_
    refine gnew (ci := 0) (C := RX0) (T := TX0) (N := 11) (fs := [.null, .int 0, .null, .int 0, .null, .int 0, .int 0, .int 0, .int 0, .int 0, .int 0]) hx hb hts awsX00 tyX0_ok hown qL_X2_9 qN_X0 qK_X0 hK hP hS hsz rfl (fun j hj => by rcases (show j = 0 ∨ j = 1 ∨ j = 2 ∨ j = 3 ∨ j = 4 ∨ j = 5 ∨ j = 6 ∨ j = 7 ∨ j = 8 ∨ j = 9 ∨ j = 10 by omega) with rfl | rfl | rfl | rfl | rfl | rfl | rfl | rfl | rfl | rfl | rfl <;> rfl) (Nat.le_of_ble_eq_true rfl) (Nat.le_of_ble_eq_true rfl) dX2_init_24 (fun H hP hsz _ hS => ?_)
    refine lv_dup hx hb dX2_init_27 rfl ?_
    refine gcIv (As := []) (rest := [.ref (v + 2), .int (nI 0), .ref (v + 1)]) hx hb hml hown hts hl.1 (c_X0_init l D (v + 2)) qC_X0_init qK_X0 qM_X2_17 qI_X0_init rfl hdv_X0_init.2 ⟨(Nat.le_of_ble_eq_true rfl), (Nat.le_of_ble_eq_true rfl)⟩ (kPre_S hK hKa ⟨hsz, va_P_r hP⟩) rfl (Nat.le_of_ble_eq_true rfl) ⟨(Nat.le_of_ble_eq_true rfl), (Nat.le_of_ble_eq_true rfl)⟩ dX2_init_28 hS (fun q h => by omega) (fun H locs hN _ hq hS => ?_)
    have hP : va_P D vwCl ((vK D v 0 ++ ([] : va_W)) ++ gL D (v + 2) P0) H := ctor_join hsp hP rfl hN.2 hq
    have hsp : spn v 35 ((vK D v 0 ++ ([] : va_W)) ++ gL D (v + 2) P0) := hsp.app (n := 2) (m := 33) gL_spn
    refine va_astq hx hb hK hP (hsp.D (fun q h _ => hA q h)) hS 1 4 (vK D v 0 ++ ([] : va_W)).length 0 (by rw [List.append_assoc]; exact get_k1) rfl gL_mid rfl (vp_in_nI (by decide) (by decide)) dX2_init_31 (fun H locs hP _ hS => ?_)
    rw [nI_clamp (by omega)] at hP
    have e9 : va_up (fV v 0) 0 (some (v + 2)) = fV v 1 := fV_up
    rw [e9] at hP
    clear e9
    rw [List.append_assoc, set_k1] at hP
    have hP : va_P D vwCl (vK D v 1 ++ (([] : va_W) ++ gL D (v + 2) P0)) H := hP
    have hsp : spn v 35 (vK D v 1 ++ (([] : va_W) ++ gL D (v + 2) P0)) := by
      have h9 := hsp.set (k := 1) (a := v + 1) (y := .inl (D.1 104, 4, .inr (.inr (.inr (.inr (fV v 1)))))) (by rw [List.append_assoc]; exact get_k1)
      rw [List.append_assoc, set_k1] at h9
      exact h9
    refine W.sz (fun hz9 => ?_)
    have hsz : H.size = v + 35 := hsp.sz hP (by omega)
    clear hz9
    refine lv_iinc (v := nI 1) (lv' := [(1, .int (nI 1)), (0, .ref v)]) hx hb dX2_init_32 hl (k := 0) rfl (nI_add 0 1) (by decide) rfl (fun ls hl => ?_)
    refine lv_goto (tgt := 14) hx hb dX2_init_35 (by decide) ?_
    refine W.widen (k := 34) (n := 276) (by omega) (by omega) ?_
    exact ST1 _ _ _ hP hsp hsz hS hl
  have hP : va_P D vwCl [(v, .inr (2, [.null, .int 0]))] s.heap := hG.2
  have hsz : s.heap.size = v + 1 := hG.1
  have hsp : spn v 1 [(v, .inr (2, [.null, .int 0]))] := spn_nil.push rfl
  refine lv_aload_n hx hb dX2_init_0 rfl (lv_at hl 0 rfl) ?_
  refine gobj hx hb hml hown hts hl.1 qM_X2_3 dX2_init_1 ⟨Nat.le_of_ble_eq_true rfl, Nat.le_of_ble_eq_true rfl⟩ (Nat.le_of_ble_eq_true rfl) ?_
  refine lv_aload_n hx hb dX2_init_4 rfl (lv_at hl 0 rfl) ?_
  refine lv_iconst (v := 4) hx hb dX2_init_5 (by decide) ?_
  refine gnewQ (C := RX0) 4 hx hb hts hown qL_X2_9 hKa.1.2.2.2 rfl hK hP hS hsz (by decide) (show _ = 4 from rfl) (by decide) (Nat.le_of_ble_eq_true rfl) (Nat.le_of_ble_eq_true rfl) dX2_init_6 (fun H hP hsz _ hS => ?_)
  have hsp : spn v 2 ([(v, .inr (2, [.null, .int 0])), (v + 1, .inl (D.1 104, 4, .inr (.inr (.inr (.inr (fun _ => none))))))]) := hsp.push rfl
  have hP : va_P D vwCl ([(v, .inr (2, [.null, .int 0])), (v + 1, .inl (D.1 104, 4, .inr (.inr (.inr (.inr (fun _ => none))))))]) H := hP
  have hsz : H.size = v + 2 := hsz
  refine va_putF (ci := 2) (C := RX2) (T := TX2) (N := 2) hx hb hts awsX20 tyX2 tyX2_ok nmX2 hown hK hP (hsp.D (fun q h _ => hA q h)) hS 0 rfl rfl 0 (by decide) (hts _ qF_X2_11) (fun _ h => h) rfl hin rfl (tyX2_ok 0 (by decide)) rfl rfl (by simp) dX2_init_9 (fun H locs hP _ hS => ?_)
  have hsp : spn v 2 ([(v, .inr (2, [.ref (v + 1), .int 0])), (v + 1, .inl (D.1 104, 4, .inr (.inr (.inr (.inr (fun _ => none))))))]) := hsp.set (k := 0) (a := v) (y := .inr (2, [.ref (v + 1), .int 0])) rfl
  have hP : va_P D vwCl ([(v, .inr (2, [.ref (v + 1), .int 0])), (v + 1, .inl (D.1 104, 4, .inr (.inr (.inr (.inr (fun _ => none))))))]) H := hP
  refine W.sz (fun hz9 => ?_)
  have hsz : H.size = v + 2 := hsp.sz hP (by omega)
  clear hz9
  refine lv_iconst (v := 0) hx hb dX2_init_12 (by decide) ?_
  refine lv_istore_n (lv' := [(1, .int (nI 0)), (0, .ref v)]) hx hb dX2_init_13 rfl hl (by decide) rfl (fun ls hl => ?_)
  have hP : va_P D vwCl (vK D v 0 ++ ([] : va_W)) H := hP
  have hsp : spn v 2 (vK D v 0 ++ ([] : va_W)) := hsp
  refine W.widen (k := 1) (n := 4) (by omega) (by omega) ?_
  exact ST0 _ _ _ hP hsp hsz hS hl
