theorem hds_L_addStreet : yL_addStreet.cls ≠ "java/lang/invoke/MethodHandle" ∧ yL_addStreet.cls ≠ "java/lang/invoke/VarHandle" ∧ (parseMethodDescriptor yL_addStreet.desc).map (fun d => d.parameters.length) = some 4 := by decide +kernel
set_option maxHeartbeats 4000000 in
set_option maxRecDepth 100000 in
theorem c_L_addStreet (l : Launch) (hl0 : l.stackTraces = false) (D : va_G) (r w : Nat) (hrw : r + 206 ≤ w) (C : Nat → Int32) (J : Nat → Int32) (G : Nat → Nat → Int32) (n : Nat) (Y : Nat → Int32) (X : Nat → Int32) (U : Nat → Int32) (Z : Nat → Int32) (F : Nat → Int32) (O : Nat → Int64) (len : Int32) (pri : Int32) (hN : okN C) (hn4 : n ≤ 4) : vx_Met l yL_addStreet (wH yL_addStreet cL_addStreet 5 (some .int) [(0, 10, 13, 13), (0, 10, 17, 15)]) (rmX 8 3 18) (xPc D r [.ref r, .int len, .int pri, .ref w] (fun H => Sn D r C J G n Y X U Z F H ∧ Ou D w O H)) (gQi (inH r w) (kq 1 (fE_X6_addStreet C G n len pri)) (fun H => Sn D r (fC_X6_addStreet C G n len pri) J (fG_X6_addStreet C G n len pri) (fn_X6_addStreet C G n len pri) Y X U Z F H ∧ Ou D w (ou O (fE_X6_addStreet C G n len pri) (fR_X6_addStreet C G n len pri).toInt64) H)) (fun _ _ _ => False) 3 18 (inH r w) := by
  refine vx_ofWH (cc := cL_addStreet) (maxL := 5) (ret := (some .int)) (by decide) rfl ?_
  intro p e s m args below meth c s₁ B hml hv
  obtain ⟨hav, ⟨hG, hO⟩, hK, hKx⟩ := hv
  have hx := B.exec
  have hb := B.bytes
  have hr := B.returns
  have hts0 := atoms_spec (ws := wH yL_addStreet cL_addStreet 5 (some .int) [(0, 10, 13, 13), (0, 10, 17, 15)]) B.pre
  have htab := vx_table (x := yL_addStreet) B (hts0 _ List.mem_cons_self)
  have hts : ∀ w ∈ AW, w.before _ s = true := fun w h => hts0 w (List.mem_cons_of_mem _ h)
  have hown : s.vm.findClass RL = some m.cls := findClass_of_methodNamed B.named
  have hlocks := B.notSynchronized
  have hr0 : ∀ q, inH r w q → r ≤ q := fun q h => h.elim (fun h => h.1) (fun h => by omega)
  have hSH : ∀ q, inS r q → inH r w q := fun q h => Or.inl h
  have hA : ∀ q, inH r w q → inH r w q := fun _ h => h
  have hS : va_S (inH r w) s.heap s.heap [] := va_S.rf
  have hG : Sn D r C J G n Y X U Z F s.heap := hG
  have hl := lv_entry ([.ref r, .int len, .int pri, .ref w]) (n := 5) (Nat.le_of_ble_eq_true rfl)
  refine W.eq (g2 := entryFrame m ([.ref r, .int len, .int pri, .ref w] : List Value).toArray 5) (by rw [hav]) ?_
  rw [lg_entry_eq]
  generalize (lg_sl ([.ref r, .int len, .int pri, .ref w]) ++ List.replicate (5 - (lg_sl ([.ref r, .int len, .int pri, .ref w])).length) Slot.unset).toArray = ls at hl ⊢
  have hl : lv_has ls 5 [(0, .ref r), (1, .int len), (2, .int pri), (3, .ref w)] := hl
  refine lv_aload_n hx hb dL_addStreet_0 rfl (lv_at hl 3 rfl) ?_
  refine lv_iconst (v := 0) hx hb dL_addStreet_1 (by decide) ?_
  refine topN (n := 0) rfl ?_
  refine lv_aload_n hx hb dL_addStreet_2 rfl (lv_at hl 0 rfl) ?_
  refine lv_iload_n hx hb dL_addStreet_3 rfl (lv_at hl 1 rfl) ?_
  refine lv_iload_n hx hb dL_addStreet_4 rfl (lv_at hl 2 rfl) ?_
  refine xcVi (As := [.int len, .int pri]) (rest := [.int (nI 0), .ref w]) hx hb hml hown hts hl.1 hK hKx hr0 (c_X6_addStreet l hl0 D r C J G n Y X U Z F len pri hN hn4) (gaV qM_L_7 qI_X6_addStreet qS_X6_addStreet qK_X6 qC_X6_addStreet) hdv_X6_addStreet ⟨(Nat.le_of_ble_eq_true rfl), (Nat.le_of_ble_eq_true rfl)⟩ hG (Sn.recv hK hG) rfl (Nat.le_of_ble_eq_true rfl) ⟨(Nat.le_of_ble_eq_true rfl), (Nat.le_of_ble_eq_true rfl)⟩ dL_addStreet_5 hS hSH (fun ce q9 H locs hcx hG1 hz hq hS hce hv hcl => ?_) (fun H locs hc0 hG1 hz hq hS => ?_)
  · have hO1 : Ou D w O H := Ou.kept hO (hq w hO.lt (fun h => by unfold inS at h; omega))
    have hP9 : Sn D r (fC_X6_addStreet C G n len pri) J (fG_X6_addStreet C G n len pri) (fn_X6_addStreet C G n len pri) Y X U Z F H ∧ Ou D w (ou O (fE_X6_addStreet C G n len pri) (fR_X6_addStreet C G n len pri).toInt64) H := ⟨hG1, by unfold ou; rw [if_neg hcx]; exact hO1⟩
    rcases ec_addStreet.elim (fun h => absurd h hcx) id with hk | hk
    · rw [hk] at hcl
      refine vx_catch (name := exN 1) (E := exN 1) hown [] (⟨0, 10, 13, 13⟩ : ExceptionTableEntry) [(⟨0, 10, 17, 15⟩ : ExceptionTableEntry)] (by rw [htab]; rfl) (fun z hz => absurd hz List.not_mem_nil) (by decide) (by decide) (hts _ qL_L_13) (va_Nw.use rfl (hKx.2.2.2.1 _ (ex_cast 1 (by decide)))) hce hv hcl ?_
      refine lv_astore (lv' := [(4, .ref q9), (0, .ref r), (1, .int len), (2, .int pri), (3, .ref w)]) hx hb dL_addStreet_13 hl (by decide) rfl (fun ls hl => ?_)
      refine lv_iconst (v := 1) hx hb dL_addStreet_15 (by decide) ?_
      refine vx_ret (W.widen (k := 3) (n := 18) (by omega) (by omega) ?_)
      exact W.iret hx hb hr (fun t ht hW => gQi_of (by show _ = kq 1 (fE_X6_addStreet C G n len pri); rw [hk]; rfl) hP9 hS ht) hS.2.2 dL_addStreet_16
    · rw [hk] at hcl
      refine vx_catch (name := exN 2) (E := exN 2) hown [(⟨0, 10, 13, 13⟩ : ExceptionTableEntry)] (⟨0, 10, 17, 15⟩ : ExceptionTableEntry) [] (by rw [htab]; rfl) (fun z hz => Or.inr (by rw [List.mem_singleton] at hz; subst hz; exact ⟨by decide, exN 1, hts _ qL_L_13, hKx.2.2.2.2 2 1 (by decide) (by decide) (by decide) (by decide) (by decide)⟩)) (by decide) (by decide) (hts _ qL_L_15) (va_Nw.use rfl (hKx.2.2.2.1 _ (ex_cast 2 (by decide)))) hce hv hcl ?_
      refine lv_astore (lv' := [(4, .ref q9), (0, .ref r), (1, .int len), (2, .int pri), (3, .ref w)]) hx hb dL_addStreet_17 hl (by decide) rfl (fun ls hl => ?_)
      refine lv_iconst (v := 2) hx hb dL_addStreet_19 (by decide) ?_
      refine vx_ret (W.widen (k := 3) (n := 18) (by omega) (by omega) ?_)
      exact W.iret hx hb hr (fun t ht hW => gQi_of (by show _ = kq 1 (fE_X6_addStreet C G n len pri); rw [hk]; rfl) hP9 hS ht) hS.2.2 dL_addStreet_20
  · have hO1 : Ou D w O H := Ou.kept hO (hq w hO.lt (fun h => by unfold inS at h; omega))
    refine lv_i2l (v := (fR_X6_addStreet C G n len pri).toInt64) hx hb dL_addStreet_8 rfl ?_
    refine qlast hx hb hK hG1 hO1 hrw hS hA dL_addStreet_9 (fun H locs hG1 hO1 hS => ?_)
    refine lv_goto (tgt := 21) hx hb dL_addStreet_10 (by decide) ?_
    refine lv_iconst (v := 0) hx hb dL_addStreet_21 (by decide) ?_
    have hP9 : Sn D r (fC_X6_addStreet C G n len pri) J (fG_X6_addStreet C G n len pri) (fn_X6_addStreet C G n len pri) Y X U Z F H ∧ Ou D w (ou O (fE_X6_addStreet C G n len pri) (fR_X6_addStreet C G n len pri).toInt64) H := ⟨hG1, by unfold ou; rw [if_pos hc0]; exact hO1⟩
    refine vx_ret (W.widen (k := 3) (n := 18) (by omega) (by omega) ?_)
    exact W.iret hx hb hr (fun t ht hW => gQi_of (by show _ = kq 1 (fE_X6_addStreet C G n len pri); rw [hc0]; rfl) hP9 hS ht) hS.2.2 dL_addStreet_22
theorem hds_L_addPlow : yL_addPlow.cls ≠ "java/lang/invoke/MethodHandle" ∧ yL_addPlow.cls ≠ "java/lang/invoke/VarHandle" ∧ (parseMethodDescriptor yL_addPlow.desc).map (fun d => d.parameters.length) = some 4 := by decide +kernel
set_option maxHeartbeats 4000000 in
set_option maxRecDepth 100000 in
theorem c_L_addPlow (l : Launch) (hl0 : l.stackTraces = false) (D : va_G) (r w : Nat) (hrw : r + 206 ≤ w) (C : Nat → Int32) (J : Nat → Int32) (G : Nat → Nat → Int32) (n : Nat) (Y : Nat → Int32) (X : Nat → Int32) (U : Nat → Int32) (Z : Nat → Int32) (F : Nat → Int32) (O : Nat → Int64) (spd : Int32) (cap : Int32) (hN : okN C) (hn4 : n ≤ 4) : vx_Met l yL_addPlow (wH yL_addPlow cL_addPlow 5 (some .int) [(0, 10, 13, 13), (0, 10, 17, 15)]) (rmX 8 3 18) (xPc D r [.ref r, .int spd, .int cap, .ref w] (fun H => Sn D r C J G n Y X U Z F H ∧ Ou D w O H)) (gQi (inH r w) (kq 1 (fE_X6_addPlow C G n spd cap)) (fun H => Sn D r (fC_X6_addPlow C G n spd cap) J (fG_X6_addPlow C G n spd cap) (fn_X6_addPlow C G n spd cap) Y X U Z F H ∧ Ou D w (ou O (fE_X6_addPlow C G n spd cap) (fR_X6_addPlow C G n spd cap).toInt64) H)) (fun _ _ _ => False) 3 18 (inH r w) := by
  refine vx_ofWH (cc := cL_addPlow) (maxL := 5) (ret := (some .int)) (by decide) rfl ?_
  intro p e s m args below meth c s₁ B hml hv
  obtain ⟨hav, ⟨hG, hO⟩, hK, hKx⟩ := hv
  have hx := B.exec
  have hb := B.bytes
  have hr := B.returns
  have hts0 := atoms_spec (ws := wH yL_addPlow cL_addPlow 5 (some .int) [(0, 10, 13, 13), (0, 10, 17, 15)]) B.pre
  have htab := vx_table (x := yL_addPlow) B (hts0 _ List.mem_cons_self)
  have hts : ∀ w ∈ AW, w.before _ s = true := fun w h => hts0 w (List.mem_cons_of_mem _ h)
  have hown : s.vm.findClass RL = some m.cls := findClass_of_methodNamed B.named
  have hlocks := B.notSynchronized
  have hr0 : ∀ q, inH r w q → r ≤ q := fun q h => h.elim (fun h => h.1) (fun h => by omega)
  have hSH : ∀ q, inS r q → inH r w q := fun q h => Or.inl h
  have hA : ∀ q, inH r w q → inH r w q := fun _ h => h
  have hS : va_S (inH r w) s.heap s.heap [] := va_S.rf
  have hG : Sn D r C J G n Y X U Z F s.heap := hG
  have hl := lv_entry ([.ref r, .int spd, .int cap, .ref w]) (n := 5) (Nat.le_of_ble_eq_true rfl)
  refine W.eq (g2 := entryFrame m ([.ref r, .int spd, .int cap, .ref w] : List Value).toArray 5) (by rw [hav]) ?_
  rw [lg_entry_eq]
  generalize (lg_sl ([.ref r, .int spd, .int cap, .ref w]) ++ List.replicate (5 - (lg_sl ([.ref r, .int spd, .int cap, .ref w])).length) Slot.unset).toArray = ls at hl ⊢
  have hl : lv_has ls 5 [(0, .ref r), (1, .int spd), (2, .int cap), (3, .ref w)] := hl
  refine lv_aload_n hx hb dL_addPlow_0 rfl (lv_at hl 3 rfl) ?_
  refine lv_iconst (v := 0) hx hb dL_addPlow_1 (by decide) ?_
  refine topN (n := 0) rfl ?_
  refine lv_aload_n hx hb dL_addPlow_2 rfl (lv_at hl 0 rfl) ?_
  refine lv_iload_n hx hb dL_addPlow_3 rfl (lv_at hl 1 rfl) ?_
  refine lv_iload_n hx hb dL_addPlow_4 rfl (lv_at hl 2 rfl) ?_
  refine xcVi (As := [.int spd, .int cap]) (rest := [.int (nI 0), .ref w]) hx hb hml hown hts hl.1 hK hKx hr0 (c_X6_addPlow l hl0 D r C J G n Y X U Z F spd cap hN hn4) (gaV qM_L_17 qI_X6_addPlow qS_X6_addPlow qK_X6 qC_X6_addPlow) hdv_X6_addPlow ⟨(Nat.le_of_ble_eq_true rfl), (Nat.le_of_ble_eq_true rfl)⟩ hG (Sn.recv hK hG) rfl (Nat.le_of_ble_eq_true rfl) ⟨(Nat.le_of_ble_eq_true rfl), (Nat.le_of_ble_eq_true rfl)⟩ dL_addPlow_5 hS hSH (fun ce q9 H locs hcx hG1 hz hq hS hce hv hcl => ?_) (fun H locs hc0 hG1 hz hq hS => ?_)
  · have hO1 : Ou D w O H := Ou.kept hO (hq w hO.lt (fun h => by unfold inS at h; omega))
    have hP9 : Sn D r (fC_X6_addPlow C G n spd cap) J (fG_X6_addPlow C G n spd cap) (fn_X6_addPlow C G n spd cap) Y X U Z F H ∧ Ou D w (ou O (fE_X6_addPlow C G n spd cap) (fR_X6_addPlow C G n spd cap).toInt64) H := ⟨hG1, by unfold ou; rw [if_neg hcx]; exact hO1⟩
    rcases ec_addPlow.elim (fun h => absurd h hcx) id with hk | hk
    · rw [hk] at hcl
      refine vx_catch (name := exN 1) (E := exN 1) hown [] (⟨0, 10, 13, 13⟩ : ExceptionTableEntry) [(⟨0, 10, 17, 15⟩ : ExceptionTableEntry)] (by rw [htab]; rfl) (fun z hz => absurd hz List.not_mem_nil) (by decide) (by decide) (hts _ qL_L_13) (va_Nw.use rfl (hKx.2.2.2.1 _ (ex_cast 1 (by decide)))) hce hv hcl ?_
      refine lv_astore (lv' := [(4, .ref q9), (0, .ref r), (1, .int spd), (2, .int cap), (3, .ref w)]) hx hb dL_addPlow_13 hl (by decide) rfl (fun ls hl => ?_)
      refine lv_iconst (v := 1) hx hb dL_addPlow_15 (by decide) ?_
      refine vx_ret (W.widen (k := 3) (n := 18) (by omega) (by omega) ?_)
      exact W.iret hx hb hr (fun t ht hW => gQi_of (by show _ = kq 1 (fE_X6_addPlow C G n spd cap); rw [hk]; rfl) hP9 hS ht) hS.2.2 dL_addPlow_16
    · rw [hk] at hcl
      refine vx_catch (name := exN 2) (E := exN 2) hown [(⟨0, 10, 13, 13⟩ : ExceptionTableEntry)] (⟨0, 10, 17, 15⟩ : ExceptionTableEntry) [] (by rw [htab]; rfl) (fun z hz => Or.inr (by rw [List.mem_singleton] at hz; subst hz; exact ⟨by decide, exN 1, hts _ qL_L_13, hKx.2.2.2.2 2 1 (by decide) (by decide) (by decide) (by decide) (by decide)⟩)) (by decide) (by decide) (hts _ qL_L_15) (va_Nw.use rfl (hKx.2.2.2.1 _ (ex_cast 2 (by decide)))) hce hv hcl ?_
      refine lv_astore (lv' := [(4, .ref q9), (0, .ref r), (1, .int spd), (2, .int cap), (3, .ref w)]) hx hb dL_addPlow_17 hl (by decide) rfl (fun ls hl => ?_)
      refine lv_iconst (v := 2) hx hb dL_addPlow_19 (by decide) ?_
      refine vx_ret (W.widen (k := 3) (n := 18) (by omega) (by omega) ?_)
      exact W.iret hx hb hr (fun t ht hW => gQi_of (by show _ = kq 1 (fE_X6_addPlow C G n spd cap); rw [hk]; rfl) hP9 hS ht) hS.2.2 dL_addPlow_20
  · have hO1 : Ou D w O H := Ou.kept hO (hq w hO.lt (fun h => by unfold inS at h; omega))
    refine lv_i2l (v := (fR_X6_addPlow C G n spd cap).toInt64) hx hb dL_addPlow_8 rfl ?_
    refine qlast hx hb hK hG1 hO1 hrw hS hA dL_addPlow_9 (fun H locs hG1 hO1 hS => ?_)
    refine lv_goto (tgt := 21) hx hb dL_addPlow_10 (by decide) ?_
    refine lv_iconst (v := 0) hx hb dL_addPlow_21 (by decide) ?_
    have hP9 : Sn D r (fC_X6_addPlow C G n spd cap) J (fG_X6_addPlow C G n spd cap) (fn_X6_addPlow C G n spd cap) Y X U Z F H ∧ Ou D w (ou O (fE_X6_addPlow C G n spd cap) (fR_X6_addPlow C G n spd cap).toInt64) H := ⟨hG1, by unfold ou; rw [if_pos hc0]; exact hO1⟩
    refine vx_ret (W.widen (k := 3) (n := 18) (by omega) (by omega) ?_)
    exact W.iret hx hb hr (fun t ht hW => gQi_of (by show _ = kq 1 (fE_X6_addPlow C G n spd cap); rw [hc0]; rfl) hP9 hS ht) hS.2.2 dL_addPlow_22
theorem hds_L_addStop : yL_addStop.cls ≠ "java/lang/invoke/MethodHandle" ∧ yL_addStop.cls ≠ "java/lang/invoke/VarHandle" ∧ (parseMethodDescriptor yL_addStop.desc).map (fun d => d.parameters.length) = some 4 := by decide +kernel
set_option maxHeartbeats 4000000 in
set_option maxRecDepth 100000 in
theorem c_L_addStop (l : Launch) (hl0 : l.stackTraces = false) (D : va_G) (r w : Nat) (hrw : r + 206 ≤ w) (C : Nat → Int32) (J : Nat → Int32) (G : Nat → Nat → Int32) (n : Nat) (Y : Nat → Int32) (X : Nat → Int32) (U : Nat → Int32) (Z : Nat → Int32) (F : Nat → Int32) (O : Nat → Int64) (pl : Int32) (str : Int32) (hN : okN C) (hn4 : n ≤ 4) (hQ : ∀ q, q < np C → okQ C q) : vx_Met l yL_addStop (wH yL_addStop cL_addStop 5 (some .int) [(0, 10, 13, 23), (0, 10, 17, 15)]) (rmX 9 3 18) (xPc D r [.ref r, .int pl, .int str, .ref w] (fun H => Sn D r C J G n Y X U Z F H ∧ Ou D w O H)) (gQi (inH r w) (kq 3 (fE_X6_addStop C G n pl str)) (fun H => Sn D r (fC_X6_addStop C G n pl str) J (fG_X6_addStop C G n pl str) (fn_X6_addStop C G n pl str) Y X U Z F H ∧ Ou D w (ou O (fE_X6_addStop C G n pl str) (fR_X6_addStop C G n pl str).toInt64) H)) (fun _ _ _ => False) 3 18 (inH r w) := by
  refine vx_ofWH (cc := cL_addStop) (maxL := 5) (ret := (some .int)) (by decide) rfl ?_
  intro p e s m args below meth c s₁ B hml hv
  obtain ⟨hav, ⟨hG, hO⟩, hK, hKx⟩ := hv
  have hx := B.exec
  have hb := B.bytes
  have hr := B.returns
  have hts0 := atoms_spec (ws := wH yL_addStop cL_addStop 5 (some .int) [(0, 10, 13, 23), (0, 10, 17, 15)]) B.pre
  have htab := vx_table (x := yL_addStop) B (hts0 _ List.mem_cons_self)
  have hts : ∀ w ∈ AW, w.before _ s = true := fun w h => hts0 w (List.mem_cons_of_mem _ h)
  have hown : s.vm.findClass RL = some m.cls := findClass_of_methodNamed B.named
  have hlocks := B.notSynchronized
  have hr0 : ∀ q, inH r w q → r ≤ q := fun q h => h.elim (fun h => h.1) (fun h => by omega)
  have hSH : ∀ q, inS r q → inH r w q := fun q h => Or.inl h
  have hA : ∀ q, inH r w q → inH r w q := fun _ h => h
  have hS : va_S (inH r w) s.heap s.heap [] := va_S.rf
  have hG : Sn D r C J G n Y X U Z F s.heap := hG
  have hl := lv_entry ([.ref r, .int pl, .int str, .ref w]) (n := 5) (Nat.le_of_ble_eq_true rfl)
  refine W.eq (g2 := entryFrame m ([.ref r, .int pl, .int str, .ref w] : List Value).toArray 5) (by rw [hav]) ?_
  rw [lg_entry_eq]
  generalize (lg_sl ([.ref r, .int pl, .int str, .ref w]) ++ List.replicate (5 - (lg_sl ([.ref r, .int pl, .int str, .ref w])).length) Slot.unset).toArray = ls at hl ⊢
  have hl : lv_has ls 5 [(0, .ref r), (1, .int pl), (2, .int str), (3, .ref w)] := hl
  refine lv_aload_n hx hb dL_addStop_0 rfl (lv_at hl 3 rfl) ?_
  refine lv_iconst (v := 0) hx hb dL_addStop_1 (by decide) ?_
  refine topN (n := 0) rfl ?_
  refine lv_aload_n hx hb dL_addStop_2 rfl (lv_at hl 0 rfl) ?_
  refine lv_iload_n hx hb dL_addStop_3 rfl (lv_at hl 1 rfl) ?_
  refine lv_iload_n hx hb dL_addStop_4 rfl (lv_at hl 2 rfl) ?_
  refine xcVi (As := [.int pl, .int str]) (rest := [.int (nI 0), .ref w]) hx hb hml hown hts hl.1 hK hKx hr0 (c_X6_addStop l hl0 D r C J G n Y X U Z F pl str hN hn4 hQ) (gaV qM_L_20 qI_X6_addStop qS_X6_addStop qK_X6 qC_X6_addStop) hdv_X6_addStop ⟨(Nat.le_of_ble_eq_true rfl), (Nat.le_of_ble_eq_true rfl)⟩ hG (Sn.recv hK hG) rfl (Nat.le_of_ble_eq_true rfl) ⟨(Nat.le_of_ble_eq_true rfl), (Nat.le_of_ble_eq_true rfl)⟩ dL_addStop_5 hS hSH (fun ce q9 H locs hcx hG1 hz hq hS hce hv hcl => ?_) (fun H locs hc0 hG1 hz hq hS => ?_)
  · have hO1 : Ou D w O H := Ou.kept hO (hq w hO.lt (fun h => by unfold inS at h; omega))
    have hP9 : Sn D r (fC_X6_addStop C G n pl str) J (fG_X6_addStop C G n pl str) (fn_X6_addStop C G n pl str) Y X U Z F H ∧ Ou D w (ou O (fE_X6_addStop C G n pl str) (fR_X6_addStop C G n pl str).toInt64) H := ⟨hG1, by unfold ou; rw [if_neg hcx]; exact hO1⟩
    rcases ec_addStop.elim (fun h => absurd h hcx) id with hk | hk
    · rw [hk] at hcl
      refine vx_catch (name := exN 3) (E := exN 3) hown [] (⟨0, 10, 13, 23⟩ : ExceptionTableEntry) [(⟨0, 10, 17, 15⟩ : ExceptionTableEntry)] (by rw [htab]; rfl) (fun z hz => absurd hz List.not_mem_nil) (by decide) (by decide) (hts _ qL_L_23) (va_Nw.use rfl (hKx.2.2.2.1 _ (ex_cast 3 (by decide)))) hce hv hcl ?_
      refine lv_astore (lv' := [(4, .ref q9), (0, .ref r), (1, .int pl), (2, .int str), (3, .ref w)]) hx hb dL_addStop_13 hl (by decide) rfl (fun ls hl => ?_)
      refine lv_iconst (v := 1) hx hb dL_addStop_15 (by decide) ?_
      refine vx_ret (W.widen (k := 3) (n := 18) (by omega) (by omega) ?_)
      exact W.iret hx hb hr (fun t ht hW => gQi_of (by show _ = kq 3 (fE_X6_addStop C G n pl str); rw [hk]; rfl) hP9 hS ht) hS.2.2 dL_addStop_16
    · rw [hk] at hcl
      refine vx_catch (name := exN 2) (E := exN 2) hown [(⟨0, 10, 13, 23⟩ : ExceptionTableEntry)] (⟨0, 10, 17, 15⟩ : ExceptionTableEntry) [] (by rw [htab]; rfl) (fun z hz => Or.inr (by rw [List.mem_singleton] at hz; subst hz; exact ⟨by decide, exN 3, hts _ qL_L_23, hKx.2.2.2.2 2 3 (by decide) (by decide) (by decide) (by decide) (by decide)⟩)) (by decide) (by decide) (hts _ qL_L_15) (va_Nw.use rfl (hKx.2.2.2.1 _ (ex_cast 2 (by decide)))) hce hv hcl ?_
      refine lv_astore (lv' := [(4, .ref q9), (0, .ref r), (1, .int pl), (2, .int str), (3, .ref w)]) hx hb dL_addStop_17 hl (by decide) rfl (fun ls hl => ?_)
      refine lv_iconst (v := 2) hx hb dL_addStop_19 (by decide) ?_
      refine vx_ret (W.widen (k := 3) (n := 18) (by omega) (by omega) ?_)
      exact W.iret hx hb hr (fun t ht hW => gQi_of (by show _ = kq 3 (fE_X6_addStop C G n pl str); rw [hk]; rfl) hP9 hS ht) hS.2.2 dL_addStop_20
  · have hO1 : Ou D w O H := Ou.kept hO (hq w hO.lt (fun h => by unfold inS at h; omega))
    refine lv_i2l (v := (fR_X6_addStop C G n pl str).toInt64) hx hb dL_addStop_8 rfl ?_
    refine qlast hx hb hK hG1 hO1 hrw hS hA dL_addStop_9 (fun H locs hG1 hO1 hS => ?_)
    refine lv_goto (tgt := 21) hx hb dL_addStop_10 (by decide) ?_
    refine lv_iconst (v := 0) hx hb dL_addStop_21 (by decide) ?_
    have hP9 : Sn D r (fC_X6_addStop C G n pl str) J (fG_X6_addStop C G n pl str) (fn_X6_addStop C G n pl str) Y X U Z F H ∧ Ou D w (ou O (fE_X6_addStop C G n pl str) (fR_X6_addStop C G n pl str).toInt64) H := ⟨hG1, by unfold ou; rw [if_pos hc0]; exact hO1⟩
    refine vx_ret (W.widen (k := 3) (n := 18) (by omega) (by omega) ?_)
    exact W.iret hx hb hr (fun t ht hW => gQi_of (by show _ = kq 3 (fE_X6_addStop C G n pl str); rw [hc0]; rfl) hP9 hS ht) hS.2.2 dL_addStop_22
theorem hds_L_clearRoute : yL_clearRoute.cls ≠ "java/lang/invoke/MethodHandle" ∧ yL_clearRoute.cls ≠ "java/lang/invoke/VarHandle" ∧ (parseMethodDescriptor yL_clearRoute.desc).map (fun d => d.parameters.length) = some 3 := by decide +kernel
set_option maxHeartbeats 4000000 in
set_option maxRecDepth 100000 in
theorem c_L_clearRoute (l : Launch) (hl0 : l.stackTraces = false) (D : va_G) (r w : Nat) (hrw : r + 206 ≤ w) (C : Nat → Int32) (J : Nat → Int32) (G : Nat → Nat → Int32) (n : Nat) (Y : Nat → Int32) (X : Nat → Int32) (U : Nat → Int32) (Z : Nat → Int32) (F : Nat → Int32) (O : Nat → Int64) (pl : Int32) (hN : okN C) (hn4 : n ≤ 4) : vx_Met l yL_clearRoute (wH yL_clearRoute cL_clearRoute 4 (some .int) [(0, 9, 12, 23)]) (rmX 9 1 6) (xPc D r [.ref r, .int pl, .ref w] (fun H => Sn D r C J G n Y X U Z F H ∧ Ou D w O H)) (gQi (inH r w) (kq 3 (fE_X6_clearRoute C G n pl)) (fun H => Sn D r (fC_X6_clearRoute C G n pl) J (fG_X6_clearRoute C G n pl) (fn_X6_clearRoute C G n pl) Y X U Z F H ∧ Ou D w (ou O (fE_X6_clearRoute C G n pl) (fR_X6_clearRoute C G n pl).toInt64) H)) (fun _ _ _ => False) 1 6 (inH r w) := by
  refine vx_ofWH (cc := cL_clearRoute) (maxL := 4) (ret := (some .int)) (by decide) rfl ?_
  intro p e s m args below meth c s₁ B hml hv
  obtain ⟨hav, ⟨hG, hO⟩, hK, hKx⟩ := hv
  have hx := B.exec
  have hb := B.bytes
  have hr := B.returns
  have hts0 := atoms_spec (ws := wH yL_clearRoute cL_clearRoute 4 (some .int) [(0, 9, 12, 23)]) B.pre
  have htab := vx_table (x := yL_clearRoute) B (hts0 _ List.mem_cons_self)
  have hts : ∀ w ∈ AW, w.before _ s = true := fun w h => hts0 w (List.mem_cons_of_mem _ h)
  have hown : s.vm.findClass RL = some m.cls := findClass_of_methodNamed B.named
  have hlocks := B.notSynchronized
  have hr0 : ∀ q, inH r w q → r ≤ q := fun q h => h.elim (fun h => h.1) (fun h => by omega)
  have hSH : ∀ q, inS r q → inH r w q := fun q h => Or.inl h
  have hA : ∀ q, inH r w q → inH r w q := fun _ h => h
  have hS : va_S (inH r w) s.heap s.heap [] := va_S.rf
  have hG : Sn D r C J G n Y X U Z F s.heap := hG
  have hl := lv_entry ([.ref r, .int pl, .ref w]) (n := 4) (Nat.le_of_ble_eq_true rfl)
  refine W.eq (g2 := entryFrame m ([.ref r, .int pl, .ref w] : List Value).toArray 4) (by rw [hav]) ?_
  rw [lg_entry_eq]
  generalize (lg_sl ([.ref r, .int pl, .ref w]) ++ List.replicate (4 - (lg_sl ([.ref r, .int pl, .ref w])).length) Slot.unset).toArray = ls at hl ⊢
  have hl : lv_has ls 4 [(0, .ref r), (1, .int pl), (2, .ref w)] := hl
  refine lv_aload_n hx hb dL_clearRoute_0 rfl (lv_at hl 2 rfl) ?_
  refine lv_iconst (v := 0) hx hb dL_clearRoute_1 (by decide) ?_
  refine topN (n := 0) rfl ?_
  refine lv_aload_n hx hb dL_clearRoute_2 rfl (lv_at hl 0 rfl) ?_
  refine lv_iload_n hx hb dL_clearRoute_3 rfl (lv_at hl 1 rfl) ?_
  refine xcVi (As := [.int pl]) (rest := [.int (nI 0), .ref w]) hx hb hml hown hts hl.1 hK hKx hr0 (c_X6_clearRoute l hl0 D r C J G n Y X U Z F pl hN hn4) (gaV qM_L_25 qI_X6_clearRoute qS_X6_clearRoute qK_X6 qC_X6_clearRoute) hdv_X6_clearRoute ⟨(Nat.le_of_ble_eq_true rfl), (Nat.le_of_ble_eq_true rfl)⟩ hG (Sn.recv hK hG) rfl (Nat.le_of_ble_eq_true rfl) ⟨(Nat.le_of_ble_eq_true rfl), (Nat.le_of_ble_eq_true rfl)⟩ dL_clearRoute_4 hS hSH (fun ce q9 H locs hcx hG1 hz hq hS hce hv hcl => ?_) (fun H locs hc0 hG1 hz hq hS => ?_)
  · have hO1 : Ou D w O H := Ou.kept hO (hq w hO.lt (fun h => by unfold inS at h; omega))
    have hP9 : Sn D r (fC_X6_clearRoute C G n pl) J (fG_X6_clearRoute C G n pl) (fn_X6_clearRoute C G n pl) Y X U Z F H ∧ Ou D w (ou O (fE_X6_clearRoute C G n pl) (fR_X6_clearRoute C G n pl).toInt64) H := ⟨hG1, by unfold ou; rw [if_neg hcx]; exact hO1⟩
    have hk : fE_X6_clearRoute C G n pl = 3 := ec_clearRoute.elim (fun h => absurd h hcx) (fun h => h.elim id id)
    rw [hk] at hcl
    refine vx_catch (name := exN 3) (E := exN 3) hown [] (⟨0, 9, 12, 23⟩ : ExceptionTableEntry) [] (by rw [htab]; rfl) (fun z hz => absurd hz List.not_mem_nil) (by decide) (by decide) (hts _ qL_L_23) (va_Nw.use rfl (hKx.2.2.2.1 _ (ex_cast 3 (by decide)))) hce hv hcl ?_
    refine lv_astore_n (lv' := [(3, .ref q9), (0, .ref r), (1, .int pl), (2, .ref w)]) hx hb dL_clearRoute_12 rfl hl (by decide) rfl (fun ls hl => ?_)
    refine lv_iconst (v := 1) hx hb dL_clearRoute_13 (by decide) ?_
    refine vx_ret (W.widen (k := 1) (n := 6) (by omega) (by omega) ?_)
    exact W.iret hx hb hr (fun t ht hW => gQi_of (by show _ = kq 3 (fE_X6_clearRoute C G n pl); rw [hk]; rfl) hP9 hS ht) hS.2.2 dL_clearRoute_14
  · have hO1 : Ou D w O H := Ou.kept hO (hq w hO.lt (fun h => by unfold inS at h; omega))
    refine lv_i2l (v := (fR_X6_clearRoute C G n pl).toInt64) hx hb dL_clearRoute_7 rfl ?_
    refine qlast hx hb hK hG1 hO1 hrw hS hA dL_clearRoute_8 (fun H locs hG1 hO1 hS => ?_)
    refine lv_goto (tgt := 15) hx hb dL_clearRoute_9 (by decide) ?_
    refine lv_iconst (v := 0) hx hb dL_clearRoute_15 (by decide) ?_
    have hP9 : Sn D r (fC_X6_clearRoute C G n pl) J (fG_X6_clearRoute C G n pl) (fn_X6_clearRoute C G n pl) Y X U Z F H ∧ Ou D w (ou O (fE_X6_clearRoute C G n pl) (fR_X6_clearRoute C G n pl).toInt64) H := ⟨hG1, by unfold ou; rw [if_pos hc0]; exact hO1⟩
    refine vx_ret (W.widen (k := 1) (n := 6) (by omega) (by omega) ?_)
    exact W.iret hx hb hr (fun t ht hW => gQi_of (by show _ = kq 3 (fE_X6_clearRoute C G n pl); rw [hc0]; rfl) hP9 hS ht) hS.2.2 dL_clearRoute_16
theorem hds_L_exchange : yL_exchange.cls ≠ "java/lang/invoke/MethodHandle" ∧ yL_exchange.cls ≠ "java/lang/invoke/VarHandle" ∧ (parseMethodDescriptor yL_exchange.desc).map (fun d => d.parameters.length) = some 4 := by decide +kernel
set_option maxHeartbeats 4000000 in
set_option maxRecDepth 100000 in
theorem c_L_exchange (l : Launch) (hl0 : l.stackTraces = false) (D : va_G) (r w : Nat) (hrw : r + 206 ≤ w) (C : Nat → Int32) (J : Nat → Int32) (G : Nat → Nat → Int32) (n : Nat) (Y : Nat → Int32) (X : Nat → Int32) (U : Nat → Int32) (Z : Nat → Int32) (F : Nat → Int32) (O : Nat → Int64) (pl : Int32) (x : Int32) (hN : okN C) (hn4 : n ≤ 4) (hQ : ∀ q, q < np C → okQ C q) : vx_Met l yL_exchange (wH yL_exchange cL_exchange 5 (some .int) [(0, 10, 13, 23), (0, 10, 17, 15)]) (rmX 9 3 18) (xPc D r [.ref r, .int pl, .int x, .ref w] (fun H => Sn D r C J G n Y X U Z F H ∧ Ou D w O H)) (gQi (inH r w) (kq 3 (fE_X6_exchange C G n pl x)) (fun H => Sn D r (fC_X6_exchange C G n pl x) J (fG_X6_exchange C G n pl x) (fn_X6_exchange C G n pl x) Y X U Z F H ∧ Ou D w (ou O (fE_X6_exchange C G n pl x) (fR_X6_exchange C G n pl x).toInt64) H)) (fun _ _ _ => False) 3 18 (inH r w) := by
  refine vx_ofWH (cc := cL_exchange) (maxL := 5) (ret := (some .int)) (by decide) rfl ?_
  intro p e s m args below meth c s₁ B hml hv
  obtain ⟨hav, ⟨hG, hO⟩, hK, hKx⟩ := hv
  have hx := B.exec
  have hb := B.bytes
  have hr := B.returns
  have hts0 := atoms_spec (ws := wH yL_exchange cL_exchange 5 (some .int) [(0, 10, 13, 23), (0, 10, 17, 15)]) B.pre
  have htab := vx_table (x := yL_exchange) B (hts0 _ List.mem_cons_self)
  have hts : ∀ w ∈ AW, w.before _ s = true := fun w h => hts0 w (List.mem_cons_of_mem _ h)
  have hown : s.vm.findClass RL = some m.cls := findClass_of_methodNamed B.named
  have hlocks := B.notSynchronized
  have hr0 : ∀ q, inH r w q → r ≤ q := fun q h => h.elim (fun h => h.1) (fun h => by omega)
  have hSH : ∀ q, inS r q → inH r w q := fun q h => Or.inl h
  have hA : ∀ q, inH r w q → inH r w q := fun _ h => h
  have hS : va_S (inH r w) s.heap s.heap [] := va_S.rf
  have hG : Sn D r C J G n Y X U Z F s.heap := hG
  have hl := lv_entry ([.ref r, .int pl, .int x, .ref w]) (n := 5) (Nat.le_of_ble_eq_true rfl)
  refine W.eq (g2 := entryFrame m ([.ref r, .int pl, .int x, .ref w] : List Value).toArray 5) (by rw [hav]) ?_
  rw [lg_entry_eq]
  generalize (lg_sl ([.ref r, .int pl, .int x, .ref w]) ++ List.replicate (5 - (lg_sl ([.ref r, .int pl, .int x, .ref w])).length) Slot.unset).toArray = ls at hl ⊢
  have hl : lv_has ls 5 [(0, .ref r), (1, .int pl), (2, .int x), (3, .ref w)] := hl
  refine lv_aload_n hx hb dL_exchange_0 rfl (lv_at hl 3 rfl) ?_
  refine lv_iconst (v := 0) hx hb dL_exchange_1 (by decide) ?_
  refine topN (n := 0) rfl ?_
  refine lv_aload_n hx hb dL_exchange_2 rfl (lv_at hl 0 rfl) ?_
  refine lv_iload_n hx hb dL_exchange_3 rfl (lv_at hl 1 rfl) ?_
  refine lv_iload_n hx hb dL_exchange_4 rfl (lv_at hl 2 rfl) ?_
  refine xcVi (As := [.int pl, .int x]) (rest := [.int (nI 0), .ref w]) hx hb hml hown hts hl.1 hK hKx hr0 (c_X6_exchange l hl0 D r C J G n Y X U Z F pl x hN hn4 hQ) (gaV qM_L_29 qI_X6_exchange qS_X6_exchange qK_X6 qC_X6_exchange) hdv_X6_exchange ⟨(Nat.le_of_ble_eq_true rfl), (Nat.le_of_ble_eq_true rfl)⟩ hG (Sn.recv hK hG) rfl (Nat.le_of_ble_eq_true rfl) ⟨(Nat.le_of_ble_eq_true rfl), (Nat.le_of_ble_eq_true rfl)⟩ dL_exchange_5 hS hSH (fun ce q9 H locs hcx hG1 hz hq hS hce hv hcl => ?_) (fun H locs hc0 hG1 hz hq hS => ?_)
  · have hO1 : Ou D w O H := Ou.kept hO (hq w hO.lt (fun h => by unfold inS at h; omega))
    have hP9 : Sn D r (fC_X6_exchange C G n pl x) J (fG_X6_exchange C G n pl x) (fn_X6_exchange C G n pl x) Y X U Z F H ∧ Ou D w (ou O (fE_X6_exchange C G n pl x) (fR_X6_exchange C G n pl x).toInt64) H := ⟨hG1, by unfold ou; rw [if_neg hcx]; exact hO1⟩
    rcases ec_exchange.elim (fun h => absurd h hcx) id with hk | hk
    · rw [hk] at hcl
      refine vx_catch (name := exN 3) (E := exN 3) hown [] (⟨0, 10, 13, 23⟩ : ExceptionTableEntry) [(⟨0, 10, 17, 15⟩ : ExceptionTableEntry)] (by rw [htab]; rfl) (fun z hz => absurd hz List.not_mem_nil) (by decide) (by decide) (hts _ qL_L_23) (va_Nw.use rfl (hKx.2.2.2.1 _ (ex_cast 3 (by decide)))) hce hv hcl ?_
      refine lv_astore (lv' := [(4, .ref q9), (0, .ref r), (1, .int pl), (2, .int x), (3, .ref w)]) hx hb dL_exchange_13 hl (by decide) rfl (fun ls hl => ?_)
      refine lv_iconst (v := 1) hx hb dL_exchange_15 (by decide) ?_
      refine vx_ret (W.widen (k := 3) (n := 18) (by omega) (by omega) ?_)
      exact W.iret hx hb hr (fun t ht hW => gQi_of (by show _ = kq 3 (fE_X6_exchange C G n pl x); rw [hk]; rfl) hP9 hS ht) hS.2.2 dL_exchange_16
    · rw [hk] at hcl
      refine vx_catch (name := exN 2) (E := exN 2) hown [(⟨0, 10, 13, 23⟩ : ExceptionTableEntry)] (⟨0, 10, 17, 15⟩ : ExceptionTableEntry) [] (by rw [htab]; rfl) (fun z hz => Or.inr (by rw [List.mem_singleton] at hz; subst hz; exact ⟨by decide, exN 3, hts _ qL_L_23, hKx.2.2.2.2 2 3 (by decide) (by decide) (by decide) (by decide) (by decide)⟩)) (by decide) (by decide) (hts _ qL_L_15) (va_Nw.use rfl (hKx.2.2.2.1 _ (ex_cast 2 (by decide)))) hce hv hcl ?_
      refine lv_astore (lv' := [(4, .ref q9), (0, .ref r), (1, .int pl), (2, .int x), (3, .ref w)]) hx hb dL_exchange_17 hl (by decide) rfl (fun ls hl => ?_)
      refine lv_iconst (v := 2) hx hb dL_exchange_19 (by decide) ?_
      refine vx_ret (W.widen (k := 3) (n := 18) (by omega) (by omega) ?_)
      exact W.iret hx hb hr (fun t ht hW => gQi_of (by show _ = kq 3 (fE_X6_exchange C G n pl x); rw [hk]; rfl) hP9 hS ht) hS.2.2 dL_exchange_20
  · have hO1 : Ou D w O H := Ou.kept hO (hq w hO.lt (fun h => by unfold inS at h; omega))
    refine lv_i2l (v := (fR_X6_exchange C G n pl x).toInt64) hx hb dL_exchange_8 rfl ?_
    refine qlast hx hb hK hG1 hO1 hrw hS hA dL_exchange_9 (fun H locs hG1 hO1 hS => ?_)
    refine lv_goto (tgt := 21) hx hb dL_exchange_10 (by decide) ?_
    refine lv_iconst (v := 0) hx hb dL_exchange_21 (by decide) ?_
    have hP9 : Sn D r (fC_X6_exchange C G n pl x) J (fG_X6_exchange C G n pl x) (fn_X6_exchange C G n pl x) Y X U Z F H ∧ Ou D w (ou O (fE_X6_exchange C G n pl x) (fR_X6_exchange C G n pl x).toInt64) H := ⟨hG1, by unfold ou; rw [if_pos hc0]; exact hO1⟩
    refine vx_ret (W.widen (k := 3) (n := 18) (by omega) (by omega) ?_)
    exact W.iret hx hb hr (fun t ht hW => gQi_of (by show _ = kq 3 (fE_X6_exchange C G n pl x); rw [hc0]; rfl) hP9 hS ht) hS.2.2 dL_exchange_22
theorem hds_L_setTerms : yL_setTerms.cls ≠ "java/lang/invoke/MethodHandle" ∧ yL_setTerms.cls ≠ "java/lang/invoke/VarHandle" ∧ (parseMethodDescriptor yL_setTerms.desc).map (fun d => d.parameters.length) = some 6 := by decide +kernel
set_option maxHeartbeats 4000000 in
set_option maxRecDepth 100000 in
theorem c_L_setTerms (l : Launch) (hl0 : l.stackTraces = false) (D : va_G) (r w : Nat) (hrw : r + 206 ≤ w) (C : Nat → Int32) (J : Nat → Int32) (G : Nat → Nat → Int32) (n : Nat) (Y : Nat → Int32) (X : Nat → Int32) (U : Nat → Int32) (Z : Nat → Int32) (F : Nat → Int32) (O : Nat → Int64) (pri : Int32) (tr : Int32) (li : Int32) (cr : Int32) (hN : okN C) (hn4 : n ≤ 4) : vx_Met l yL_setTerms (wH yL_setTerms cL_setTerms 7 (some .int) [(0, 14, 17, 23), (0, 14, 21, 13)]) (rmX 8 4 24) (xPc D r [.ref r, .int pri, .int tr, .int li, .int cr, .ref w] (fun H => Sn D r C J G n Y X U Z F H ∧ Ou D w O H)) (gQi (inH r w) (kq 3 (fE_X6_setTerms C G n pri tr li cr)) (fun H => Sn D r (fC_X6_setTerms C G n pri tr li cr) J (fG_X6_setTerms C G n pri tr li cr) (fn_X6_setTerms C G n pri tr li cr) Y X U Z F H ∧ Ou D w (ou O (fE_X6_setTerms C G n pri tr li cr) (fR_X6_setTerms C G n pri tr li cr).toInt64) H)) (fun _ _ _ => False) 4 24 (inH r w) := by
  refine vx_ofWH (cc := cL_setTerms) (maxL := 7) (ret := (some .int)) (by decide) rfl ?_
  intro p e s m args below meth c s₁ B hml hv
  obtain ⟨hav, ⟨hG, hO⟩, hK, hKx⟩ := hv
  have hx := B.exec
  have hb := B.bytes
  have hr := B.returns
  have hts0 := atoms_spec (ws := wH yL_setTerms cL_setTerms 7 (some .int) [(0, 14, 17, 23), (0, 14, 21, 13)]) B.pre
  have htab := vx_table (x := yL_setTerms) B (hts0 _ List.mem_cons_self)
  have hts : ∀ w ∈ AW, w.before _ s = true := fun w h => hts0 w (List.mem_cons_of_mem _ h)
  have hown : s.vm.findClass RL = some m.cls := findClass_of_methodNamed B.named
  have hlocks := B.notSynchronized
  have hr0 : ∀ q, inH r w q → r ≤ q := fun q h => h.elim (fun h => h.1) (fun h => by omega)
  have hSH : ∀ q, inS r q → inH r w q := fun q h => Or.inl h
  have hA : ∀ q, inH r w q → inH r w q := fun _ h => h
  have hS : va_S (inH r w) s.heap s.heap [] := va_S.rf
  have hG : Sn D r C J G n Y X U Z F s.heap := hG
  have hl := lv_entry ([.ref r, .int pri, .int tr, .int li, .int cr, .ref w]) (n := 7) (Nat.le_of_ble_eq_true rfl)
  refine W.eq (g2 := entryFrame m ([.ref r, .int pri, .int tr, .int li, .int cr, .ref w] : List Value).toArray 7) (by rw [hav]) ?_
  rw [lg_entry_eq]
  generalize (lg_sl ([.ref r, .int pri, .int tr, .int li, .int cr, .ref w]) ++ List.replicate (7 - (lg_sl ([.ref r, .int pri, .int tr, .int li, .int cr, .ref w])).length) Slot.unset).toArray = ls at hl ⊢
  have hl : lv_has ls 7 [(0, .ref r), (1, .int pri), (2, .int tr), (3, .int li), (4, .int cr), (5, .ref w)] := hl
  refine lv_aload hx hb dL_setTerms_0 (lv_at hl 5 rfl) ?_
  refine lv_iconst (v := 0) hx hb dL_setTerms_2 (by decide) ?_
  refine topN (n := 0) rfl ?_
  refine lv_aload_n hx hb dL_setTerms_3 rfl (lv_at hl 0 rfl) ?_
  refine lv_iload_n hx hb dL_setTerms_4 rfl (lv_at hl 1 rfl) ?_
  refine lv_iload_n hx hb dL_setTerms_5 rfl (lv_at hl 2 rfl) ?_
  refine lv_iload_n hx hb dL_setTerms_6 rfl (lv_at hl 3 rfl) ?_
  refine lv_iload hx hb dL_setTerms_7 (lv_at hl 4 rfl) ?_
  refine xcVi (As := [.int pri, .int tr, .int li, .int cr]) (rest := [.int (nI 0), .ref w]) hx hb hml hown hts hl.1 hK hKx hr0 (c_X6_setTerms l hl0 D r C J G n Y X U Z F pri tr li cr hN hn4) (gaV qM_L_32 qI_X6_setTerms qS_X6_setTerms qK_X6 qC_X6_setTerms) hdv_X6_setTerms ⟨(Nat.le_of_ble_eq_true rfl), (Nat.le_of_ble_eq_true rfl)⟩ hG (Sn.recv hK hG) rfl (Nat.le_of_ble_eq_true rfl) ⟨(Nat.le_of_ble_eq_true rfl), (Nat.le_of_ble_eq_true rfl)⟩ dL_setTerms_9 hS hSH (fun ce q9 H locs hcx hG1 hz hq hS hce hv hcl => ?_) (fun H locs hc0 hG1 hz hq hS => ?_)
  · have hO1 : Ou D w O H := Ou.kept hO (hq w hO.lt (fun h => by unfold inS at h; omega))
    have hP9 : Sn D r (fC_X6_setTerms C G n pri tr li cr) J (fG_X6_setTerms C G n pri tr li cr) (fn_X6_setTerms C G n pri tr li cr) Y X U Z F H ∧ Ou D w (ou O (fE_X6_setTerms C G n pri tr li cr) (fR_X6_setTerms C G n pri tr li cr).toInt64) H := ⟨hG1, by unfold ou; rw [if_neg hcx]; exact hO1⟩
    rcases ec_setTerms.elim (fun h => absurd h hcx) id with hk | hk
    · rw [hk] at hcl
      refine vx_catch (name := exN 3) (E := exN 3) hown [] (⟨0, 14, 17, 23⟩ : ExceptionTableEntry) [(⟨0, 14, 21, 13⟩ : ExceptionTableEntry)] (by rw [htab]; rfl) (fun z hz => absurd hz List.not_mem_nil) (by decide) (by decide) (hts _ qL_L_23) (va_Nw.use rfl (hKx.2.2.2.1 _ (ex_cast 3 (by decide)))) hce hv hcl ?_
      refine lv_astore (lv' := [(6, .ref q9), (0, .ref r), (1, .int pri), (2, .int tr), (3, .int li), (4, .int cr), (5, .ref w)]) hx hb dL_setTerms_17 hl (by decide) rfl (fun ls hl => ?_)
      refine lv_iconst (v := 1) hx hb dL_setTerms_19 (by decide) ?_
      refine vx_ret (W.widen (k := 4) (n := 24) (by omega) (by omega) ?_)
      exact W.iret hx hb hr (fun t ht hW => gQi_of (by show _ = kq 3 (fE_X6_setTerms C G n pri tr li cr); rw [hk]; rfl) hP9 hS ht) hS.2.2 dL_setTerms_20
    · rw [hk] at hcl
      refine vx_catch (name := exN 1) (E := exN 1) hown [(⟨0, 14, 17, 23⟩ : ExceptionTableEntry)] (⟨0, 14, 21, 13⟩ : ExceptionTableEntry) [] (by rw [htab]; rfl) (fun z hz => Or.inr (by rw [List.mem_singleton] at hz; subst hz; exact ⟨by decide, exN 3, hts _ qL_L_23, hKx.2.2.2.2 1 3 (by decide) (by decide) (by decide) (by decide) (by decide)⟩)) (by decide) (by decide) (hts _ qL_L_13) (va_Nw.use rfl (hKx.2.2.2.1 _ (ex_cast 1 (by decide)))) hce hv hcl ?_
      refine lv_astore (lv' := [(6, .ref q9), (0, .ref r), (1, .int pri), (2, .int tr), (3, .int li), (4, .int cr), (5, .ref w)]) hx hb dL_setTerms_21 hl (by decide) rfl (fun ls hl => ?_)
      refine lv_iconst (v := 2) hx hb dL_setTerms_23 (by decide) ?_
      refine vx_ret (W.widen (k := 4) (n := 24) (by omega) (by omega) ?_)
      exact W.iret hx hb hr (fun t ht hW => gQi_of (by show _ = kq 3 (fE_X6_setTerms C G n pri tr li cr); rw [hk]; rfl) hP9 hS ht) hS.2.2 dL_setTerms_24
  · have hO1 : Ou D w O H := Ou.kept hO (hq w hO.lt (fun h => by unfold inS at h; omega))
    refine lv_i2l (v := (fR_X6_setTerms C G n pri tr li cr).toInt64) hx hb dL_setTerms_12 rfl ?_
    refine qlast hx hb hK hG1 hO1 hrw hS hA dL_setTerms_13 (fun H locs hG1 hO1 hS => ?_)
    refine lv_goto (tgt := 25) hx hb dL_setTerms_14 (by decide) ?_
    refine lv_iconst (v := 0) hx hb dL_setTerms_25 (by decide) ?_
    have hP9 : Sn D r (fC_X6_setTerms C G n pri tr li cr) J (fG_X6_setTerms C G n pri tr li cr) (fn_X6_setTerms C G n pri tr li cr) Y X U Z F H ∧ Ou D w (ou O (fE_X6_setTerms C G n pri tr li cr) (fR_X6_setTerms C G n pri tr li cr).toInt64) H := ⟨hG1, by unfold ou; rw [if_pos hc0]; exact hO1⟩
    refine vx_ret (W.widen (k := 4) (n := 24) (by omega) (by omega) ?_)
    exact W.iret hx hb hr (fun t ht hW => gQi_of (by show _ = kq 3 (fE_X6_setTerms C G n pri tr li cr); rw [hc0]; rfl) hP9 hS ht) hS.2.2 dL_setTerms_26
theorem hds_L_setSpread : yL_setSpread.cls ≠ "java/lang/invoke/MethodHandle" ∧ yL_setSpread.cls ≠ "java/lang/invoke/VarHandle" ∧ (parseMethodDescriptor yL_setSpread.desc).map (fun d => d.parameters.length) = some 3 := by decide +kernel
set_option maxHeartbeats 4000000 in
set_option maxRecDepth 100000 in
theorem c_L_setSpread (l : Launch) (hl0 : l.stackTraces = false) (D : va_G) (r w : Nat) (hrw : r + 206 ≤ w) (C : Nat → Int32) (J : Nat → Int32) (G : Nat → Nat → Int32) (n : Nat) (Y : Nat → Int32) (X : Nat → Int32) (U : Nat → Int32) (Z : Nat → Int32) (F : Nat → Int32) (O : Nat → Int64) (sp : Int32) (hN : okN C) (hn4 : n ≤ 4) : vx_Met l yL_setSpread (wH yL_setSpread cL_setSpread 4 (some .int) [(0, 9, 12, 13)]) (rmX 8 1 6) (xPc D r [.ref r, .int sp, .ref w] (fun H => Sn D r C J G n Y X U Z F H ∧ Ou D w O H)) (gQi (inH r w) (kq 1 (fE_X6_setSpread C G n sp)) (fun H => Sn D r (fC_X6_setSpread C G n sp) J (fG_X6_setSpread C G n sp) (fn_X6_setSpread C G n sp) Y X U Z F H ∧ Ou D w (ou O (fE_X6_setSpread C G n sp) (fR_X6_setSpread C G n sp).toInt64) H)) (fun _ _ _ => False) 1 6 (inH r w) := by
  refine vx_ofWH (cc := cL_setSpread) (maxL := 4) (ret := (some .int)) (by decide) rfl ?_
  intro p e s m args below meth c s₁ B hml hv
  obtain ⟨hav, ⟨hG, hO⟩, hK, hKx⟩ := hv
  have hx := B.exec
  have hb := B.bytes
  have hr := B.returns
  have hts0 := atoms_spec (ws := wH yL_setSpread cL_setSpread 4 (some .int) [(0, 9, 12, 13)]) B.pre
  have htab := vx_table (x := yL_setSpread) B (hts0 _ List.mem_cons_self)
  have hts : ∀ w ∈ AW, w.before _ s = true := fun w h => hts0 w (List.mem_cons_of_mem _ h)
  have hown : s.vm.findClass RL = some m.cls := findClass_of_methodNamed B.named
  have hlocks := B.notSynchronized
  have hr0 : ∀ q, inH r w q → r ≤ q := fun q h => h.elim (fun h => h.1) (fun h => by omega)
  have hSH : ∀ q, inS r q → inH r w q := fun q h => Or.inl h
  have hA : ∀ q, inH r w q → inH r w q := fun _ h => h
  have hS : va_S (inH r w) s.heap s.heap [] := va_S.rf
  have hG : Sn D r C J G n Y X U Z F s.heap := hG
  have hl := lv_entry ([.ref r, .int sp, .ref w]) (n := 4) (Nat.le_of_ble_eq_true rfl)
  refine W.eq (g2 := entryFrame m ([.ref r, .int sp, .ref w] : List Value).toArray 4) (by rw [hav]) ?_
  rw [lg_entry_eq]
  generalize (lg_sl ([.ref r, .int sp, .ref w]) ++ List.replicate (4 - (lg_sl ([.ref r, .int sp, .ref w])).length) Slot.unset).toArray = ls at hl ⊢
  have hl : lv_has ls 4 [(0, .ref r), (1, .int sp), (2, .ref w)] := hl
  refine lv_aload_n hx hb dL_setSpread_0 rfl (lv_at hl 2 rfl) ?_
  refine lv_iconst (v := 0) hx hb dL_setSpread_1 (by decide) ?_
  refine topN (n := 0) rfl ?_
  refine lv_aload_n hx hb dL_setSpread_2 rfl (lv_at hl 0 rfl) ?_
  refine lv_iload_n hx hb dL_setSpread_3 rfl (lv_at hl 1 rfl) ?_
  refine xcVi (As := [.int sp]) (rest := [.int (nI 0), .ref w]) hx hb hml hown hts hl.1 hK hKx hr0 (c_X6_setSpread l hl0 D r C J G n Y X U Z F sp hN hn4) (gaV qM_L_36 qI_X6_setSpread qS_X6_setSpread qK_X6 qC_X6_setSpread) hdv_X6_setSpread ⟨(Nat.le_of_ble_eq_true rfl), (Nat.le_of_ble_eq_true rfl)⟩ hG (Sn.recv hK hG) rfl (Nat.le_of_ble_eq_true rfl) ⟨(Nat.le_of_ble_eq_true rfl), (Nat.le_of_ble_eq_true rfl)⟩ dL_setSpread_4 hS hSH (fun ce q9 H locs hcx hG1 hz hq hS hce hv hcl => ?_) (fun H locs hc0 hG1 hz hq hS => ?_)
  · have hO1 : Ou D w O H := Ou.kept hO (hq w hO.lt (fun h => by unfold inS at h; omega))
    have hP9 : Sn D r (fC_X6_setSpread C G n sp) J (fG_X6_setSpread C G n sp) (fn_X6_setSpread C G n sp) Y X U Z F H ∧ Ou D w (ou O (fE_X6_setSpread C G n sp) (fR_X6_setSpread C G n sp).toInt64) H := ⟨hG1, by unfold ou; rw [if_neg hcx]; exact hO1⟩
    have hk : fE_X6_setSpread C G n sp = 1 := ec_setSpread.elim (fun h => absurd h hcx) (fun h => h.elim id id)
    rw [hk] at hcl
    refine vx_catch (name := exN 1) (E := exN 1) hown [] (⟨0, 9, 12, 13⟩ : ExceptionTableEntry) [] (by rw [htab]; rfl) (fun z hz => absurd hz List.not_mem_nil) (by decide) (by decide) (hts _ qL_L_13) (va_Nw.use rfl (hKx.2.2.2.1 _ (ex_cast 1 (by decide)))) hce hv hcl ?_
    refine lv_astore_n (lv' := [(3, .ref q9), (0, .ref r), (1, .int sp), (2, .ref w)]) hx hb dL_setSpread_12 rfl hl (by decide) rfl (fun ls hl => ?_)
    refine lv_iconst (v := 1) hx hb dL_setSpread_13 (by decide) ?_
    refine vx_ret (W.widen (k := 1) (n := 6) (by omega) (by omega) ?_)
    exact W.iret hx hb hr (fun t ht hW => gQi_of (by show _ = kq 1 (fE_X6_setSpread C G n sp); rw [hk]; rfl) hP9 hS ht) hS.2.2 dL_setSpread_14
  · have hO1 : Ou D w O H := Ou.kept hO (hq w hO.lt (fun h => by unfold inS at h; omega))
    refine lv_i2l (v := (fR_X6_setSpread C G n sp).toInt64) hx hb dL_setSpread_7 rfl ?_
    refine qlast hx hb hK hG1 hO1 hrw hS hA dL_setSpread_8 (fun H locs hG1 hO1 hS => ?_)
    refine lv_goto (tgt := 15) hx hb dL_setSpread_9 (by decide) ?_
    refine lv_iconst (v := 0) hx hb dL_setSpread_15 (by decide) ?_
    have hP9 : Sn D r (fC_X6_setSpread C G n sp) J (fG_X6_setSpread C G n sp) (fn_X6_setSpread C G n sp) Y X U Z F H ∧ Ou D w (ou O (fE_X6_setSpread C G n sp) (fR_X6_setSpread C G n sp).toInt64) H := ⟨hG1, by unfold ou; rw [if_pos hc0]; exact hO1⟩
    refine vx_ret (W.widen (k := 1) (n := 6) (by omega) (by omega) ?_)
    exact W.iret hx hb hr (fun t ht hW => gQi_of (by show _ = kq 1 (fE_X6_setSpread C G n sp); rw [hc0]; rfl) hP9 hS ht) hS.2.2 dL_setSpread_16
theorem hds_L_deliver : yL_deliver.cls ≠ "java/lang/invoke/MethodHandle" ∧ yL_deliver.cls ≠ "java/lang/invoke/VarHandle" ∧ (parseMethodDescriptor yL_deliver.desc).map (fun d => d.parameters.length) = some 3 := by decide +kernel
set_option maxHeartbeats 4000000 in
set_option maxRecDepth 100000 in
theorem c_L_deliver (l : Launch) (hl0 : l.stackTraces = false) (D : va_G) (r w : Nat) (hrw : r + 206 ≤ w) (C : Nat → Int32) (J : Nat → Int32) (G : Nat → Nat → Int32) (n : Nat) (Y : Nat → Int32) (X : Nat → Int32) (U : Nat → Int32) (Z : Nat → Int32) (F : Nat → Int32) (O : Nat → Int64) (kg : Int32) (hN : okN C) (hn4 : n ≤ 4) : vx_Met l yL_deliver (wH yL_deliver cL_deliver 4 (some .int) [(0, 9, 12, 13), (0, 9, 15, 15)]) (rmX 8 2 12) (xPc D r [.ref r, .int kg, .ref w] (fun H => Sn D r C J G n Y X U Z F H ∧ Ou D w O H)) (gQi (inH r w) (kq 1 (fE_X6_deliver C G n kg)) (fun H => Sn D r (fC_X6_deliver C G n kg) J (fG_X6_deliver C G n kg) (fn_X6_deliver C G n kg) Y X U Z F H ∧ Ou D w (ou O (fE_X6_deliver C G n kg) (fR_X6_deliver C G n kg).toInt64) H)) (fun _ _ _ => False) 2 12 (inH r w) := by
  refine vx_ofWH (cc := cL_deliver) (maxL := 4) (ret := (some .int)) (by decide) rfl ?_
  intro p e s m args below meth c s₁ B hml hv
  obtain ⟨hav, ⟨hG, hO⟩, hK, hKx⟩ := hv
  have hx := B.exec
  have hb := B.bytes
  have hr := B.returns
  have hts0 := atoms_spec (ws := wH yL_deliver cL_deliver 4 (some .int) [(0, 9, 12, 13), (0, 9, 15, 15)]) B.pre
  have htab := vx_table (x := yL_deliver) B (hts0 _ List.mem_cons_self)
  have hts : ∀ w ∈ AW, w.before _ s = true := fun w h => hts0 w (List.mem_cons_of_mem _ h)
  have hown : s.vm.findClass RL = some m.cls := findClass_of_methodNamed B.named
  have hlocks := B.notSynchronized
  have hr0 : ∀ q, inH r w q → r ≤ q := fun q h => h.elim (fun h => h.1) (fun h => by omega)
  have hSH : ∀ q, inS r q → inH r w q := fun q h => Or.inl h
  have hA : ∀ q, inH r w q → inH r w q := fun _ h => h
  have hS : va_S (inH r w) s.heap s.heap [] := va_S.rf
  have hG : Sn D r C J G n Y X U Z F s.heap := hG
  have hl := lv_entry ([.ref r, .int kg, .ref w]) (n := 4) (Nat.le_of_ble_eq_true rfl)
  refine W.eq (g2 := entryFrame m ([.ref r, .int kg, .ref w] : List Value).toArray 4) (by rw [hav]) ?_
  rw [lg_entry_eq]
  generalize (lg_sl ([.ref r, .int kg, .ref w]) ++ List.replicate (4 - (lg_sl ([.ref r, .int kg, .ref w])).length) Slot.unset).toArray = ls at hl ⊢
  have hl : lv_has ls 4 [(0, .ref r), (1, .int kg), (2, .ref w)] := hl
  refine lv_aload_n hx hb dL_deliver_0 rfl (lv_at hl 2 rfl) ?_
  refine lv_iconst (v := 0) hx hb dL_deliver_1 (by decide) ?_
  refine topN (n := 0) rfl ?_
  refine lv_aload_n hx hb dL_deliver_2 rfl (lv_at hl 0 rfl) ?_
  refine lv_iload_n hx hb dL_deliver_3 rfl (lv_at hl 1 rfl) ?_
  refine xcVi (As := [.int kg]) (rest := [.int (nI 0), .ref w]) hx hb hml hown hts hl.1 hK hKx hr0 (c_X6_deliver l hl0 D r C J G n Y X U Z F kg hN hn4) (gaV qM_L_39 qI_X6_deliver qS_X6_deliver qK_X6 qC_X6_deliver) hdv_X6_deliver ⟨(Nat.le_of_ble_eq_true rfl), (Nat.le_of_ble_eq_true rfl)⟩ hG (Sn.recv hK hG) rfl (Nat.le_of_ble_eq_true rfl) ⟨(Nat.le_of_ble_eq_true rfl), (Nat.le_of_ble_eq_true rfl)⟩ dL_deliver_4 hS hSH (fun ce q9 H locs hcx hG1 hz hq hS hce hv hcl => ?_) (fun H locs hc0 hG1 hz hq hS => ?_)
  · have hO1 : Ou D w O H := Ou.kept hO (hq w hO.lt (fun h => by unfold inS at h; omega))
    have hP9 : Sn D r (fC_X6_deliver C G n kg) J (fG_X6_deliver C G n kg) (fn_X6_deliver C G n kg) Y X U Z F H ∧ Ou D w (ou O (fE_X6_deliver C G n kg) (fR_X6_deliver C G n kg).toInt64) H := ⟨hG1, by unfold ou; rw [if_neg hcx]; exact hO1⟩
    rcases ec_deliver.elim (fun h => absurd h hcx) id with hk | hk
    · rw [hk] at hcl
      refine vx_catch (name := exN 1) (E := exN 1) hown [] (⟨0, 9, 12, 13⟩ : ExceptionTableEntry) [(⟨0, 9, 15, 15⟩ : ExceptionTableEntry)] (by rw [htab]; rfl) (fun z hz => absurd hz List.not_mem_nil) (by decide) (by decide) (hts _ qL_L_13) (va_Nw.use rfl (hKx.2.2.2.1 _ (ex_cast 1 (by decide)))) hce hv hcl ?_
      refine lv_astore_n (lv' := [(3, .ref q9), (0, .ref r), (1, .int kg), (2, .ref w)]) hx hb dL_deliver_12 rfl hl (by decide) rfl (fun ls hl => ?_)
      refine lv_iconst (v := 1) hx hb dL_deliver_13 (by decide) ?_
      refine vx_ret (W.widen (k := 2) (n := 12) (by omega) (by omega) ?_)
      exact W.iret hx hb hr (fun t ht hW => gQi_of (by show _ = kq 1 (fE_X6_deliver C G n kg); rw [hk]; rfl) hP9 hS ht) hS.2.2 dL_deliver_14
    · rw [hk] at hcl
      refine vx_catch (name := exN 2) (E := exN 2) hown [(⟨0, 9, 12, 13⟩ : ExceptionTableEntry)] (⟨0, 9, 15, 15⟩ : ExceptionTableEntry) [] (by rw [htab]; rfl) (fun z hz => Or.inr (by rw [List.mem_singleton] at hz; subst hz; exact ⟨by decide, exN 1, hts _ qL_L_13, hKx.2.2.2.2 2 1 (by decide) (by decide) (by decide) (by decide) (by decide)⟩)) (by decide) (by decide) (hts _ qL_L_15) (va_Nw.use rfl (hKx.2.2.2.1 _ (ex_cast 2 (by decide)))) hce hv hcl ?_
      refine lv_astore_n (lv' := [(3, .ref q9), (0, .ref r), (1, .int kg), (2, .ref w)]) hx hb dL_deliver_15 rfl hl (by decide) rfl (fun ls hl => ?_)
      refine lv_iconst (v := 2) hx hb dL_deliver_16 (by decide) ?_
      refine vx_ret (W.widen (k := 2) (n := 12) (by omega) (by omega) ?_)
      exact W.iret hx hb hr (fun t ht hW => gQi_of (by show _ = kq 1 (fE_X6_deliver C G n kg); rw [hk]; rfl) hP9 hS ht) hS.2.2 dL_deliver_17
  · have hO1 : Ou D w O H := Ou.kept hO (hq w hO.lt (fun h => by unfold inS at h; omega))
    refine lv_i2l (v := (fR_X6_deliver C G n kg).toInt64) hx hb dL_deliver_7 rfl ?_
    refine qlast hx hb hK hG1 hO1 hrw hS hA dL_deliver_8 (fun H locs hG1 hO1 hS => ?_)
    refine lv_goto (tgt := 18) hx hb dL_deliver_9 (by decide) ?_
    refine lv_iconst (v := 0) hx hb dL_deliver_18 (by decide) ?_
    have hP9 : Sn D r (fC_X6_deliver C G n kg) J (fG_X6_deliver C G n kg) (fn_X6_deliver C G n kg) Y X U Z F H ∧ Ou D w (ou O (fE_X6_deliver C G n kg) (fR_X6_deliver C G n kg).toInt64) H := ⟨hG1, by unfold ou; rw [if_pos hc0]; exact hO1⟩
    refine vx_ret (W.widen (k := 2) (n := 12) (by omega) (by omega) ?_)
    exact W.iret hx hb hr (fun t ht hW => gQi_of (by show _ = kq 1 (fE_X6_deliver C G n kg); rw [hc0]; rfl) hP9 hS ht) hS.2.2 dL_deliver_19
theorem hds_L_run : yL_run.cls ≠ "java/lang/invoke/MethodHandle" ∧ yL_run.cls ≠ "java/lang/invoke/VarHandle" ∧ (parseMethodDescriptor yL_run.desc).map (fun d => d.parameters.length) = some 5 := by decide +kernel
set_option maxHeartbeats 4000000 in
set_option maxRecDepth 100000 in
theorem c_L_run (l : Launch) (hl0 : l.stackTraces = false) (D : va_G) (r w : Nat) (hrw : r + 206 ≤ w) (C : Nat → Int32) (J : Nat → Int32) (G : Nat → Nat → Int32) (n : Nat) (Y : Nat → Int32) (X : Nat → Int32) (U : Nat → Int32) (Z : Nat → Int32) (F : Nat → Int32) (O : Nat → Int64) (tmp : Int32) (sn : Int32) (hrs : Int32) (hw : WF C) (hn4 : n ≤ 4) : vx_Met l yL_run (wH yL_run cL_run 6 (some .int) [(0, 12, 15, 13), (0, 12, 19, 15)]) (rmX 9 4 24) (xPc D r [.ref r, .int tmp, .int sn, .int hrs, .ref w] (fun H => Sn D r C J G n Y X U Z F H ∧ Ou D w O H)) (gQi (inH r w) (kq 1 (fE_X6_run C G n tmp sn hrs)) (fun H => Sn D r (fC_X6_run C G n tmp sn hrs) J (fG_X6_run C G n tmp sn hrs) (fn_X6_run C G n tmp sn hrs) Y X U Z F H ∧ Ou D w (ou O (fE_X6_run C G n tmp sn hrs) (fR_X6_run C G n tmp sn hrs).toInt64) H)) (fun _ _ _ => False) 4 24 (inH r w) := by
  refine vx_ofWH (cc := cL_run) (maxL := 6) (ret := (some .int)) (by decide) rfl ?_
  intro p e s m args below meth c s₁ B hml hv
  obtain ⟨hav, ⟨hG, hO⟩, hK, hKx⟩ := hv
  have hx := B.exec
  have hb := B.bytes
  have hr := B.returns
  have hts0 := atoms_spec (ws := wH yL_run cL_run 6 (some .int) [(0, 12, 15, 13), (0, 12, 19, 15)]) B.pre
  have htab := vx_table (x := yL_run) B (hts0 _ List.mem_cons_self)
  have hts : ∀ w ∈ AW, w.before _ s = true := fun w h => hts0 w (List.mem_cons_of_mem _ h)
  have hown : s.vm.findClass RL = some m.cls := findClass_of_methodNamed B.named
  have hlocks := B.notSynchronized
  have hr0 : ∀ q, inH r w q → r ≤ q := fun q h => h.elim (fun h => h.1) (fun h => by omega)
  have hSH : ∀ q, inS r q → inH r w q := fun q h => Or.inl h
  have hA : ∀ q, inH r w q → inH r w q := fun _ h => h
  have hS : va_S (inH r w) s.heap s.heap [] := va_S.rf
  have hG : Sn D r C J G n Y X U Z F s.heap := hG
  have hl := lv_entry ([.ref r, .int tmp, .int sn, .int hrs, .ref w]) (n := 6) (Nat.le_of_ble_eq_true rfl)
  refine W.eq (g2 := entryFrame m ([.ref r, .int tmp, .int sn, .int hrs, .ref w] : List Value).toArray 6) (by rw [hav]) ?_
  rw [lg_entry_eq]
  generalize (lg_sl ([.ref r, .int tmp, .int sn, .int hrs, .ref w]) ++ List.replicate (6 - (lg_sl ([.ref r, .int tmp, .int sn, .int hrs, .ref w])).length) Slot.unset).toArray = ls at hl ⊢
  have hl : lv_has ls 6 [(0, .ref r), (1, .int tmp), (2, .int sn), (3, .int hrs), (4, .ref w)] := hl
  refine lv_aload hx hb dL_run_0 (lv_at hl 4 rfl) ?_
  refine lv_iconst (v := 0) hx hb dL_run_2 (by decide) ?_
  refine topN (n := 0) rfl ?_
  refine lv_aload_n hx hb dL_run_3 rfl (lv_at hl 0 rfl) ?_
  refine lv_iload_n hx hb dL_run_4 rfl (lv_at hl 1 rfl) ?_
  refine lv_iload_n hx hb dL_run_5 rfl (lv_at hl 2 rfl) ?_
  refine lv_iload_n hx hb dL_run_6 rfl (lv_at hl 3 rfl) ?_
  refine xcVi (As := [.int tmp, .int sn, .int hrs]) (rest := [.int (nI 0), .ref w]) hx hb hml hown hts hl.1 hK hKx hr0 (c_X6_run l hl0 D r C J G n Y X U Z F tmp sn hrs hw hn4) (gaV qM_L_42 qI_X6_run qS_X6_run qK_X6 qC_X6_run) hdv_X6_run ⟨(Nat.le_of_ble_eq_true rfl), (Nat.le_of_ble_eq_true rfl)⟩ hG (Sn.recv hK hG) rfl (Nat.le_of_ble_eq_true rfl) ⟨(Nat.le_of_ble_eq_true rfl), (Nat.le_of_ble_eq_true rfl)⟩ dL_run_7 hS hSH (fun ce q9 H locs hcx hG1 hz hq hS hce hv hcl => ?_) (fun H locs hc0 hG1 hz hq hS => ?_)
  · have hO1 : Ou D w O H := Ou.kept hO (hq w hO.lt (fun h => by unfold inS at h; omega))
    have hP9 : Sn D r (fC_X6_run C G n tmp sn hrs) J (fG_X6_run C G n tmp sn hrs) (fn_X6_run C G n tmp sn hrs) Y X U Z F H ∧ Ou D w (ou O (fE_X6_run C G n tmp sn hrs) (fR_X6_run C G n tmp sn hrs).toInt64) H := ⟨hG1, by unfold ou; rw [if_neg hcx]; exact hO1⟩
    rcases ec_run.elim (fun h => absurd h hcx) id with hk | hk
    · rw [hk] at hcl
      refine vx_catch (name := exN 1) (E := exN 1) hown [] (⟨0, 12, 15, 13⟩ : ExceptionTableEntry) [(⟨0, 12, 19, 15⟩ : ExceptionTableEntry)] (by rw [htab]; rfl) (fun z hz => absurd hz List.not_mem_nil) (by decide) (by decide) (hts _ qL_L_13) (va_Nw.use rfl (hKx.2.2.2.1 _ (ex_cast 1 (by decide)))) hce hv hcl ?_
      refine lv_astore (lv' := [(5, .ref q9), (0, .ref r), (1, .int tmp), (2, .int sn), (3, .int hrs), (4, .ref w)]) hx hb dL_run_15 hl (by decide) rfl (fun ls hl => ?_)
      refine lv_iconst (v := 1) hx hb dL_run_17 (by decide) ?_
      refine vx_ret (W.widen (k := 4) (n := 24) (by omega) (by omega) ?_)
      exact W.iret hx hb hr (fun t ht hW => gQi_of (by show _ = kq 1 (fE_X6_run C G n tmp sn hrs); rw [hk]; rfl) hP9 hS ht) hS.2.2 dL_run_18
    · rw [hk] at hcl
      refine vx_catch (name := exN 2) (E := exN 2) hown [(⟨0, 12, 15, 13⟩ : ExceptionTableEntry)] (⟨0, 12, 19, 15⟩ : ExceptionTableEntry) [] (by rw [htab]; rfl) (fun z hz => Or.inr (by rw [List.mem_singleton] at hz; subst hz; exact ⟨by decide, exN 1, hts _ qL_L_13, hKx.2.2.2.2 2 1 (by decide) (by decide) (by decide) (by decide) (by decide)⟩)) (by decide) (by decide) (hts _ qL_L_15) (va_Nw.use rfl (hKx.2.2.2.1 _ (ex_cast 2 (by decide)))) hce hv hcl ?_
      refine lv_astore (lv' := [(5, .ref q9), (0, .ref r), (1, .int tmp), (2, .int sn), (3, .int hrs), (4, .ref w)]) hx hb dL_run_19 hl (by decide) rfl (fun ls hl => ?_)
      refine lv_iconst (v := 2) hx hb dL_run_21 (by decide) ?_
      refine vx_ret (W.widen (k := 4) (n := 24) (by omega) (by omega) ?_)
      exact W.iret hx hb hr (fun t ht hW => gQi_of (by show _ = kq 1 (fE_X6_run C G n tmp sn hrs); rw [hk]; rfl) hP9 hS ht) hS.2.2 dL_run_22
  · have hO1 : Ou D w O H := Ou.kept hO (hq w hO.lt (fun h => by unfold inS at h; omega))
    refine lv_i2l (v := (fR_X6_run C G n tmp sn hrs).toInt64) hx hb dL_run_10 rfl ?_
    refine qlast hx hb hK hG1 hO1 hrw hS hA dL_run_11 (fun H locs hG1 hO1 hS => ?_)
    refine lv_goto (tgt := 23) hx hb dL_run_12 (by decide) ?_
    refine lv_iconst (v := 0) hx hb dL_run_23 (by decide) ?_
    have hP9 : Sn D r (fC_X6_run C G n tmp sn hrs) J (fG_X6_run C G n tmp sn hrs) (fn_X6_run C G n tmp sn hrs) Y X U Z F H ∧ Ou D w (ou O (fE_X6_run C G n tmp sn hrs) (fR_X6_run C G n tmp sn hrs).toInt64) H := ⟨hG1, by unfold ou; rw [if_pos hc0]; exact hO1⟩
    refine vx_ret (W.widen (k := 4) (n := 24) (by omega) (by omega) ?_)
    exact W.iret hx hb hr (fun t ht hW => gQi_of (by show _ = kq 1 (fE_X6_run C G n tmp sn hrs); rw [hc0]; rfl) hP9 hS ht) hS.2.2 dL_run_24
theorem hds_L_value : yL_value.cls ≠ "java/lang/invoke/MethodHandle" ∧ yL_value.cls ≠ "java/lang/invoke/VarHandle" ∧ (parseMethodDescriptor yL_value.desc).map (fun d => d.parameters.length) = some 3 := by decide +kernel
set_option maxHeartbeats 4000000 in
set_option maxRecDepth 100000 in
theorem c_L_value (l : Launch) (hl0 : l.stackTraces = false) (D : va_G) (r w : Nat) (hrw : r + 206 ≤ w) (C : Nat → Int32) (J : Nat → Int32) (G : Nat → Nat → Int32) (n : Nat) (Y : Nat → Int32) (X : Nat → Int32) (U : Nat → Int32) (Z : Nat → Int32) (F : Nat → Int32) (O : Nat → Int64) (x : Int32) (hw : WF C) : vx_Met l yL_value (wH yL_value cL_value 4 (some .int) [(0, 9, 12, 13)]) (rmX 8 1 6) (xPc D r [.ref r, .int x, .ref w] (fun H => Sn D r C J G n Y X U Z F H ∧ Ou D w O H)) (gQi (inH r w) (kq 1 (fE_X6_value C x)) (fun H => Sn D r C J G n Y X U Z F H ∧ Ou D w (ou O (fE_X6_value C x) (fR_X6_value C x).toInt64) H)) (fun _ _ _ => False) 1 6 (inH r w) := by
  refine vx_ofWH (cc := cL_value) (maxL := 4) (ret := (some .int)) (by decide) rfl ?_
  intro p e s m args below meth c s₁ B hml hv
  obtain ⟨hav, ⟨hG, hO⟩, hK, hKx⟩ := hv
  have hx := B.exec
  have hb := B.bytes
  have hr := B.returns
  have hts0 := atoms_spec (ws := wH yL_value cL_value 4 (some .int) [(0, 9, 12, 13)]) B.pre
  have htab := vx_table (x := yL_value) B (hts0 _ List.mem_cons_self)
  have hts : ∀ w ∈ AW, w.before _ s = true := fun w h => hts0 w (List.mem_cons_of_mem _ h)
  have hown : s.vm.findClass RL = some m.cls := findClass_of_methodNamed B.named
  have hlocks := B.notSynchronized
  have hr0 : ∀ q, inH r w q → r ≤ q := fun q h => h.elim (fun h => h.1) (fun h => by omega)
  have hSH : ∀ q, inS r q → inH r w q := fun q h => Or.inl h
  have hA : ∀ q, inH r w q → inH r w q := fun _ h => h
  have hS : va_S (inH r w) s.heap s.heap [] := va_S.rf
  have hG : Sn D r C J G n Y X U Z F s.heap := hG
  have hl := lv_entry ([.ref r, .int x, .ref w]) (n := 4) (Nat.le_of_ble_eq_true rfl)
  refine W.eq (g2 := entryFrame m ([.ref r, .int x, .ref w] : List Value).toArray 4) (by rw [hav]) ?_
  rw [lg_entry_eq]
  generalize (lg_sl ([.ref r, .int x, .ref w]) ++ List.replicate (4 - (lg_sl ([.ref r, .int x, .ref w])).length) Slot.unset).toArray = ls at hl ⊢
  have hl : lv_has ls 4 [(0, .ref r), (1, .int x), (2, .ref w)] := hl
  refine lv_aload_n hx hb dL_value_0 rfl (lv_at hl 2 rfl) ?_
  refine lv_iconst (v := 0) hx hb dL_value_1 (by decide) ?_
  refine topN (n := 0) rfl ?_
  refine lv_aload_n hx hb dL_value_2 rfl (lv_at hl 0 rfl) ?_
  refine lv_iload_n hx hb dL_value_3 rfl (lv_at hl 1 rfl) ?_
  refine xcVi (As := [.int x]) (rest := [.int (nI 0), .ref w]) hx hb hml hown hts hl.1 hK hKx hr0 (c_X6_value l hl0 D r C J G n Y X U Z F x hw) (gaV qM_L_46 qI_X6_value qS_X6_value qK_X6 qC_X6_value) hdv_X6_value ⟨(Nat.le_of_ble_eq_true rfl), (Nat.le_of_ble_eq_true rfl)⟩ hG (Sn.recv hK hG) rfl (Nat.le_of_ble_eq_true rfl) ⟨(Nat.le_of_ble_eq_true rfl), (Nat.le_of_ble_eq_true rfl)⟩ dL_value_4 hS hSH (fun ce q9 H locs hcx hG1 hz hq hS hce hv hcl => ?_) (fun H locs hc0 hG1 hz hq hS => ?_)
  · have hO1 : Ou D w O H := Ou.kept hO (hq w hO.lt (fun h => by unfold inS at h; omega))
    have hP9 : Sn D r C J G n Y X U Z F H ∧ Ou D w (ou O (fE_X6_value C x) (fR_X6_value C x).toInt64) H := ⟨hG1, by unfold ou; rw [if_neg hcx]; exact hO1⟩
    have hk : fE_X6_value C x = 1 := ec_value.elim (fun h => absurd h hcx) (fun h => h.elim id id)
    rw [hk] at hcl
    refine vx_catch (name := exN 1) (E := exN 1) hown [] (⟨0, 9, 12, 13⟩ : ExceptionTableEntry) [] (by rw [htab]; rfl) (fun z hz => absurd hz List.not_mem_nil) (by decide) (by decide) (hts _ qL_L_13) (va_Nw.use rfl (hKx.2.2.2.1 _ (ex_cast 1 (by decide)))) hce hv hcl ?_
    refine lv_astore_n (lv' := [(3, .ref q9), (0, .ref r), (1, .int x), (2, .ref w)]) hx hb dL_value_12 rfl hl (by decide) rfl (fun ls hl => ?_)
    refine lv_iconst (v := 1) hx hb dL_value_13 (by decide) ?_
    refine vx_ret (W.widen (k := 1) (n := 6) (by omega) (by omega) ?_)
    exact W.iret hx hb hr (fun t ht hW => gQi_of (by show _ = kq 1 (fE_X6_value C x); rw [hk]; rfl) hP9 hS ht) hS.2.2 dL_value_14
  · have hO1 : Ou D w O H := Ou.kept hO (hq w hO.lt (fun h => by unfold inS at h; omega))
    refine lv_i2l (v := (fR_X6_value C x).toInt64) hx hb dL_value_7 rfl ?_
    refine qlast hx hb hK hG1 hO1 hrw hS hA dL_value_8 (fun H locs hG1 hO1 hS => ?_)
    refine lv_goto (tgt := 15) hx hb dL_value_9 (by decide) ?_
    refine lv_iconst (v := 0) hx hb dL_value_15 (by decide) ?_
    have hP9 : Sn D r C J G n Y X U Z F H ∧ Ou D w (ou O (fE_X6_value C x) (fR_X6_value C x).toInt64) H := ⟨hG1, by unfold ou; rw [if_pos hc0]; exact hO1⟩
    refine vx_ret (W.widen (k := 1) (n := 6) (by omega) (by omega) ?_)
    exact W.iret hx hb hr (fun t ht hW => gQi_of (by show _ = kq 1 (fE_X6_value C x); rw [hc0]; rfl) hP9 hS ht) hS.2.2 dL_value_16
theorem hds_L_street : yL_street.cls ≠ "java/lang/invoke/MethodHandle" ∧ yL_street.cls ≠ "java/lang/invoke/VarHandle" ∧ (parseMethodDescriptor yL_street.desc).map (fun d => d.parameters.length) = some 4 := by decide +kernel
set_option maxHeartbeats 4000000 in
set_option maxRecDepth 100000 in
theorem c_L_street (l : Launch) (hl0 : l.stackTraces = false) (D : va_G) (r w : Nat) (hrw : r + 206 ≤ w) (C : Nat → Int32) (J : Nat → Int32) (G : Nat → Nat → Int32) (n : Nat) (Y : Nat → Int32) (X : Nat → Int32) (U : Nat → Int32) (Z : Nat → Int32) (F : Nat → Int32) (O : Nat → Int64) (x : Int32) (y : Int32) (hw : WF C) : vx_Met l yL_street (wH yL_street cL_street 5 (some .int) [(0, 10, 13, 23), (0, 10, 17, 13)]) (rmX 9 2 12) (xPc D r [.ref r, .int x, .int y, .ref w] (fun H => Sn D r C J G n Y X U Z F H ∧ Ou D w O H)) (gQi (inH r w) (kq 3 (fE_X6_street C x y)) (fun H => Sn D r C J G n Y X U Z F H ∧ Ou D w (ou O (fE_X6_street C x y) (fR_X6_street C x y).toInt64) H)) (fun _ _ _ => False) 2 12 (inH r w) := by
  refine vx_ofWH (cc := cL_street) (maxL := 5) (ret := (some .int)) (by decide) rfl ?_
  intro p e s m args below meth c s₁ B hml hv
  obtain ⟨hav, ⟨hG, hO⟩, hK, hKx⟩ := hv
  have hx := B.exec
  have hb := B.bytes
  have hr := B.returns
  have hts0 := atoms_spec (ws := wH yL_street cL_street 5 (some .int) [(0, 10, 13, 23), (0, 10, 17, 13)]) B.pre
  have htab := vx_table (x := yL_street) B (hts0 _ List.mem_cons_self)
  have hts : ∀ w ∈ AW, w.before _ s = true := fun w h => hts0 w (List.mem_cons_of_mem _ h)
  have hown : s.vm.findClass RL = some m.cls := findClass_of_methodNamed B.named
  have hlocks := B.notSynchronized
  have hr0 : ∀ q, inH r w q → r ≤ q := fun q h => h.elim (fun h => h.1) (fun h => by omega)
  have hSH : ∀ q, inS r q → inH r w q := fun q h => Or.inl h
  have hA : ∀ q, inH r w q → inH r w q := fun _ h => h
  have hS : va_S (inH r w) s.heap s.heap [] := va_S.rf
  have hG : Sn D r C J G n Y X U Z F s.heap := hG
  have hl := lv_entry ([.ref r, .int x, .int y, .ref w]) (n := 5) (Nat.le_of_ble_eq_true rfl)
  refine W.eq (g2 := entryFrame m ([.ref r, .int x, .int y, .ref w] : List Value).toArray 5) (by rw [hav]) ?_
  rw [lg_entry_eq]
  generalize (lg_sl ([.ref r, .int x, .int y, .ref w]) ++ List.replicate (5 - (lg_sl ([.ref r, .int x, .int y, .ref w])).length) Slot.unset).toArray = ls at hl ⊢
  have hl : lv_has ls 5 [(0, .ref r), (1, .int x), (2, .int y), (3, .ref w)] := hl
  refine lv_aload_n hx hb dL_street_0 rfl (lv_at hl 3 rfl) ?_
  refine lv_iconst (v := 0) hx hb dL_street_1 (by decide) ?_
  refine topN (n := 0) rfl ?_
  refine lv_aload_n hx hb dL_street_2 rfl (lv_at hl 0 rfl) ?_
  refine lv_iload_n hx hb dL_street_3 rfl (lv_at hl 1 rfl) ?_
  refine lv_iload_n hx hb dL_street_4 rfl (lv_at hl 2 rfl) ?_
  refine xcVi (As := [.int x, .int y]) (rest := [.int (nI 0), .ref w]) hx hb hml hown hts hl.1 hK hKx hr0 (c_X6_street l hl0 D r C J G n Y X U Z F x y hw) (gaV qM_L_49 qI_X6_street qS_X6_street qK_X6 qC_X6_street) hdv_X6_street ⟨(Nat.le_of_ble_eq_true rfl), (Nat.le_of_ble_eq_true rfl)⟩ hG (Sn.recv hK hG) rfl (Nat.le_of_ble_eq_true rfl) ⟨(Nat.le_of_ble_eq_true rfl), (Nat.le_of_ble_eq_true rfl)⟩ dL_street_5 hS hSH (fun ce q9 H locs hcx hG1 hz hq hS hce hv hcl => ?_) (fun H locs hc0 hG1 hz hq hS => ?_)
  · have hO1 : Ou D w O H := Ou.kept hO (hq w hO.lt (fun h => by unfold inS at h; omega))
    have hP9 : Sn D r C J G n Y X U Z F H ∧ Ou D w (ou O (fE_X6_street C x y) (fR_X6_street C x y).toInt64) H := ⟨hG1, by unfold ou; rw [if_neg hcx]; exact hO1⟩
    rcases ec_street.elim (fun h => absurd h hcx) id with hk | hk
    · rw [hk] at hcl
      refine vx_catch (name := exN 3) (E := exN 3) hown [] (⟨0, 10, 13, 23⟩ : ExceptionTableEntry) [(⟨0, 10, 17, 13⟩ : ExceptionTableEntry)] (by rw [htab]; rfl) (fun z hz => absurd hz List.not_mem_nil) (by decide) (by decide) (hts _ qL_L_23) (va_Nw.use rfl (hKx.2.2.2.1 _ (ex_cast 3 (by decide)))) hce hv hcl ?_
      refine lv_astore (lv' := [(4, .ref q9), (0, .ref r), (1, .int x), (2, .int y), (3, .ref w)]) hx hb dL_street_13 hl (by decide) rfl (fun ls hl => ?_)
      refine lv_iconst (v := 1) hx hb dL_street_15 (by decide) ?_
      refine vx_ret (W.widen (k := 2) (n := 12) (by omega) (by omega) ?_)
      exact W.iret hx hb hr (fun t ht hW => gQi_of (by show _ = kq 3 (fE_X6_street C x y); rw [hk]; rfl) hP9 hS ht) hS.2.2 dL_street_16
    · rw [hk] at hcl
      refine vx_catch (name := exN 1) (E := exN 1) hown [(⟨0, 10, 13, 23⟩ : ExceptionTableEntry)] (⟨0, 10, 17, 13⟩ : ExceptionTableEntry) [] (by rw [htab]; rfl) (fun z hz => Or.inr (by rw [List.mem_singleton] at hz; subst hz; exact ⟨by decide, exN 3, hts _ qL_L_23, hKx.2.2.2.2 1 3 (by decide) (by decide) (by decide) (by decide) (by decide)⟩)) (by decide) (by decide) (hts _ qL_L_13) (va_Nw.use rfl (hKx.2.2.2.1 _ (ex_cast 1 (by decide)))) hce hv hcl ?_
      refine lv_astore (lv' := [(4, .ref q9), (0, .ref r), (1, .int x), (2, .int y), (3, .ref w)]) hx hb dL_street_17 hl (by decide) rfl (fun ls hl => ?_)
      refine lv_iconst (v := 2) hx hb dL_street_19 (by decide) ?_
      refine vx_ret (W.widen (k := 2) (n := 12) (by omega) (by omega) ?_)
      exact W.iret hx hb hr (fun t ht hW => gQi_of (by show _ = kq 3 (fE_X6_street C x y); rw [hk]; rfl) hP9 hS ht) hS.2.2 dL_street_20
  · have hO1 : Ou D w O H := Ou.kept hO (hq w hO.lt (fun h => by unfold inS at h; omega))
    refine lv_i2l (v := (fR_X6_street C x y).toInt64) hx hb dL_street_8 rfl ?_
    refine qlast hx hb hK hG1 hO1 hrw hS hA dL_street_9 (fun H locs hG1 hO1 hS => ?_)
    refine lv_goto (tgt := 21) hx hb dL_street_10 (by decide) ?_
    refine lv_iconst (v := 0) hx hb dL_street_21 (by decide) ?_
    have hP9 : Sn D r C J G n Y X U Z F H ∧ Ou D w (ou O (fE_X6_street C x y) (fR_X6_street C x y).toInt64) H := ⟨hG1, by unfold ou; rw [if_pos hc0]; exact hO1⟩
    refine vx_ret (W.widen (k := 2) (n := 12) (by omega) (by omega) ?_)
    exact W.iret hx hb hr (fun t ht hW => gQi_of (by show _ = kq 3 (fE_X6_street C x y); rw [hc0]; rfl) hP9 hS ht) hS.2.2 dL_street_22
theorem hds_L_plow : yL_plow.cls ≠ "java/lang/invoke/MethodHandle" ∧ yL_plow.cls ≠ "java/lang/invoke/VarHandle" ∧ (parseMethodDescriptor yL_plow.desc).map (fun d => d.parameters.length) = some 4 := by decide +kernel
set_option maxHeartbeats 4000000 in
set_option maxRecDepth 100000 in
theorem c_L_plow (l : Launch) (hl0 : l.stackTraces = false) (D : va_G) (r w : Nat) (hrw : r + 206 ≤ w) (C : Nat → Int32) (J : Nat → Int32) (G : Nat → Nat → Int32) (n : Nat) (Y : Nat → Int32) (X : Nat → Int32) (U : Nat → Int32) (Z : Nat → Int32) (F : Nat → Int32) (O : Nat → Int64) (pl : Int32) (y : Int32) (hN : okN C) : vx_Met l yL_plow (wH yL_plow cL_plow 5 (some .int) [(0, 10, 13, 23), (0, 10, 17, 13)]) (rmX 9 2 12) (xPc D r [.ref r, .int pl, .int y, .ref w] (fun H => Sn D r C J G n Y X U Z F H ∧ Ou D w O H)) (gQi (inH r w) (kq 3 (fE_X6_plow C pl y)) (fun H => Sn D r C J G n Y X U Z F H ∧ Ou D w (ou O (fE_X6_plow C pl y) (fR_X6_plow C pl y).toInt64) H)) (fun _ _ _ => False) 2 12 (inH r w) := by
  refine vx_ofWH (cc := cL_plow) (maxL := 5) (ret := (some .int)) (by decide) rfl ?_
  intro p e s m args below meth c s₁ B hml hv
  obtain ⟨hav, ⟨hG, hO⟩, hK, hKx⟩ := hv
  have hx := B.exec
  have hb := B.bytes
  have hr := B.returns
  have hts0 := atoms_spec (ws := wH yL_plow cL_plow 5 (some .int) [(0, 10, 13, 23), (0, 10, 17, 13)]) B.pre
  have htab := vx_table (x := yL_plow) B (hts0 _ List.mem_cons_self)
  have hts : ∀ w ∈ AW, w.before _ s = true := fun w h => hts0 w (List.mem_cons_of_mem _ h)
  have hown : s.vm.findClass RL = some m.cls := findClass_of_methodNamed B.named
  have hlocks := B.notSynchronized
  have hr0 : ∀ q, inH r w q → r ≤ q := fun q h => h.elim (fun h => h.1) (fun h => by omega)
  have hSH : ∀ q, inS r q → inH r w q := fun q h => Or.inl h
  have hA : ∀ q, inH r w q → inH r w q := fun _ h => h
  have hS : va_S (inH r w) s.heap s.heap [] := va_S.rf
  have hG : Sn D r C J G n Y X U Z F s.heap := hG
  have hl := lv_entry ([.ref r, .int pl, .int y, .ref w]) (n := 5) (Nat.le_of_ble_eq_true rfl)
  refine W.eq (g2 := entryFrame m ([.ref r, .int pl, .int y, .ref w] : List Value).toArray 5) (by rw [hav]) ?_
  rw [lg_entry_eq]
  generalize (lg_sl ([.ref r, .int pl, .int y, .ref w]) ++ List.replicate (5 - (lg_sl ([.ref r, .int pl, .int y, .ref w])).length) Slot.unset).toArray = ls at hl ⊢
  have hl : lv_has ls 5 [(0, .ref r), (1, .int pl), (2, .int y), (3, .ref w)] := hl
  refine lv_aload_n hx hb dL_plow_0 rfl (lv_at hl 3 rfl) ?_
  refine lv_iconst (v := 0) hx hb dL_plow_1 (by decide) ?_
  refine topN (n := 0) rfl ?_
  refine lv_aload_n hx hb dL_plow_2 rfl (lv_at hl 0 rfl) ?_
  refine lv_iload_n hx hb dL_plow_3 rfl (lv_at hl 1 rfl) ?_
  refine lv_iload_n hx hb dL_plow_4 rfl (lv_at hl 2 rfl) ?_
  refine xcVi (As := [.int pl, .int y]) (rest := [.int (nI 0), .ref w]) hx hb hml hown hts hl.1 hK hKx hr0 (c_X6_plow l hl0 D r C J G n Y X U Z F pl y hN) (gaV qM_L_52 qI_X6_plow qS_X6_plow qK_X6 qC_X6_plow) hdv_X6_plow ⟨(Nat.le_of_ble_eq_true rfl), (Nat.le_of_ble_eq_true rfl)⟩ hG (Sn.recv hK hG) rfl (Nat.le_of_ble_eq_true rfl) ⟨(Nat.le_of_ble_eq_true rfl), (Nat.le_of_ble_eq_true rfl)⟩ dL_plow_5 hS hSH (fun ce q9 H locs hcx hG1 hz hq hS hce hv hcl => ?_) (fun H locs hc0 hG1 hz hq hS => ?_)
  · have hO1 : Ou D w O H := Ou.kept hO (hq w hO.lt (fun h => by unfold inS at h; omega))
    have hP9 : Sn D r C J G n Y X U Z F H ∧ Ou D w (ou O (fE_X6_plow C pl y) (fR_X6_plow C pl y).toInt64) H := ⟨hG1, by unfold ou; rw [if_neg hcx]; exact hO1⟩
    rcases ec_plow.elim (fun h => absurd h hcx) id with hk | hk
    · rw [hk] at hcl
      refine vx_catch (name := exN 3) (E := exN 3) hown [] (⟨0, 10, 13, 23⟩ : ExceptionTableEntry) [(⟨0, 10, 17, 13⟩ : ExceptionTableEntry)] (by rw [htab]; rfl) (fun z hz => absurd hz List.not_mem_nil) (by decide) (by decide) (hts _ qL_L_23) (va_Nw.use rfl (hKx.2.2.2.1 _ (ex_cast 3 (by decide)))) hce hv hcl ?_
      refine lv_astore (lv' := [(4, .ref q9), (0, .ref r), (1, .int pl), (2, .int y), (3, .ref w)]) hx hb dL_plow_13 hl (by decide) rfl (fun ls hl => ?_)
      refine lv_iconst (v := 1) hx hb dL_plow_15 (by decide) ?_
      refine vx_ret (W.widen (k := 2) (n := 12) (by omega) (by omega) ?_)
      exact W.iret hx hb hr (fun t ht hW => gQi_of (by show _ = kq 3 (fE_X6_plow C pl y); rw [hk]; rfl) hP9 hS ht) hS.2.2 dL_plow_16
    · rw [hk] at hcl
      refine vx_catch (name := exN 1) (E := exN 1) hown [(⟨0, 10, 13, 23⟩ : ExceptionTableEntry)] (⟨0, 10, 17, 13⟩ : ExceptionTableEntry) [] (by rw [htab]; rfl) (fun z hz => Or.inr (by rw [List.mem_singleton] at hz; subst hz; exact ⟨by decide, exN 3, hts _ qL_L_23, hKx.2.2.2.2 1 3 (by decide) (by decide) (by decide) (by decide) (by decide)⟩)) (by decide) (by decide) (hts _ qL_L_13) (va_Nw.use rfl (hKx.2.2.2.1 _ (ex_cast 1 (by decide)))) hce hv hcl ?_
      refine lv_astore (lv' := [(4, .ref q9), (0, .ref r), (1, .int pl), (2, .int y), (3, .ref w)]) hx hb dL_plow_17 hl (by decide) rfl (fun ls hl => ?_)
      refine lv_iconst (v := 2) hx hb dL_plow_19 (by decide) ?_
      refine vx_ret (W.widen (k := 2) (n := 12) (by omega) (by omega) ?_)
      exact W.iret hx hb hr (fun t ht hW => gQi_of (by show _ = kq 3 (fE_X6_plow C pl y); rw [hk]; rfl) hP9 hS ht) hS.2.2 dL_plow_20
  · have hO1 : Ou D w O H := Ou.kept hO (hq w hO.lt (fun h => by unfold inS at h; omega))
    refine lv_i2l (v := (fR_X6_plow C pl y).toInt64) hx hb dL_plow_8 rfl ?_
    refine qlast hx hb hK hG1 hO1 hrw hS hA dL_plow_9 (fun H locs hG1 hO1 hS => ?_)
    refine lv_goto (tgt := 21) hx hb dL_plow_10 (by decide) ?_
    refine lv_iconst (v := 0) hx hb dL_plow_21 (by decide) ?_
    have hP9 : Sn D r C J G n Y X U Z F H ∧ Ou D w (ou O (fE_X6_plow C pl y) (fR_X6_plow C pl y).toInt64) H := ⟨hG1, by unfold ou; rw [if_pos hc0]; exact hO1⟩
    refine vx_ret (W.widen (k := 2) (n := 12) (by omega) (by omega) ?_)
    exact W.iret hx hb hr (fun t ht hW => gQi_of (by show _ = kq 3 (fE_X6_plow C pl y); rw [hc0]; rfl) hP9 hS ht) hS.2.2 dL_plow_22
theorem hds_L_stop : yL_stop.cls ≠ "java/lang/invoke/MethodHandle" ∧ yL_stop.cls ≠ "java/lang/invoke/VarHandle" ∧ (parseMethodDescriptor yL_stop.desc).map (fun d => d.parameters.length) = some 4 := by decide +kernel
set_option maxHeartbeats 4000000 in
set_option maxRecDepth 100000 in
theorem c_L_stop (l : Launch) (hl0 : l.stackTraces = false) (D : va_G) (r w : Nat) (hrw : r + 206 ≤ w) (C : Nat → Int32) (J : Nat → Int32) (G : Nat → Nat → Int32) (n : Nat) (Y : Nat → Int32) (X : Nat → Int32) (U : Nat → Int32) (Z : Nat → Int32) (F : Nat → Int32) (O : Nat → Int64) (pl : Int32) (y : Int32) (hN : okN C) (hQ : ∀ q, q < np C → okQ C q) : vx_Met l yL_stop (wH yL_stop cL_stop 5 (some .int) [(0, 10, 13, 23)]) (rmX 9 2 12) (xPc D r [.ref r, .int pl, .int y, .ref w] (fun H => Sn D r C J G n Y X U Z F H ∧ Ou D w O H)) (gQi (inH r w) (kq 3 (fE_X6_stop C pl y)) (fun H => Sn D r C J G n Y X U Z F H ∧ Ou D w (ou O (fE_X6_stop C pl y) (fR_X6_stop C pl y).toInt64) H)) (fun _ _ _ => False) 2 12 (inH r w) := by
  refine vx_ofWH (cc := cL_stop) (maxL := 5) (ret := (some .int)) (by decide) rfl ?_
  intro p e s m args below meth c s₁ B hml hv
  obtain ⟨hav, ⟨hG, hO⟩, hK, hKx⟩ := hv
  have hx := B.exec
  have hb := B.bytes
  have hr := B.returns
  have hts0 := atoms_spec (ws := wH yL_stop cL_stop 5 (some .int) [(0, 10, 13, 23)]) B.pre
  have htab := vx_table (x := yL_stop) B (hts0 _ List.mem_cons_self)
  have hts : ∀ w ∈ AW, w.before _ s = true := fun w h => hts0 w (List.mem_cons_of_mem _ h)
  have hown : s.vm.findClass RL = some m.cls := findClass_of_methodNamed B.named
  have hlocks := B.notSynchronized
  have hr0 : ∀ q, inH r w q → r ≤ q := fun q h => h.elim (fun h => h.1) (fun h => by omega)
  have hSH : ∀ q, inS r q → inH r w q := fun q h => Or.inl h
  have hA : ∀ q, inH r w q → inH r w q := fun _ h => h
  have hS : va_S (inH r w) s.heap s.heap [] := va_S.rf
  have hG : Sn D r C J G n Y X U Z F s.heap := hG
  have hl := lv_entry ([.ref r, .int pl, .int y, .ref w]) (n := 5) (Nat.le_of_ble_eq_true rfl)
  refine W.eq (g2 := entryFrame m ([.ref r, .int pl, .int y, .ref w] : List Value).toArray 5) (by rw [hav]) ?_
  rw [lg_entry_eq]
  generalize (lg_sl ([.ref r, .int pl, .int y, .ref w]) ++ List.replicate (5 - (lg_sl ([.ref r, .int pl, .int y, .ref w])).length) Slot.unset).toArray = ls at hl ⊢
  have hl : lv_has ls 5 [(0, .ref r), (1, .int pl), (2, .int y), (3, .ref w)] := hl
  refine lv_aload_n hx hb dL_stop_0 rfl (lv_at hl 3 rfl) ?_
  refine lv_iconst (v := 0) hx hb dL_stop_1 (by decide) ?_
  refine topN (n := 0) rfl ?_
  refine lv_aload_n hx hb dL_stop_2 rfl (lv_at hl 0 rfl) ?_
  refine lv_iload_n hx hb dL_stop_3 rfl (lv_at hl 1 rfl) ?_
  refine lv_iload_n hx hb dL_stop_4 rfl (lv_at hl 2 rfl) ?_
  refine xcVi (As := [.int pl, .int y]) (rest := [.int (nI 0), .ref w]) hx hb hml hown hts hl.1 hK hKx hr0 (c_X6_stop l hl0 D r C J G n Y X U Z F pl y hN hQ) (gaV qM_L_55 qI_X6_stop qS_X6_stop qK_X6 qC_X6_stop) hdv_X6_stop ⟨(Nat.le_of_ble_eq_true rfl), (Nat.le_of_ble_eq_true rfl)⟩ hG (Sn.recv hK hG) rfl (Nat.le_of_ble_eq_true rfl) ⟨(Nat.le_of_ble_eq_true rfl), (Nat.le_of_ble_eq_true rfl)⟩ dL_stop_5 hS hSH (fun ce q9 H locs hcx hG1 hz hq hS hce hv hcl => ?_) (fun H locs hc0 hG1 hz hq hS => ?_)
  · have hO1 : Ou D w O H := Ou.kept hO (hq w hO.lt (fun h => by unfold inS at h; omega))
    have hP9 : Sn D r C J G n Y X U Z F H ∧ Ou D w (ou O (fE_X6_stop C pl y) (fR_X6_stop C pl y).toInt64) H := ⟨hG1, by unfold ou; rw [if_neg hcx]; exact hO1⟩
    have hk : fE_X6_stop C pl y = 3 := ec_stop.elim (fun h => absurd h hcx) (fun h => h.elim id id)
    rw [hk] at hcl
    refine vx_catch (name := exN 3) (E := exN 3) hown [] (⟨0, 10, 13, 23⟩ : ExceptionTableEntry) [] (by rw [htab]; rfl) (fun z hz => absurd hz List.not_mem_nil) (by decide) (by decide) (hts _ qL_L_23) (va_Nw.use rfl (hKx.2.2.2.1 _ (ex_cast 3 (by decide)))) hce hv hcl ?_
    refine lv_astore (lv' := [(4, .ref q9), (0, .ref r), (1, .int pl), (2, .int y), (3, .ref w)]) hx hb dL_stop_13 hl (by decide) rfl (fun ls hl => ?_)
    refine lv_iconst (v := 1) hx hb dL_stop_15 (by decide) ?_
    refine vx_ret (W.widen (k := 2) (n := 12) (by omega) (by omega) ?_)
    exact W.iret hx hb hr (fun t ht hW => gQi_of (by show _ = kq 3 (fE_X6_stop C pl y); rw [hk]; rfl) hP9 hS ht) hS.2.2 dL_stop_16
  · have hO1 : Ou D w O H := Ou.kept hO (hq w hO.lt (fun h => by unfold inS at h; omega))
    refine lv_i2l (v := (fR_X6_stop C pl y).toInt64) hx hb dL_stop_8 rfl ?_
    refine qlast hx hb hK hG1 hO1 hrw hS hA dL_stop_9 (fun H locs hG1 hO1 hS => ?_)
    refine lv_goto (tgt := 17) hx hb dL_stop_10 (by decide) ?_
    refine lv_iconst (v := 0) hx hb dL_stop_17 (by decide) ?_
    have hP9 : Sn D r C J G n Y X U Z F H ∧ Ou D w (ou O (fE_X6_stop C pl y) (fR_X6_stop C pl y).toInt64) H := ⟨hG1, by unfold ou; rw [if_pos hc0]; exact hO1⟩
    refine vx_ret (W.widen (k := 2) (n := 12) (by omega) (by omega) ?_)
    exact W.iret hx hb hr (fun t ht hW => gQi_of (by show _ = kq 3 (fE_X6_stop C pl y); rw [hc0]; rfl) hP9 hS ht) hS.2.2 dL_stop_18
theorem hds_L_terms : yL_terms.cls ≠ "java/lang/invoke/MethodHandle" ∧ yL_terms.cls ≠ "java/lang/invoke/VarHandle" ∧ (parseMethodDescriptor yL_terms.desc).map (fun d => d.parameters.length) = some 4 := by decide +kernel
set_option maxHeartbeats 4000000 in
set_option maxRecDepth 100000 in
theorem c_L_terms (l : Launch) (hl0 : l.stackTraces = false) (D : va_G) (r w : Nat) (hrw : r + 206 ≤ w) (C : Nat → Int32) (J : Nat → Int32) (G : Nat → Nat → Int32) (n : Nat) (Y : Nat → Int32) (X : Nat → Int32) (U : Nat → Int32) (Z : Nat → Int32) (F : Nat → Int32) (O : Nat → Int64) (x : Int32) (y : Int32) : vx_Met l yL_terms (wH yL_terms cL_terms 5 (some .int) [(0, 10, 13, 23), (0, 10, 17, 13)]) (rmX 8 2 12) (xPc D r [.ref r, .int x, .int y, .ref w] (fun H => Sn D r C J G n Y X U Z F H ∧ Ou D w O H)) (gQi (inH r w) (kq 3 (fE_X6_terms C x y)) (fun H => Sn D r C J G n Y X U Z F H ∧ Ou D w (ou O (fE_X6_terms C x y) (fR_X6_terms C x y).toInt64) H)) (fun _ _ _ => False) 2 12 (inH r w) := by
  refine vx_ofWH (cc := cL_terms) (maxL := 5) (ret := (some .int)) (by decide) rfl ?_
  intro p e s m args below meth c s₁ B hml hv
  obtain ⟨hav, ⟨hG, hO⟩, hK, hKx⟩ := hv
  have hx := B.exec
  have hb := B.bytes
  have hr := B.returns
  have hts0 := atoms_spec (ws := wH yL_terms cL_terms 5 (some .int) [(0, 10, 13, 23), (0, 10, 17, 13)]) B.pre
  have htab := vx_table (x := yL_terms) B (hts0 _ List.mem_cons_self)
  have hts : ∀ w ∈ AW, w.before _ s = true := fun w h => hts0 w (List.mem_cons_of_mem _ h)
  have hown : s.vm.findClass RL = some m.cls := findClass_of_methodNamed B.named
  have hlocks := B.notSynchronized
  have hr0 : ∀ q, inH r w q → r ≤ q := fun q h => h.elim (fun h => h.1) (fun h => by omega)
  have hSH : ∀ q, inS r q → inH r w q := fun q h => Or.inl h
  have hA : ∀ q, inH r w q → inH r w q := fun _ h => h
  have hS : va_S (inH r w) s.heap s.heap [] := va_S.rf
  have hG : Sn D r C J G n Y X U Z F s.heap := hG
  have hl := lv_entry ([.ref r, .int x, .int y, .ref w]) (n := 5) (Nat.le_of_ble_eq_true rfl)
  refine W.eq (g2 := entryFrame m ([.ref r, .int x, .int y, .ref w] : List Value).toArray 5) (by rw [hav]) ?_
  rw [lg_entry_eq]
  generalize (lg_sl ([.ref r, .int x, .int y, .ref w]) ++ List.replicate (5 - (lg_sl ([.ref r, .int x, .int y, .ref w])).length) Slot.unset).toArray = ls at hl ⊢
  have hl : lv_has ls 5 [(0, .ref r), (1, .int x), (2, .int y), (3, .ref w)] := hl
  refine lv_aload_n hx hb dL_terms_0 rfl (lv_at hl 3 rfl) ?_
  refine lv_iconst (v := 0) hx hb dL_terms_1 (by decide) ?_
  refine topN (n := 0) rfl ?_
  refine lv_aload_n hx hb dL_terms_2 rfl (lv_at hl 0 rfl) ?_
  refine lv_iload_n hx hb dL_terms_3 rfl (lv_at hl 1 rfl) ?_
  refine lv_iload_n hx hb dL_terms_4 rfl (lv_at hl 2 rfl) ?_
  refine xcVi (As := [.int x, .int y]) (rest := [.int (nI 0), .ref w]) hx hb hml hown hts hl.1 hK hKx hr0 (c_X6_terms l hl0 D r C J G n Y X U Z F x y) (gaV qM_L_58 qI_X6_terms qS_X6_terms qK_X6 qC_X6_terms) hdv_X6_terms ⟨(Nat.le_of_ble_eq_true rfl), (Nat.le_of_ble_eq_true rfl)⟩ hG (Sn.recv hK hG) rfl (Nat.le_of_ble_eq_true rfl) ⟨(Nat.le_of_ble_eq_true rfl), (Nat.le_of_ble_eq_true rfl)⟩ dL_terms_5 hS hSH (fun ce q9 H locs hcx hG1 hz hq hS hce hv hcl => ?_) (fun H locs hc0 hG1 hz hq hS => ?_)
  · have hO1 : Ou D w O H := Ou.kept hO (hq w hO.lt (fun h => by unfold inS at h; omega))
    have hP9 : Sn D r C J G n Y X U Z F H ∧ Ou D w (ou O (fE_X6_terms C x y) (fR_X6_terms C x y).toInt64) H := ⟨hG1, by unfold ou; rw [if_neg hcx]; exact hO1⟩
    rcases ec_terms.elim (fun h => absurd h hcx) id with hk | hk
    · rw [hk] at hcl
      refine vx_catch (name := exN 3) (E := exN 3) hown [] (⟨0, 10, 13, 23⟩ : ExceptionTableEntry) [(⟨0, 10, 17, 13⟩ : ExceptionTableEntry)] (by rw [htab]; rfl) (fun z hz => absurd hz List.not_mem_nil) (by decide) (by decide) (hts _ qL_L_23) (va_Nw.use rfl (hKx.2.2.2.1 _ (ex_cast 3 (by decide)))) hce hv hcl ?_
      refine lv_astore (lv' := [(4, .ref q9), (0, .ref r), (1, .int x), (2, .int y), (3, .ref w)]) hx hb dL_terms_13 hl (by decide) rfl (fun ls hl => ?_)
      refine lv_iconst (v := 1) hx hb dL_terms_15 (by decide) ?_
      refine vx_ret (W.widen (k := 2) (n := 12) (by omega) (by omega) ?_)
      exact W.iret hx hb hr (fun t ht hW => gQi_of (by show _ = kq 3 (fE_X6_terms C x y); rw [hk]; rfl) hP9 hS ht) hS.2.2 dL_terms_16
    · rw [hk] at hcl
      refine vx_catch (name := exN 1) (E := exN 1) hown [(⟨0, 10, 13, 23⟩ : ExceptionTableEntry)] (⟨0, 10, 17, 13⟩ : ExceptionTableEntry) [] (by rw [htab]; rfl) (fun z hz => Or.inr (by rw [List.mem_singleton] at hz; subst hz; exact ⟨by decide, exN 3, hts _ qL_L_23, hKx.2.2.2.2 1 3 (by decide) (by decide) (by decide) (by decide) (by decide)⟩)) (by decide) (by decide) (hts _ qL_L_13) (va_Nw.use rfl (hKx.2.2.2.1 _ (ex_cast 1 (by decide)))) hce hv hcl ?_
      refine lv_astore (lv' := [(4, .ref q9), (0, .ref r), (1, .int x), (2, .int y), (3, .ref w)]) hx hb dL_terms_17 hl (by decide) rfl (fun ls hl => ?_)
      refine lv_iconst (v := 2) hx hb dL_terms_19 (by decide) ?_
      refine vx_ret (W.widen (k := 2) (n := 12) (by omega) (by omega) ?_)
      exact W.iret hx hb hr (fun t ht hW => gQi_of (by show _ = kq 3 (fE_X6_terms C x y); rw [hk]; rfl) hP9 hS ht) hS.2.2 dL_terms_20
  · have hO1 : Ou D w O H := Ou.kept hO (hq w hO.lt (fun h => by unfold inS at h; omega))
    refine lv_i2l (v := (fR_X6_terms C x y).toInt64) hx hb dL_terms_8 rfl ?_
    refine qlast hx hb hK hG1 hO1 hrw hS hA dL_terms_9 (fun H locs hG1 hO1 hS => ?_)
    refine lv_goto (tgt := 21) hx hb dL_terms_10 (by decide) ?_
    refine lv_iconst (v := 0) hx hb dL_terms_21 (by decide) ?_
    have hP9 : Sn D r C J G n Y X U Z F H ∧ Ou D w (ou O (fE_X6_terms C x y) (fR_X6_terms C x y).toInt64) H := ⟨hG1, by unfold ou; rw [if_pos hc0]; exact hO1⟩
    refine vx_ret (W.widen (k := 2) (n := 12) (by omega) (by omega) ?_)
    exact W.iret hx hb hr (fun t ht hW => gQi_of (by show _ = kq 3 (fE_X6_terms C x y); rw [hc0]; rfl) hP9 hS ht) hS.2.2 dL_terms_22
theorem hds_L_creditsIn : yL_creditsIn.cls ≠ "java/lang/invoke/MethodHandle" ∧ yL_creditsIn.cls ≠ "java/lang/invoke/VarHandle" ∧ (parseMethodDescriptor yL_creditsIn.desc).map (fun d => d.parameters.length) = some 5 := by decide +kernel
set_option maxHeartbeats 4000000 in
set_option maxRecDepth 100000 in
theorem c_L_creditsIn (l : Launch) (hl0 : l.stackTraces = false) (D : va_G) (r w : Nat) (hrw : r + 206 ≤ w) (C : Nat → Int32) (J : Nat → Int32) (G : Nat → Nat → Int32) (n : Nat) (Y : Nat → Int32) (X : Nat → Int32) (U : Nat → Int32) (Z : Nat → Int32) (F : Nat → Int32) (O : Nat → Int64) (tmp : Int32) (sn : Int32) (hrs : Int32) (hI : hrI (ns C) (np C) (nc C) C) (hQ : ∀ q, q < np C → okQ C q) : vx_Met l yL_creditsIn (wH yL_creditsIn cL_creditsIn 6 (some .int) [(0, 12, 15, 13)]) (rmX 9 3 18) (xPc D r [.ref r, .int tmp, .int sn, .int hrs, .ref w] (fun H => Sn D r C J G n Y X U Z F H ∧ Ou D w O H)) (gQi (inH r w) (kq 1 (fE_X6_creditsIn C J tmp sn hrs)) (fun H => Sn D r C (fJ_X6_creditsIn C J tmp sn hrs) G n Y X U Z F H ∧ Ou D w (ou O (fE_X6_creditsIn C J tmp sn hrs) (fR_X6_creditsIn C J tmp sn hrs).toInt64) H)) (fun _ _ _ => False) 3 18 (inH r w) := by
  refine vx_ofWH (cc := cL_creditsIn) (maxL := 6) (ret := (some .int)) (by decide) rfl ?_
  intro p e s m args below meth c s₁ B hml hv
  obtain ⟨hav, ⟨hG, hO⟩, hK, hKx⟩ := hv
  have hx := B.exec
  have hb := B.bytes
  have hr := B.returns
  have hts0 := atoms_spec (ws := wH yL_creditsIn cL_creditsIn 6 (some .int) [(0, 12, 15, 13)]) B.pre
  have htab := vx_table (x := yL_creditsIn) B (hts0 _ List.mem_cons_self)
  have hts : ∀ w ∈ AW, w.before _ s = true := fun w h => hts0 w (List.mem_cons_of_mem _ h)
  have hown : s.vm.findClass RL = some m.cls := findClass_of_methodNamed B.named
  have hlocks := B.notSynchronized
  have hr0 : ∀ q, inH r w q → r ≤ q := fun q h => h.elim (fun h => h.1) (fun h => by omega)
  have hSH : ∀ q, inS r q → inH r w q := fun q h => Or.inl h
  have hA : ∀ q, inH r w q → inH r w q := fun _ h => h
  have hS : va_S (inH r w) s.heap s.heap [] := va_S.rf
  have hG : Sn D r C J G n Y X U Z F s.heap := hG
  have hl := lv_entry ([.ref r, .int tmp, .int sn, .int hrs, .ref w]) (n := 6) (Nat.le_of_ble_eq_true rfl)
  refine W.eq (g2 := entryFrame m ([.ref r, .int tmp, .int sn, .int hrs, .ref w] : List Value).toArray 6) (by rw [hav]) ?_
  rw [lg_entry_eq]
  generalize (lg_sl ([.ref r, .int tmp, .int sn, .int hrs, .ref w]) ++ List.replicate (6 - (lg_sl ([.ref r, .int tmp, .int sn, .int hrs, .ref w])).length) Slot.unset).toArray = ls at hl ⊢
  have hl : lv_has ls 6 [(0, .ref r), (1, .int tmp), (2, .int sn), (3, .int hrs), (4, .ref w)] := hl
  refine lv_aload hx hb dL_creditsIn_0 (lv_at hl 4 rfl) ?_
  refine lv_iconst (v := 0) hx hb dL_creditsIn_2 (by decide) ?_
  refine topN (n := 0) rfl ?_
  refine lv_aload_n hx hb dL_creditsIn_3 rfl (lv_at hl 0 rfl) ?_
  refine lv_iload_n hx hb dL_creditsIn_4 rfl (lv_at hl 1 rfl) ?_
  refine lv_iload_n hx hb dL_creditsIn_5 rfl (lv_at hl 2 rfl) ?_
  refine lv_iload_n hx hb dL_creditsIn_6 rfl (lv_at hl 3 rfl) ?_
  refine xcVi (As := [.int tmp, .int sn, .int hrs]) (rest := [.int (nI 0), .ref w]) hx hb hml hown hts hl.1 hK hKx hr0 (c_X6_creditsIn l hl0 D r C J G n Y X U Z F tmp sn hrs hI hQ) (gaV qM_L_61 qI_X6_creditsIn qS_X6_creditsIn qK_X6 qC_X6_creditsIn) hdv_X6_creditsIn ⟨(Nat.le_of_ble_eq_true rfl), (Nat.le_of_ble_eq_true rfl)⟩ hG (Sn.recv hK hG) rfl (Nat.le_of_ble_eq_true rfl) ⟨(Nat.le_of_ble_eq_true rfl), (Nat.le_of_ble_eq_true rfl)⟩ dL_creditsIn_7 hS hSH (fun ce q9 H locs hcx hG1 hz hq hS hce hv hcl => ?_) (fun H locs hc0 hG1 hz hq hS => ?_)
  · have hO1 : Ou D w O H := Ou.kept hO (hq w hO.lt (fun h => by unfold inS at h; omega))
    have hP9 : Sn D r C (fJ_X6_creditsIn C J tmp sn hrs) G n Y X U Z F H ∧ Ou D w (ou O (fE_X6_creditsIn C J tmp sn hrs) (fR_X6_creditsIn C J tmp sn hrs).toInt64) H := ⟨hG1, by unfold ou; rw [if_neg hcx]; exact hO1⟩
    have hk : fE_X6_creditsIn C J tmp sn hrs = 1 := ec_creditsIn.elim (fun h => absurd h hcx) (fun h => h.elim id id)
    rw [hk] at hcl
    refine vx_catch (name := exN 1) (E := exN 1) hown [] (⟨0, 12, 15, 13⟩ : ExceptionTableEntry) [] (by rw [htab]; rfl) (fun z hz => absurd hz List.not_mem_nil) (by decide) (by decide) (hts _ qL_L_13) (va_Nw.use rfl (hKx.2.2.2.1 _ (ex_cast 1 (by decide)))) hce hv hcl ?_
    refine lv_astore (lv' := [(5, .ref q9), (0, .ref r), (1, .int tmp), (2, .int sn), (3, .int hrs), (4, .ref w)]) hx hb dL_creditsIn_15 hl (by decide) rfl (fun ls hl => ?_)
    refine lv_iconst (v := 1) hx hb dL_creditsIn_17 (by decide) ?_
    refine vx_ret (W.widen (k := 3) (n := 18) (by omega) (by omega) ?_)
    exact W.iret hx hb hr (fun t ht hW => gQi_of (by show _ = kq 1 (fE_X6_creditsIn C J tmp sn hrs); rw [hk]; rfl) hP9 hS ht) hS.2.2 dL_creditsIn_18
  · have hO1 : Ou D w O H := Ou.kept hO (hq w hO.lt (fun h => by unfold inS at h; omega))
    refine lv_i2l (v := (fR_X6_creditsIn C J tmp sn hrs).toInt64) hx hb dL_creditsIn_10 rfl ?_
    refine qlast hx hb hK hG1 hO1 hrw hS hA dL_creditsIn_11 (fun H locs hG1 hO1 hS => ?_)
    refine lv_goto (tgt := 19) hx hb dL_creditsIn_12 (by decide) ?_
    refine lv_iconst (v := 0) hx hb dL_creditsIn_19 (by decide) ?_
    have hP9 : Sn D r C (fJ_X6_creditsIn C J tmp sn hrs) G n Y X U Z F H ∧ Ou D w (ou O (fE_X6_creditsIn C J tmp sn hrs) (fR_X6_creditsIn C J tmp sn hrs).toInt64) H := ⟨hG1, by unfold ou; rw [if_pos hc0]; exact hO1⟩
    refine vx_ret (W.widen (k := 3) (n := 18) (by omega) (by omega) ?_)
    exact W.iret hx hb hr (fun t ht hW => gQi_of (by show _ = kq 1 (fE_X6_creditsIn C J tmp sn hrs); rw [hc0]; rfl) hP9 hS ht) hS.2.2 dL_creditsIn_20
theorem hds_L_bestExchange : yL_bestExchange.cls ≠ "java/lang/invoke/MethodHandle" ∧ yL_bestExchange.cls ≠ "java/lang/invoke/VarHandle" ∧ (parseMethodDescriptor yL_bestExchange.desc).map (fun d => d.parameters.length) = some 6 := by decide +kernel
set_option maxHeartbeats 4000000 in
set_option maxRecDepth 100000 in
theorem c_L_bestExchange (l : Launch) (hl0 : l.stackTraces = false) (D : va_G) (r w : Nat) (hrw : r + 206 ≤ w) (C : Nat → Int32) (J : Nat → Int32) (G : Nat → Nat → Int32) (n : Nat) (Y : Nat → Int32) (X : Nat → Int32) (U : Nat → Int32) (Z : Nat → Int32) (F : Nat → Int32) (O : Nat → Int64) (pl : Int32) (tmp : Int32) (sn : Int32) (hrs : Int32) (hI : hrI (ns C) (np C) (nc C) C) (hQ : ∀ q, q < np C → okQ C q) : vx_Met l yL_bestExchange (wH yL_bestExchange cL_bestExchange 7 (some .int) [(0, 14, 17, 23), (0, 14, 21, 13)]) (rmX 9 4 24) (xPc D r [.ref r, .int pl, .int tmp, .int sn, .int hrs, .ref w] (fun H => Sn D r C J G n Y X U Z F H ∧ Ou D w O H)) (gQi (inH r w) (kq 3 (fE_X6_bestExchange C J pl tmp sn hrs)) (fun H => Sn D r C (fJ_X6_bestExchange C J pl tmp sn hrs) G n Y X U Z F H ∧ Ou D w (ou O (fE_X6_bestExchange C J pl tmp sn hrs) (fR_X6_bestExchange C J pl tmp sn hrs).toInt64) H)) (fun _ _ _ => False) 4 24 (inH r w) := by
  refine vx_ofWH (cc := cL_bestExchange) (maxL := 7) (ret := (some .int)) (by decide) rfl ?_
  intro p e s m args below meth c s₁ B hml hv
  obtain ⟨hav, ⟨hG, hO⟩, hK, hKx⟩ := hv
  have hx := B.exec
  have hb := B.bytes
  have hr := B.returns
  have hts0 := atoms_spec (ws := wH yL_bestExchange cL_bestExchange 7 (some .int) [(0, 14, 17, 23), (0, 14, 21, 13)]) B.pre
  have htab := vx_table (x := yL_bestExchange) B (hts0 _ List.mem_cons_self)
  have hts : ∀ w ∈ AW, w.before _ s = true := fun w h => hts0 w (List.mem_cons_of_mem _ h)
  have hown : s.vm.findClass RL = some m.cls := findClass_of_methodNamed B.named
  have hlocks := B.notSynchronized
  have hr0 : ∀ q, inH r w q → r ≤ q := fun q h => h.elim (fun h => h.1) (fun h => by omega)
  have hSH : ∀ q, inS r q → inH r w q := fun q h => Or.inl h
  have hA : ∀ q, inH r w q → inH r w q := fun _ h => h
  have hS : va_S (inH r w) s.heap s.heap [] := va_S.rf
  have hG : Sn D r C J G n Y X U Z F s.heap := hG
  have hl := lv_entry ([.ref r, .int pl, .int tmp, .int sn, .int hrs, .ref w]) (n := 7) (Nat.le_of_ble_eq_true rfl)
  refine W.eq (g2 := entryFrame m ([.ref r, .int pl, .int tmp, .int sn, .int hrs, .ref w] : List Value).toArray 7) (by rw [hav]) ?_
  rw [lg_entry_eq]
  generalize (lg_sl ([.ref r, .int pl, .int tmp, .int sn, .int hrs, .ref w]) ++ List.replicate (7 - (lg_sl ([.ref r, .int pl, .int tmp, .int sn, .int hrs, .ref w])).length) Slot.unset).toArray = ls at hl ⊢
  have hl : lv_has ls 7 [(0, .ref r), (1, .int pl), (2, .int tmp), (3, .int sn), (4, .int hrs), (5, .ref w)] := hl
  refine lv_aload hx hb dL_bestExchange_0 (lv_at hl 5 rfl) ?_
  refine lv_iconst (v := 0) hx hb dL_bestExchange_2 (by decide) ?_
  refine topN (n := 0) rfl ?_
  refine lv_aload_n hx hb dL_bestExchange_3 rfl (lv_at hl 0 rfl) ?_
  refine lv_iload_n hx hb dL_bestExchange_4 rfl (lv_at hl 1 rfl) ?_
  refine lv_iload_n hx hb dL_bestExchange_5 rfl (lv_at hl 2 rfl) ?_
  refine lv_iload_n hx hb dL_bestExchange_6 rfl (lv_at hl 3 rfl) ?_
  refine lv_iload hx hb dL_bestExchange_7 (lv_at hl 4 rfl) ?_
  refine xcVi (As := [.int pl, .int tmp, .int sn, .int hrs]) (rest := [.int (nI 0), .ref w]) hx hb hml hown hts hl.1 hK hKx hr0 (c_X6_bestExchange l hl0 D r C J G n Y X U Z F pl tmp sn hrs hI hQ) (gaV qM_L_64 qI_X6_bestExchange qS_X6_bestExchange qK_X6 qC_X6_bestExchange) hdv_X6_bestExchange ⟨(Nat.le_of_ble_eq_true rfl), (Nat.le_of_ble_eq_true rfl)⟩ hG (Sn.recv hK hG) rfl (Nat.le_of_ble_eq_true rfl) ⟨(Nat.le_of_ble_eq_true rfl), (Nat.le_of_ble_eq_true rfl)⟩ dL_bestExchange_9 hS hSH (fun ce q9 H locs hcx hG1 hz hq hS hce hv hcl => ?_) (fun H locs hc0 hG1 hz hq hS => ?_)
  · have hO1 : Ou D w O H := Ou.kept hO (hq w hO.lt (fun h => by unfold inS at h; omega))
    have hP9 : Sn D r C (fJ_X6_bestExchange C J pl tmp sn hrs) G n Y X U Z F H ∧ Ou D w (ou O (fE_X6_bestExchange C J pl tmp sn hrs) (fR_X6_bestExchange C J pl tmp sn hrs).toInt64) H := ⟨hG1, by unfold ou; rw [if_neg hcx]; exact hO1⟩
    rcases ec_bestExchange.elim (fun h => absurd h hcx) id with hk | hk
    · rw [hk] at hcl
      refine vx_catch (name := exN 3) (E := exN 3) hown [] (⟨0, 14, 17, 23⟩ : ExceptionTableEntry) [(⟨0, 14, 21, 13⟩ : ExceptionTableEntry)] (by rw [htab]; rfl) (fun z hz => absurd hz List.not_mem_nil) (by decide) (by decide) (hts _ qL_L_23) (va_Nw.use rfl (hKx.2.2.2.1 _ (ex_cast 3 (by decide)))) hce hv hcl ?_
      refine lv_astore (lv' := [(6, .ref q9), (0, .ref r), (1, .int pl), (2, .int tmp), (3, .int sn), (4, .int hrs), (5, .ref w)]) hx hb dL_bestExchange_17 hl (by decide) rfl (fun ls hl => ?_)
      refine lv_iconst (v := 1) hx hb dL_bestExchange_19 (by decide) ?_
      refine vx_ret (W.widen (k := 4) (n := 24) (by omega) (by omega) ?_)
      exact W.iret hx hb hr (fun t ht hW => gQi_of (by show _ = kq 3 (fE_X6_bestExchange C J pl tmp sn hrs); rw [hk]; rfl) hP9 hS ht) hS.2.2 dL_bestExchange_20
    · rw [hk] at hcl
      refine vx_catch (name := exN 1) (E := exN 1) hown [(⟨0, 14, 17, 23⟩ : ExceptionTableEntry)] (⟨0, 14, 21, 13⟩ : ExceptionTableEntry) [] (by rw [htab]; rfl) (fun z hz => Or.inr (by rw [List.mem_singleton] at hz; subst hz; exact ⟨by decide, exN 3, hts _ qL_L_23, hKx.2.2.2.2 1 3 (by decide) (by decide) (by decide) (by decide) (by decide)⟩)) (by decide) (by decide) (hts _ qL_L_13) (va_Nw.use rfl (hKx.2.2.2.1 _ (ex_cast 1 (by decide)))) hce hv hcl ?_
      refine lv_astore (lv' := [(6, .ref q9), (0, .ref r), (1, .int pl), (2, .int tmp), (3, .int sn), (4, .int hrs), (5, .ref w)]) hx hb dL_bestExchange_21 hl (by decide) rfl (fun ls hl => ?_)
      refine lv_iconst (v := 2) hx hb dL_bestExchange_23 (by decide) ?_
      refine vx_ret (W.widen (k := 4) (n := 24) (by omega) (by omega) ?_)
      exact W.iret hx hb hr (fun t ht hW => gQi_of (by show _ = kq 3 (fE_X6_bestExchange C J pl tmp sn hrs); rw [hk]; rfl) hP9 hS ht) hS.2.2 dL_bestExchange_24
  · have hO1 : Ou D w O H := Ou.kept hO (hq w hO.lt (fun h => by unfold inS at h; omega))
    refine lv_i2l (v := (fR_X6_bestExchange C J pl tmp sn hrs).toInt64) hx hb dL_bestExchange_12 rfl ?_
    refine qlast hx hb hK hG1 hO1 hrw hS hA dL_bestExchange_13 (fun H locs hG1 hO1 hS => ?_)
    refine lv_goto (tgt := 25) hx hb dL_bestExchange_14 (by decide) ?_
    refine lv_iconst (v := 0) hx hb dL_bestExchange_25 (by decide) ?_
    have hP9 : Sn D r C (fJ_X6_bestExchange C J pl tmp sn hrs) G n Y X U Z F H ∧ Ou D w (ou O (fE_X6_bestExchange C J pl tmp sn hrs) (fR_X6_bestExchange C J pl tmp sn hrs).toInt64) H := ⟨hG1, by unfold ou; rw [if_pos hc0]; exact hO1⟩
    refine vx_ret (W.widen (k := 4) (n := 24) (by omega) (by omega) ?_)
    exact W.iret hx hb hr (fun t ht hW => gQi_of (by show _ = kq 3 (fE_X6_bestExchange C J pl tmp sn hrs); rw [hc0]; rfl) hP9 hS ht) hS.2.2 dL_bestExchange_26
theorem hds_L_leastSpeed : yL_leastSpeed.cls ≠ "java/lang/invoke/MethodHandle" ∧ yL_leastSpeed.cls ≠ "java/lang/invoke/VarHandle" ∧ (parseMethodDescriptor yL_leastSpeed.desc).map (fun d => d.parameters.length) = some 6 := by decide +kernel
set_option maxHeartbeats 4000000 in
set_option maxRecDepth 100000 in
theorem c_L_leastSpeed (l : Launch) (hl0 : l.stackTraces = false) (D : va_G) (r w : Nat) (hrw : r + 206 ≤ w) (C : Nat → Int32) (J : Nat → Int32) (G : Nat → Nat → Int32) (n : Nat) (Y : Nat → Int32) (X : Nat → Int32) (U : Nat → Int32) (Z : Nat → Int32) (F : Nat → Int32) (O : Nat → Int64) (pl : Int32) (tmp : Int32) (sn : Int32) (hrs : Int32) (hI : hrI (ns C) (np C) (nc C) C) (hQ : ∀ q, q < np C → okQ C q) : vx_Met l yL_leastSpeed (wH yL_leastSpeed cL_leastSpeed 7 (some .int) [(0, 14, 17, 23), (0, 14, 21, 13)]) (rmX 9 4 24) (xPc D r [.ref r, .int pl, .int tmp, .int sn, .int hrs, .ref w] (fun H => Sn D r C J G n Y X U Z F H ∧ Ou D w O H)) (gQi (inH r w) (kq 3 (fE_X6_leastSpeed C J pl tmp sn hrs)) (fun H => Sn D r C (fJ_X6_leastSpeed C J pl tmp sn hrs) G n Y X U Z F H ∧ Ou D w (ou O (fE_X6_leastSpeed C J pl tmp sn hrs) (fR_X6_leastSpeed C J pl tmp sn hrs).toInt64) H)) (fun _ _ _ => False) 4 24 (inH r w) := by
  refine vx_ofWH (cc := cL_leastSpeed) (maxL := 7) (ret := (some .int)) (by decide) rfl ?_
  intro p e s m args below meth c s₁ B hml hv
  obtain ⟨hav, ⟨hG, hO⟩, hK, hKx⟩ := hv
  have hx := B.exec
  have hb := B.bytes
  have hr := B.returns
  have hts0 := atoms_spec (ws := wH yL_leastSpeed cL_leastSpeed 7 (some .int) [(0, 14, 17, 23), (0, 14, 21, 13)]) B.pre
  have htab := vx_table (x := yL_leastSpeed) B (hts0 _ List.mem_cons_self)
  have hts : ∀ w ∈ AW, w.before _ s = true := fun w h => hts0 w (List.mem_cons_of_mem _ h)
  have hown : s.vm.findClass RL = some m.cls := findClass_of_methodNamed B.named
  have hlocks := B.notSynchronized
  have hr0 : ∀ q, inH r w q → r ≤ q := fun q h => h.elim (fun h => h.1) (fun h => by omega)
  have hSH : ∀ q, inS r q → inH r w q := fun q h => Or.inl h
  have hA : ∀ q, inH r w q → inH r w q := fun _ h => h
  have hS : va_S (inH r w) s.heap s.heap [] := va_S.rf
  have hG : Sn D r C J G n Y X U Z F s.heap := hG
  have hl := lv_entry ([.ref r, .int pl, .int tmp, .int sn, .int hrs, .ref w]) (n := 7) (Nat.le_of_ble_eq_true rfl)
  refine W.eq (g2 := entryFrame m ([.ref r, .int pl, .int tmp, .int sn, .int hrs, .ref w] : List Value).toArray 7) (by rw [hav]) ?_
  rw [lg_entry_eq]
  generalize (lg_sl ([.ref r, .int pl, .int tmp, .int sn, .int hrs, .ref w]) ++ List.replicate (7 - (lg_sl ([.ref r, .int pl, .int tmp, .int sn, .int hrs, .ref w])).length) Slot.unset).toArray = ls at hl ⊢
  have hl : lv_has ls 7 [(0, .ref r), (1, .int pl), (2, .int tmp), (3, .int sn), (4, .int hrs), (5, .ref w)] := hl
  refine lv_aload hx hb dL_leastSpeed_0 (lv_at hl 5 rfl) ?_
  refine lv_iconst (v := 0) hx hb dL_leastSpeed_2 (by decide) ?_
  refine topN (n := 0) rfl ?_
  refine lv_aload_n hx hb dL_leastSpeed_3 rfl (lv_at hl 0 rfl) ?_
  refine lv_iload_n hx hb dL_leastSpeed_4 rfl (lv_at hl 1 rfl) ?_
  refine lv_iload_n hx hb dL_leastSpeed_5 rfl (lv_at hl 2 rfl) ?_
  refine lv_iload_n hx hb dL_leastSpeed_6 rfl (lv_at hl 3 rfl) ?_
  refine lv_iload hx hb dL_leastSpeed_7 (lv_at hl 4 rfl) ?_
  refine xcVi (As := [.int pl, .int tmp, .int sn, .int hrs]) (rest := [.int (nI 0), .ref w]) hx hb hml hown hts hl.1 hK hKx hr0 (c_X6_leastSpeed l hl0 D r C J G n Y X U Z F pl tmp sn hrs hI hQ) (gaV qM_L_67 qI_X6_leastSpeed qS_X6_leastSpeed qK_X6 qC_X6_leastSpeed) hdv_X6_leastSpeed ⟨(Nat.le_of_ble_eq_true rfl), (Nat.le_of_ble_eq_true rfl)⟩ hG (Sn.recv hK hG) rfl (Nat.le_of_ble_eq_true rfl) ⟨(Nat.le_of_ble_eq_true rfl), (Nat.le_of_ble_eq_true rfl)⟩ dL_leastSpeed_9 hS hSH (fun ce q9 H locs hcx hG1 hz hq hS hce hv hcl => ?_) (fun H locs hc0 hG1 hz hq hS => ?_)
  · have hO1 : Ou D w O H := Ou.kept hO (hq w hO.lt (fun h => by unfold inS at h; omega))
    have hP9 : Sn D r C (fJ_X6_leastSpeed C J pl tmp sn hrs) G n Y X U Z F H ∧ Ou D w (ou O (fE_X6_leastSpeed C J pl tmp sn hrs) (fR_X6_leastSpeed C J pl tmp sn hrs).toInt64) H := ⟨hG1, by unfold ou; rw [if_neg hcx]; exact hO1⟩
    rcases ec_leastSpeed.elim (fun h => absurd h hcx) id with hk | hk
    · rw [hk] at hcl
      refine vx_catch (name := exN 3) (E := exN 3) hown [] (⟨0, 14, 17, 23⟩ : ExceptionTableEntry) [(⟨0, 14, 21, 13⟩ : ExceptionTableEntry)] (by rw [htab]; rfl) (fun z hz => absurd hz List.not_mem_nil) (by decide) (by decide) (hts _ qL_L_23) (va_Nw.use rfl (hKx.2.2.2.1 _ (ex_cast 3 (by decide)))) hce hv hcl ?_
      refine lv_astore (lv' := [(6, .ref q9), (0, .ref r), (1, .int pl), (2, .int tmp), (3, .int sn), (4, .int hrs), (5, .ref w)]) hx hb dL_leastSpeed_17 hl (by decide) rfl (fun ls hl => ?_)
      refine lv_iconst (v := 1) hx hb dL_leastSpeed_19 (by decide) ?_
      refine vx_ret (W.widen (k := 4) (n := 24) (by omega) (by omega) ?_)
      exact W.iret hx hb hr (fun t ht hW => gQi_of (by show _ = kq 3 (fE_X6_leastSpeed C J pl tmp sn hrs); rw [hk]; rfl) hP9 hS ht) hS.2.2 dL_leastSpeed_20
    · rw [hk] at hcl
      refine vx_catch (name := exN 1) (E := exN 1) hown [(⟨0, 14, 17, 23⟩ : ExceptionTableEntry)] (⟨0, 14, 21, 13⟩ : ExceptionTableEntry) [] (by rw [htab]; rfl) (fun z hz => Or.inr (by rw [List.mem_singleton] at hz; subst hz; exact ⟨by decide, exN 3, hts _ qL_L_23, hKx.2.2.2.2 1 3 (by decide) (by decide) (by decide) (by decide) (by decide)⟩)) (by decide) (by decide) (hts _ qL_L_13) (va_Nw.use rfl (hKx.2.2.2.1 _ (ex_cast 1 (by decide)))) hce hv hcl ?_
      refine lv_astore (lv' := [(6, .ref q9), (0, .ref r), (1, .int pl), (2, .int tmp), (3, .int sn), (4, .int hrs), (5, .ref w)]) hx hb dL_leastSpeed_21 hl (by decide) rfl (fun ls hl => ?_)
      refine lv_iconst (v := 2) hx hb dL_leastSpeed_23 (by decide) ?_
      refine vx_ret (W.widen (k := 4) (n := 24) (by omega) (by omega) ?_)
      exact W.iret hx hb hr (fun t ht hW => gQi_of (by show _ = kq 3 (fE_X6_leastSpeed C J pl tmp sn hrs); rw [hk]; rfl) hP9 hS ht) hS.2.2 dL_leastSpeed_24
  · have hO1 : Ou D w O H := Ou.kept hO (hq w hO.lt (fun h => by unfold inS at h; omega))
    refine lv_i2l (v := (fR_X6_leastSpeed C J pl tmp sn hrs).toInt64) hx hb dL_leastSpeed_12 rfl ?_
    refine qlast hx hb hK hG1 hO1 hrw hS hA dL_leastSpeed_13 (fun H locs hG1 hO1 hS => ?_)
    refine lv_goto (tgt := 25) hx hb dL_leastSpeed_14 (by decide) ?_
    refine lv_iconst (v := 0) hx hb dL_leastSpeed_25 (by decide) ?_
    have hP9 : Sn D r C (fJ_X6_leastSpeed C J pl tmp sn hrs) G n Y X U Z F H ∧ Ou D w (ou O (fE_X6_leastSpeed C J pl tmp sn hrs) (fR_X6_leastSpeed C J pl tmp sn hrs).toInt64) H := ⟨hG1, by unfold ou; rw [if_pos hc0]; exact hO1⟩
    refine vx_ret (W.widen (k := 4) (n := 24) (by omega) (by omega) ?_)
    exact W.iret hx hb hr (fun t ht hW => gQi_of (by show _ = kq 3 (fE_X6_leastSpeed C J pl tmp sn hrs); rw [hc0]; rfl) hP9 hS ht) hS.2.2 dL_leastSpeed_26
theorem hds_L_emptyIn : yL_emptyIn.cls ≠ "java/lang/invoke/MethodHandle" ∧ yL_emptyIn.cls ≠ "java/lang/invoke/VarHandle" ∧ (parseMethodDescriptor yL_emptyIn.desc).map (fun d => d.parameters.length) = some 4 := by decide +kernel
set_option maxHeartbeats 4000000 in
set_option maxRecDepth 100000 in
theorem c_L_emptyIn (l : Launch) (hl0 : l.stackTraces = false) (D : va_G) (r w : Nat) (hrw : r + 206 ≤ w) (C : Nat → Int32) (J : Nat → Int32) (G : Nat → Nat → Int32) (n : Nat) (Y : Nat → Int32) (X : Nat → Int32) (U : Nat → Int32) (Z : Nat → Int32) (F : Nat → Int32) (O : Nat → Int64) (tmp : Int32) (sn : Int32) (hI : hrI (ns C) (np C) (nc C) C) (hQ : ∀ q, q < np C → okQ C q) : vx_Met l yL_emptyIn (wH yL_emptyIn cL_emptyIn 5 (some .int) [(0, 10, 13, 13)]) (rmX 9 2 12) (xPc D r [.ref r, .int tmp, .int sn, .ref w] (fun H => Sn D r C J G n Y X U Z F H ∧ Ou D w O H)) (gQi (inH r w) (kq 1 (fE_X6_emptyIn C J tmp sn)) (fun H => Sn D r C (fJ_X6_emptyIn C J tmp sn) G n Y X U Z F H ∧ Ou D w (ou O (fE_X6_emptyIn C J tmp sn) (fR_X6_emptyIn C J tmp sn).toInt64) H)) (fun _ _ _ => False) 2 12 (inH r w) := by
  refine vx_ofWH (cc := cL_emptyIn) (maxL := 5) (ret := (some .int)) (by decide) rfl ?_
  intro p e s m args below meth c s₁ B hml hv
  obtain ⟨hav, ⟨hG, hO⟩, hK, hKx⟩ := hv
  have hx := B.exec
  have hb := B.bytes
  have hr := B.returns
  have hts0 := atoms_spec (ws := wH yL_emptyIn cL_emptyIn 5 (some .int) [(0, 10, 13, 13)]) B.pre
  have htab := vx_table (x := yL_emptyIn) B (hts0 _ List.mem_cons_self)
  have hts : ∀ w ∈ AW, w.before _ s = true := fun w h => hts0 w (List.mem_cons_of_mem _ h)
  have hown : s.vm.findClass RL = some m.cls := findClass_of_methodNamed B.named
  have hlocks := B.notSynchronized
  have hr0 : ∀ q, inH r w q → r ≤ q := fun q h => h.elim (fun h => h.1) (fun h => by omega)
  have hSH : ∀ q, inS r q → inH r w q := fun q h => Or.inl h
  have hA : ∀ q, inH r w q → inH r w q := fun _ h => h
  have hS : va_S (inH r w) s.heap s.heap [] := va_S.rf
  have hG : Sn D r C J G n Y X U Z F s.heap := hG
  have hl := lv_entry ([.ref r, .int tmp, .int sn, .ref w]) (n := 5) (Nat.le_of_ble_eq_true rfl)
  refine W.eq (g2 := entryFrame m ([.ref r, .int tmp, .int sn, .ref w] : List Value).toArray 5) (by rw [hav]) ?_
  rw [lg_entry_eq]
  generalize (lg_sl ([.ref r, .int tmp, .int sn, .ref w]) ++ List.replicate (5 - (lg_sl ([.ref r, .int tmp, .int sn, .ref w])).length) Slot.unset).toArray = ls at hl ⊢
  have hl : lv_has ls 5 [(0, .ref r), (1, .int tmp), (2, .int sn), (3, .ref w)] := hl
  refine lv_aload_n hx hb dL_emptyIn_0 rfl (lv_at hl 3 rfl) ?_
  refine lv_iconst (v := 0) hx hb dL_emptyIn_1 (by decide) ?_
  refine topN (n := 0) rfl ?_
  refine lv_aload_n hx hb dL_emptyIn_2 rfl (lv_at hl 0 rfl) ?_
  refine lv_iload_n hx hb dL_emptyIn_3 rfl (lv_at hl 1 rfl) ?_
  refine lv_iload_n hx hb dL_emptyIn_4 rfl (lv_at hl 2 rfl) ?_
  refine xcVi (As := [.int tmp, .int sn]) (rest := [.int (nI 0), .ref w]) hx hb hml hown hts hl.1 hK hKx hr0 (c_X6_emptyIn l hl0 D r C J G n Y X U Z F tmp sn hI hQ) (gaV qM_L_70 qI_X6_emptyIn qS_X6_emptyIn qK_X6 qC_X6_emptyIn) hdv_X6_emptyIn ⟨(Nat.le_of_ble_eq_true rfl), (Nat.le_of_ble_eq_true rfl)⟩ hG (Sn.recv hK hG) rfl (Nat.le_of_ble_eq_true rfl) ⟨(Nat.le_of_ble_eq_true rfl), (Nat.le_of_ble_eq_true rfl)⟩ dL_emptyIn_5 hS hSH (fun ce q9 H locs hcx hG1 hz hq hS hce hv hcl => ?_) (fun H locs hc0 hG1 hz hq hS => ?_)
  · have hO1 : Ou D w O H := Ou.kept hO (hq w hO.lt (fun h => by unfold inS at h; omega))
    have hP9 : Sn D r C (fJ_X6_emptyIn C J tmp sn) G n Y X U Z F H ∧ Ou D w (ou O (fE_X6_emptyIn C J tmp sn) (fR_X6_emptyIn C J tmp sn).toInt64) H := ⟨hG1, by unfold ou; rw [if_neg hcx]; exact hO1⟩
    have hk : fE_X6_emptyIn C J tmp sn = 1 := ec_emptyIn.elim (fun h => absurd h hcx) (fun h => h.elim id id)
    rw [hk] at hcl
    refine vx_catch (name := exN 1) (E := exN 1) hown [] (⟨0, 10, 13, 13⟩ : ExceptionTableEntry) [] (by rw [htab]; rfl) (fun z hz => absurd hz List.not_mem_nil) (by decide) (by decide) (hts _ qL_L_13) (va_Nw.use rfl (hKx.2.2.2.1 _ (ex_cast 1 (by decide)))) hce hv hcl ?_
    refine lv_astore (lv' := [(4, .ref q9), (0, .ref r), (1, .int tmp), (2, .int sn), (3, .ref w)]) hx hb dL_emptyIn_13 hl (by decide) rfl (fun ls hl => ?_)
    refine lv_iconst (v := 1) hx hb dL_emptyIn_15 (by decide) ?_
    refine vx_ret (W.widen (k := 2) (n := 12) (by omega) (by omega) ?_)
    exact W.iret hx hb hr (fun t ht hW => gQi_of (by show _ = kq 1 (fE_X6_emptyIn C J tmp sn); rw [hk]; rfl) hP9 hS ht) hS.2.2 dL_emptyIn_16
  · have hO1 : Ou D w O H := Ou.kept hO (hq w hO.lt (fun h => by unfold inS at h; omega))
    refine lv_i2l (v := (fR_X6_emptyIn C J tmp sn).toInt64) hx hb dL_emptyIn_8 rfl ?_
    refine qlast hx hb hK hG1 hO1 hrw hS hA dL_emptyIn_9 (fun H locs hG1 hO1 hS => ?_)
    refine lv_goto (tgt := 17) hx hb dL_emptyIn_10 (by decide) ?_
    refine lv_iconst (v := 0) hx hb dL_emptyIn_17 (by decide) ?_
    have hP9 : Sn D r C (fJ_X6_emptyIn C J tmp sn) G n Y X U Z F H ∧ Ou D w (ou O (fE_X6_emptyIn C J tmp sn) (fR_X6_emptyIn C J tmp sn).toInt64) H := ⟨hG1, by unfold ou; rw [if_pos hc0]; exact hO1⟩
    refine vx_ret (W.widen (k := 2) (n := 12) (by omega) (by omega) ?_)
    exact W.iret hx hb hr (fun t ht hW => gQi_of (by show _ = kq 1 (fE_X6_emptyIn C J tmp sn); rw [hc0]; rfl) hP9 hS ht) hS.2.2 dL_emptyIn_18
theorem hds_L_append : yL_append.cls ≠ "java/lang/invoke/MethodHandle" ∧ yL_append.cls ≠ "java/lang/invoke/VarHandle" ∧ (parseMethodDescriptor yL_append.desc).map (fun d => d.parameters.length) = some 3 := by decide +kernel
set_option maxHeartbeats 4000000 in
set_option maxRecDepth 100000 in
theorem c_L_append (l : Launch) (hl0 : l.stackTraces = false) (D : va_G) (r w : Nat) (hrw : r + 206 ≤ w) (C : Nat → Int32) (J : Nat → Int32) (G : Nat → Nat → Int32) (n : Nat) (Y : Nat → Int32) (X : Nat → Int32) (U : Nat → Int32) (Z : Nat → Int32) (F : Nat → Int32) (O : Nat → Int64) (x : Int32) (hT : okT5 F) : vx_Met l yL_append (wH yL_append cL_append 4 (some .int) [(0, 9, 12, 13), (0, 9, 15, 15)]) (rmX 8 2 12) (xPc D r [.ref r, .int x, .ref w] (fun H => Sn D r C J G n Y X U Z F H ∧ Ou D w O H)) (gQi (inH r w) (kq 1 (fE_X6_append Y F x)) (fun H => Sn D r C J G n (fY_X6_append Y F x) X U Z (fF_X6_append Y F x) H ∧ Ou D w (ou O (fE_X6_append Y F x) (fR_X6_append Y F x).toInt64) H)) (fun _ _ _ => False) 2 12 (inH r w) := by
  refine vx_ofWH (cc := cL_append) (maxL := 4) (ret := (some .int)) (by decide) rfl ?_
  intro p e s m args below meth c s₁ B hml hv
  obtain ⟨hav, ⟨hG, hO⟩, hK, hKx⟩ := hv
  have hx := B.exec
  have hb := B.bytes
  have hr := B.returns
  have hts0 := atoms_spec (ws := wH yL_append cL_append 4 (some .int) [(0, 9, 12, 13), (0, 9, 15, 15)]) B.pre
  have htab := vx_table (x := yL_append) B (hts0 _ List.mem_cons_self)
  have hts : ∀ w ∈ AW, w.before _ s = true := fun w h => hts0 w (List.mem_cons_of_mem _ h)
  have hown : s.vm.findClass RL = some m.cls := findClass_of_methodNamed B.named
  have hlocks := B.notSynchronized
  have hr0 : ∀ q, inH r w q → r ≤ q := fun q h => h.elim (fun h => h.1) (fun h => by omega)
  have hSH : ∀ q, inS r q → inH r w q := fun q h => Or.inl h
  have hA : ∀ q, inH r w q → inH r w q := fun _ h => h
  have hS : va_S (inH r w) s.heap s.heap [] := va_S.rf
  have hG : Sn D r C J G n Y X U Z F s.heap := hG
  have hl := lv_entry ([.ref r, .int x, .ref w]) (n := 4) (Nat.le_of_ble_eq_true rfl)
  refine W.eq (g2 := entryFrame m ([.ref r, .int x, .ref w] : List Value).toArray 4) (by rw [hav]) ?_
  rw [lg_entry_eq]
  generalize (lg_sl ([.ref r, .int x, .ref w]) ++ List.replicate (4 - (lg_sl ([.ref r, .int x, .ref w])).length) Slot.unset).toArray = ls at hl ⊢
  have hl : lv_has ls 4 [(0, .ref r), (1, .int x), (2, .ref w)] := hl
  refine lv_aload_n hx hb dL_append_0 rfl (lv_at hl 2 rfl) ?_
  refine lv_iconst (v := 0) hx hb dL_append_1 (by decide) ?_
  refine topN (n := 0) rfl ?_
  refine lv_aload_n hx hb dL_append_2 rfl (lv_at hl 0 rfl) ?_
  refine lv_iload_n hx hb dL_append_3 rfl (lv_at hl 1 rfl) ?_
  refine xcVi (As := [.int x]) (rest := [.int (nI 0), .ref w]) hx hb hml hown hts hl.1 hK hKx hr0 (c_X6_append l hl0 D r C J G n Y X U Z F x hT) (gaV qM_L_73 qI_X6_append qS_X6_append qK_X6 qC_X6_append) hdv_X6_append ⟨(Nat.le_of_ble_eq_true rfl), (Nat.le_of_ble_eq_true rfl)⟩ hG (Sn.recv hK hG) rfl (Nat.le_of_ble_eq_true rfl) ⟨(Nat.le_of_ble_eq_true rfl), (Nat.le_of_ble_eq_true rfl)⟩ dL_append_4 hS hSH (fun ce q9 H locs hcx hG1 hz hq hS hce hv hcl => ?_) (fun H locs hc0 hG1 hz hq hS => ?_)
  · have hO1 : Ou D w O H := Ou.kept hO (hq w hO.lt (fun h => by unfold inS at h; omega))
    have hP9 : Sn D r C J G n (fY_X6_append Y F x) X U Z (fF_X6_append Y F x) H ∧ Ou D w (ou O (fE_X6_append Y F x) (fR_X6_append Y F x).toInt64) H := ⟨hG1, by unfold ou; rw [if_neg hcx]; exact hO1⟩
    rcases ec_append.elim (fun h => absurd h hcx) id with hk | hk
    · rw [hk] at hcl
      refine vx_catch (name := exN 1) (E := exN 1) hown [] (⟨0, 9, 12, 13⟩ : ExceptionTableEntry) [(⟨0, 9, 15, 15⟩ : ExceptionTableEntry)] (by rw [htab]; rfl) (fun z hz => absurd hz List.not_mem_nil) (by decide) (by decide) (hts _ qL_L_13) (va_Nw.use rfl (hKx.2.2.2.1 _ (ex_cast 1 (by decide)))) hce hv hcl ?_
      refine lv_astore_n (lv' := [(3, .ref q9), (0, .ref r), (1, .int x), (2, .ref w)]) hx hb dL_append_12 rfl hl (by decide) rfl (fun ls hl => ?_)
      refine lv_iconst (v := 1) hx hb dL_append_13 (by decide) ?_
      refine vx_ret (W.widen (k := 2) (n := 12) (by omega) (by omega) ?_)
      exact W.iret hx hb hr (fun t ht hW => gQi_of (by show _ = kq 1 (fE_X6_append Y F x); rw [hk]; rfl) hP9 hS ht) hS.2.2 dL_append_14
    · rw [hk] at hcl
      refine vx_catch (name := exN 2) (E := exN 2) hown [(⟨0, 9, 12, 13⟩ : ExceptionTableEntry)] (⟨0, 9, 15, 15⟩ : ExceptionTableEntry) [] (by rw [htab]; rfl) (fun z hz => Or.inr (by rw [List.mem_singleton] at hz; subst hz; exact ⟨by decide, exN 1, hts _ qL_L_13, hKx.2.2.2.2 2 1 (by decide) (by decide) (by decide) (by decide) (by decide)⟩)) (by decide) (by decide) (hts _ qL_L_15) (va_Nw.use rfl (hKx.2.2.2.1 _ (ex_cast 2 (by decide)))) hce hv hcl ?_
      refine lv_astore_n (lv' := [(3, .ref q9), (0, .ref r), (1, .int x), (2, .ref w)]) hx hb dL_append_15 rfl hl (by decide) rfl (fun ls hl => ?_)
      refine lv_iconst (v := 2) hx hb dL_append_16 (by decide) ?_
      refine vx_ret (W.widen (k := 2) (n := 12) (by omega) (by omega) ?_)
      exact W.iret hx hb hr (fun t ht hW => gQi_of (by show _ = kq 1 (fE_X6_append Y F x); rw [hk]; rfl) hP9 hS ht) hS.2.2 dL_append_17
  · have hO1 : Ou D w O H := Ou.kept hO (hq w hO.lt (fun h => by unfold inS at h; omega))
    refine lv_i2l (v := (fR_X6_append Y F x).toInt64) hx hb dL_append_7 rfl ?_
    refine qlast hx hb hK hG1 hO1 hrw hS hA dL_append_8 (fun H locs hG1 hO1 hS => ?_)
    refine lv_goto (tgt := 18) hx hb dL_append_9 (by decide) ?_
    refine lv_iconst (v := 0) hx hb dL_append_18 (by decide) ?_
    have hP9 : Sn D r C J G n (fY_X6_append Y F x) X U Z (fF_X6_append Y F x) H ∧ Ou D w (ou O (fE_X6_append Y F x) (fR_X6_append Y F x).toInt64) H := ⟨hG1, by unfold ou; rw [if_pos hc0]; exact hO1⟩
    refine vx_ret (W.widen (k := 2) (n := 12) (by omega) (by omega) ?_)
    exact W.iret hx hb hr (fun t ht hW => gQi_of (by show _ = kq 1 (fE_X6_append Y F x); rw [hc0]; rfl) hP9 hS ht) hS.2.2 dL_append_19
theorem hds_L_runText : yL_runText.cls ≠ "java/lang/invoke/MethodHandle" ∧ yL_runText.cls ≠ "java/lang/invoke/VarHandle" ∧ (parseMethodDescriptor yL_runText.desc).map (fun d => d.parameters.length) = some 2 := by decide +kernel
set_option maxHeartbeats 4000000 in
set_option maxRecDepth 100000 in
theorem c_L_runText (l : Launch) (hl0 : l.stackTraces = false) (D : va_G) (r w : Nat) (hrw : r + 206 ≤ w) (C : Nat → Int32) (J : Nat → Int32) (G : Nat → Nat → Int32) (n : Nat) (Y : Nat → Int32) (X : Nat → Int32) (U : Nat → Int32) (Z : Nat → Int32) (F : Nat → Int32) (O : Nat → Int64) (hw : WF C) (hn4 : n ≤ 4) (hT : okT5 F) : vx_Met l yL_runText (wH yL_runText cL_runText 3 (some .int) [(0, 8, 11, 15)]) (rmX 8 1 6) (xPc D r [.ref r, .ref w] (fun H => Sn D r C J G n Y X U Z F H ∧ Ou D w O H)) (gQi (inH r w) (kq 2 (fE_X6_runText C G n Y X U Z F)) (fun H => Sn D r (fC_X6_runText C G n Y X U Z F) J (fG_X6_runText C G n Y X U Z F) (fn_X6_runText C G n Y X U Z F) Y (fX_X6_runText C G n Y X U Z F) (fU_X6_runText C G n Y X U Z F) (fZ_X6_runText C G n Y X U Z F) (fF_X6_runText C G n Y X U Z F) H ∧ Ou D w (ou O (fE_X6_runText C G n Y X U Z F) (fR_X6_runText C G n Y X U Z F).toInt64) H)) (fun _ _ _ => False) 1 6 (inH r w) := by
  refine vx_ofWH (cc := cL_runText) (maxL := 3) (ret := (some .int)) (by decide) rfl ?_
  intro p e s m args below meth c s₁ B hml hv
  obtain ⟨hav, ⟨hG, hO⟩, hK, hKx⟩ := hv
  have hx := B.exec
  have hb := B.bytes
  have hr := B.returns
  have hts0 := atoms_spec (ws := wH yL_runText cL_runText 3 (some .int) [(0, 8, 11, 15)]) B.pre
  have htab := vx_table (x := yL_runText) B (hts0 _ List.mem_cons_self)
  have hts : ∀ w ∈ AW, w.before _ s = true := fun w h => hts0 w (List.mem_cons_of_mem _ h)
  have hown : s.vm.findClass RL = some m.cls := findClass_of_methodNamed B.named
  have hlocks := B.notSynchronized
  have hr0 : ∀ q, inH r w q → r ≤ q := fun q h => h.elim (fun h => h.1) (fun h => by omega)
  have hSH : ∀ q, inS r q → inH r w q := fun q h => Or.inl h
  have hA : ∀ q, inH r w q → inH r w q := fun _ h => h
  have hS : va_S (inH r w) s.heap s.heap [] := va_S.rf
  have hG : Sn D r C J G n Y X U Z F s.heap := hG
  have hl := lv_entry ([.ref r, .ref w]) (n := 3) (Nat.le_of_ble_eq_true rfl)
  refine W.eq (g2 := entryFrame m ([.ref r, .ref w] : List Value).toArray 3) (by rw [hav]) ?_
  rw [lg_entry_eq]
  generalize (lg_sl ([.ref r, .ref w]) ++ List.replicate (3 - (lg_sl ([.ref r, .ref w])).length) Slot.unset).toArray = ls at hl ⊢
  have hl : lv_has ls 3 [(0, .ref r), (1, .ref w)] := hl
  refine lv_aload_n hx hb dL_runText_0 rfl (lv_at hl 1 rfl) ?_
  refine lv_iconst (v := 0) hx hb dL_runText_1 (by decide) ?_
  refine topN (n := 0) rfl ?_
  refine lv_aload_n hx hb dL_runText_2 rfl (lv_at hl 0 rfl) ?_
  refine xcVi (As := []) (rest := [.int (nI 0), .ref w]) hx hb hml hown hts hl.1 hK hKx hr0 (c_X6_runText l hl0 D r C J G n Y X U Z F hw hn4 hT) (gaV qM_L_76 qI_X6_runText qS_X6_runText qK_X6 qC_X6_runText) hdv_X6_runText ⟨(Nat.le_of_ble_eq_true rfl), (Nat.le_of_ble_eq_true rfl)⟩ hG (Sn.recv hK hG) rfl (Nat.le_of_ble_eq_true rfl) ⟨(Nat.le_of_ble_eq_true rfl), (Nat.le_of_ble_eq_true rfl)⟩ dL_runText_3 hS hSH (fun ce q9 H locs hcx hG1 hz hq hS hce hv hcl => ?_) (fun H locs hc0 hG1 hz hq hS => ?_)
  · have hO1 : Ou D w O H := Ou.kept hO (hq w hO.lt (fun h => by unfold inS at h; omega))
    have hP9 : Sn D r (fC_X6_runText C G n Y X U Z F) J (fG_X6_runText C G n Y X U Z F) (fn_X6_runText C G n Y X U Z F) Y (fX_X6_runText C G n Y X U Z F) (fU_X6_runText C G n Y X U Z F) (fZ_X6_runText C G n Y X U Z F) (fF_X6_runText C G n Y X U Z F) H ∧ Ou D w (ou O (fE_X6_runText C G n Y X U Z F) (fR_X6_runText C G n Y X U Z F).toInt64) H := ⟨hG1, by unfold ou; rw [if_neg hcx]; exact hO1⟩
    have hk : fE_X6_runText C G n Y X U Z F = 2 := ec_runText.elim (fun h => absurd h hcx) (fun h => h.elim id id)
    rw [hk] at hcl
    refine vx_catch (name := exN 2) (E := exN 2) hown [] (⟨0, 8, 11, 15⟩ : ExceptionTableEntry) [] (by rw [htab]; rfl) (fun z hz => absurd hz List.not_mem_nil) (by decide) (by decide) (hts _ qL_L_15) (va_Nw.use rfl (hKx.2.2.2.1 _ (ex_cast 2 (by decide)))) hce hv hcl ?_
    refine lv_astore_n (lv' := [(2, .ref q9), (0, .ref r), (1, .ref w)]) hx hb dL_runText_11 rfl hl (by decide) rfl (fun ls hl => ?_)
    refine lv_iconst (v := 1) hx hb dL_runText_12 (by decide) ?_
    refine vx_ret (W.widen (k := 1) (n := 6) (by omega) (by omega) ?_)
    exact W.iret hx hb hr (fun t ht hW => gQi_of (by show _ = kq 2 (fE_X6_runText C G n Y X U Z F); rw [hk]; rfl) hP9 hS ht) hS.2.2 dL_runText_13
  · have hO1 : Ou D w O H := Ou.kept hO (hq w hO.lt (fun h => by unfold inS at h; omega))
    refine lv_i2l (v := (fR_X6_runText C G n Y X U Z F).toInt64) hx hb dL_runText_6 rfl ?_
    refine qlast hx hb hK hG1 hO1 hrw hS hA dL_runText_7 (fun H locs hG1 hO1 hS => ?_)
    refine lv_goto (tgt := 14) hx hb dL_runText_8 (by decide) ?_
    refine lv_iconst (v := 0) hx hb dL_runText_14 (by decide) ?_
    have hP9 : Sn D r (fC_X6_runText C G n Y X U Z F) J (fG_X6_runText C G n Y X U Z F) (fn_X6_runText C G n Y X U Z F) Y (fX_X6_runText C G n Y X U Z F) (fU_X6_runText C G n Y X U Z F) (fZ_X6_runText C G n Y X U Z F) (fF_X6_runText C G n Y X U Z F) H ∧ Ou D w (ou O (fE_X6_runText C G n Y X U Z F) (fR_X6_runText C G n Y X U Z F).toInt64) H := ⟨hG1, by unfold ou; rw [if_pos hc0]; exact hO1⟩
    refine vx_ret (W.widen (k := 1) (n := 6) (by omega) (by omega) ?_)
    exact W.iret hx hb hr (fun t ht hW => gQi_of (by show _ = kq 2 (fE_X6_runText C G n Y X U Z F); rw [hc0]; rfl) hP9 hS ht) hS.2.2 dL_runText_15
theorem hds_L_undo : yL_undo.cls ≠ "java/lang/invoke/MethodHandle" ∧ yL_undo.cls ≠ "java/lang/invoke/VarHandle" ∧ (parseMethodDescriptor yL_undo.desc).map (fun d => d.parameters.length) = some 2 := by decide +kernel
set_option maxHeartbeats 4000000 in
set_option maxRecDepth 100000 in
theorem c_L_undo (l : Launch) (hl0 : l.stackTraces = false) (D : va_G) (r w : Nat) (hrw : r + 206 ≤ w) (C : Nat → Int32) (J : Nat → Int32) (G : Nat → Nat → Int32) (n : Nat) (Y : Nat → Int32) (X : Nat → Int32) (U : Nat → Int32) (Z : Nat → Int32) (F : Nat → Int32) (O : Nat → Int64) (hn4 : n ≤ 4) (hoG : ∀ i, i < n → okN (G i)) : vx_Met l yL_undo (wH yL_undo cL_undo 3 (some .int) [(0, 8, 11, 15)]) (rmX 7 1 6) (xPc D r [.ref r, .ref w] (fun H => Sn D r C J G n Y X U Z F H ∧ Ou D w O H)) (gQi (inH r w) (kq 2 (fE_X6_undo C G n)) (fun H => Sn D r (fC_X6_undo C G n) J G (fn_X6_undo C G n) Y X U Z F H ∧ Ou D w (ou O (fE_X6_undo C G n) (fR_X6_undo C G n).toInt64) H)) (fun _ _ _ => False) 1 6 (inH r w) := by
  refine vx_ofWH (cc := cL_undo) (maxL := 3) (ret := (some .int)) (by decide) rfl ?_
  intro p e s m args below meth c s₁ B hml hv
  obtain ⟨hav, ⟨hG, hO⟩, hK, hKx⟩ := hv
  have hx := B.exec
  have hb := B.bytes
  have hr := B.returns
  have hts0 := atoms_spec (ws := wH yL_undo cL_undo 3 (some .int) [(0, 8, 11, 15)]) B.pre
  have htab := vx_table (x := yL_undo) B (hts0 _ List.mem_cons_self)
  have hts : ∀ w ∈ AW, w.before _ s = true := fun w h => hts0 w (List.mem_cons_of_mem _ h)
  have hown : s.vm.findClass RL = some m.cls := findClass_of_methodNamed B.named
  have hlocks := B.notSynchronized
  have hr0 : ∀ q, inH r w q → r ≤ q := fun q h => h.elim (fun h => h.1) (fun h => by omega)
  have hSH : ∀ q, inS r q → inH r w q := fun q h => Or.inl h
  have hA : ∀ q, inH r w q → inH r w q := fun _ h => h
  have hS : va_S (inH r w) s.heap s.heap [] := va_S.rf
  have hG : Sn D r C J G n Y X U Z F s.heap := hG
  have hl := lv_entry ([.ref r, .ref w]) (n := 3) (Nat.le_of_ble_eq_true rfl)
  refine W.eq (g2 := entryFrame m ([.ref r, .ref w] : List Value).toArray 3) (by rw [hav]) ?_
  rw [lg_entry_eq]
  generalize (lg_sl ([.ref r, .ref w]) ++ List.replicate (3 - (lg_sl ([.ref r, .ref w])).length) Slot.unset).toArray = ls at hl ⊢
  have hl : lv_has ls 3 [(0, .ref r), (1, .ref w)] := hl
  refine lv_aload_n hx hb dL_undo_0 rfl (lv_at hl 1 rfl) ?_
  refine lv_iconst (v := 0) hx hb dL_undo_1 (by decide) ?_
  refine topN (n := 0) rfl ?_
  refine lv_aload_n hx hb dL_undo_2 rfl (lv_at hl 0 rfl) ?_
  refine xcVi (As := []) (rest := [.int (nI 0), .ref w]) hx hb hml hown hts hl.1 hK hKx hr0 (c_X6_undo l hl0 D r C J G n Y X U Z F hn4 hoG) (gaV qM_L_80 qI_X6_undo qS_X6_undo qK_X6 qC_X6_undo) hdv_X6_undo ⟨(Nat.le_of_ble_eq_true rfl), (Nat.le_of_ble_eq_true rfl)⟩ hG (Sn.recv hK hG) rfl (Nat.le_of_ble_eq_true rfl) ⟨(Nat.le_of_ble_eq_true rfl), (Nat.le_of_ble_eq_true rfl)⟩ dL_undo_3 hS hSH (fun ce q9 H locs hcx hG1 hz hq hS hce hv hcl => ?_) (fun H locs hc0 hG1 hz hq hS => ?_)
  · have hO1 : Ou D w O H := Ou.kept hO (hq w hO.lt (fun h => by unfold inS at h; omega))
    have hP9 : Sn D r (fC_X6_undo C G n) J G (fn_X6_undo C G n) Y X U Z F H ∧ Ou D w (ou O (fE_X6_undo C G n) (fR_X6_undo C G n).toInt64) H := ⟨hG1, by unfold ou; rw [if_neg hcx]; exact hO1⟩
    have hk : fE_X6_undo C G n = 2 := ec_undo.elim (fun h => absurd h hcx) (fun h => h.elim id id)
    rw [hk] at hcl
    refine vx_catch (name := exN 2) (E := exN 2) hown [] (⟨0, 8, 11, 15⟩ : ExceptionTableEntry) [] (by rw [htab]; rfl) (fun z hz => absurd hz List.not_mem_nil) (by decide) (by decide) (hts _ qL_L_15) (va_Nw.use rfl (hKx.2.2.2.1 _ (ex_cast 2 (by decide)))) hce hv hcl ?_
    refine lv_astore_n (lv' := [(2, .ref q9), (0, .ref r), (1, .ref w)]) hx hb dL_undo_11 rfl hl (by decide) rfl (fun ls hl => ?_)
    refine lv_iconst (v := 1) hx hb dL_undo_12 (by decide) ?_
    refine vx_ret (W.widen (k := 1) (n := 6) (by omega) (by omega) ?_)
    exact W.iret hx hb hr (fun t ht hW => gQi_of (by show _ = kq 2 (fE_X6_undo C G n); rw [hk]; rfl) hP9 hS ht) hS.2.2 dL_undo_13
  · have hO1 : Ou D w O H := Ou.kept hO (hq w hO.lt (fun h => by unfold inS at h; omega))
    refine lv_i2l (v := (fR_X6_undo C G n).toInt64) hx hb dL_undo_6 rfl ?_
    refine qlast hx hb hK hG1 hO1 hrw hS hA dL_undo_7 (fun H locs hG1 hO1 hS => ?_)
    refine lv_goto (tgt := 14) hx hb dL_undo_8 (by decide) ?_
    refine lv_iconst (v := 0) hx hb dL_undo_14 (by decide) ?_
    have hP9 : Sn D r (fC_X6_undo C G n) J G (fn_X6_undo C G n) Y X U Z F H ∧ Ou D w (ou O (fE_X6_undo C G n) (fR_X6_undo C G n).toInt64) H := ⟨hG1, by unfold ou; rw [if_pos hc0]; exact hO1⟩
    refine vx_ret (W.widen (k := 1) (n := 6) (by omega) (by omega) ?_)
    exact W.iret hx hb hr (fun t ht hW => gQi_of (by show _ = kq 2 (fE_X6_undo C G n); rw [hc0]; rfl) hP9 hS ht) hS.2.2 dL_undo_15
