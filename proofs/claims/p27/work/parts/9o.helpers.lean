theorem hds_L_addStreet : yL_addStreet.cls ≠ "java/lang/invoke/MethodHandle" ∧ yL_addStreet.cls ≠ "java/lang/invoke/VarHandle" ∧ (parseMethodDescriptor yL_addStreet.desc).map (fun d => d.parameters.length) = some 3 := by decide +kernel
set_option maxHeartbeats 4000000 in
set_option maxRecDepth 100000 in
theorem c_L_addStreet (l : Launch) (hl0 : l.stackTraces = false) (D : va_G) (r : Nat) (P : Nat → Int32) (Q : Nat → Nat → Int32) (n : Nat) (P' : Nat → Int32) (Q' : Nat → Nat → Int32) (n' : Nat) (a : Int32) (len : Int32) (pri : Int32) (hE : ∀ (C : Nat → Int32) (G : Nat → Nat → Int32), Sd C G n P Q → ans (fE_X6_addStreet C G n len pri) (fR_X6_addStreet C G n len pri) = a ∧ fn_X6_addStreet C G n len pri = n' ∧ Sd (fC_X6_addStreet C G n len pri) (fG_X6_addStreet C G n len pri) n' P' Q') : vx_Met l yL_addStreet (wH yL_addStreet cL_addStreet 4 (some .int) [(0, 6, 7, 15), (0, 6, 11, 18)]) (rmX 8 3 18) (xPc D r [.ref r, .int len, .int pri] (fun H => St D r P Q n H)) (gQi (inS r) a (fun H => St D r P' Q' n' H)) (fun _ _ _ => False) 3 18 (inS r) := by
  refine vx_ofWH (cc := cL_addStreet) (maxL := 4) (ret := (some .int)) (by decide) rfl ?_
  intro p e s m args below meth c s₁ B hml hv
  obtain ⟨hav, ⟨C, J, G, Y, X, U, Z, F, hG, hd, hf⟩, hK, hKx⟩ := hv
  have hx := B.exec
  have hb := B.bytes
  have hr := B.returns
  have hts0 := atoms_spec (ws := wH yL_addStreet cL_addStreet 4 (some .int) [(0, 6, 7, 15), (0, 6, 11, 18)]) B.pre
  have htab := vx_table (x := yL_addStreet) B (hts0 _ List.mem_cons_self)
  have hts : ∀ w ∈ AW, w.before _ s = true := fun w h => hts0 w (List.mem_cons_of_mem _ h)
  have hown : s.vm.findClass RL = some m.cls := findClass_of_methodNamed B.named
  have hlocks := B.notSynchronized
  have hr0 : ∀ q, inS r q → r ≤ q := fun q h => h.1
  have hA : ∀ q, inS r q → inS r q := fun _ h => h
  have hS : va_S (inS r) s.heap s.heap [] := va_S.rf
  have hG : Sn D r C J G n Y X U Z F s.heap := hG
  have hl := lv_entry ([.ref r, .int len, .int pri]) (n := 4) (Nat.le_of_ble_eq_true rfl)
  refine W.eq (g2 := entryFrame m ([.ref r, .int len, .int pri] : List Value).toArray 4) (by rw [hav]) ?_
  rw [lg_entry_eq]
  generalize (lg_sl ([.ref r, .int len, .int pri]) ++ List.replicate (4 - (lg_sl ([.ref r, .int len, .int pri])).length) Slot.unset).toArray = ls at hl ⊢
  have hl : lv_has ls 4 [(0, .ref r), (1, .int len), (2, .int pri)] := hl
  obtain ⟨ha, hn1, hd1⟩ := hE C G hd
  refine lv_aload_n hx hb dL_addStreet_0 rfl (lv_at hl 0 rfl) ?_
  refine lv_iload_n hx hb dL_addStreet_1 rfl (lv_at hl 1 rfl) ?_
  refine lv_iload_n hx hb dL_addStreet_2 rfl (lv_at hl 2 rfl) ?_
  refine xcVi (As := [.int len, .int pri]) (rest := []) hx hb hml hown hts hl.1 hK hKx hr0 (c_X6_addStreet l hl0 D r C J G n Y X U Z F len pri hd.1.okN hd.2.1) (gaV qM_L_9 qI_X6_addStreet qS_X6_addStreet qK_X6 qC_X6_addStreet) hdv_X6_addStreet ⟨(Nat.le_of_ble_eq_true rfl), (Nat.le_of_ble_eq_true rfl)⟩ hG (Sn.recv hK hG) rfl (Nat.le_of_ble_eq_true rfl) ⟨(Nat.le_of_ble_eq_true rfl), (Nat.le_of_ble_eq_true rfl)⟩ dL_addStreet_3 hS hA (fun ce q9 H locs hcx hG1 hz hq hS hce hv hcl => ?_) (fun H locs hc0 hG1 hz hq hS => ?_)
  · have hP9 : St D r P' Q' n' H := ⟨_, J, _, Y, X, U, Z, F, by rw [← hn1]; exact hG1, hd1, hf⟩
    rcases ec_addStreet.elim (fun h => absurd h hcx) id with hk | hk
    · rw [hk] at hcl
      refine vx_catch (name := exN 1) (E := exN 1) hown [] (⟨0, 6, 7, 15⟩ : ExceptionTableEntry) [(⟨0, 6, 11, 18⟩ : ExceptionTableEntry)] (by rw [htab]; rfl) (fun z hz => absurd hz List.not_mem_nil) (by decide) (by decide) (hts _ qL_L_15) (va_Nw.use rfl (hKx.2.2.2.1 _ (ex_cast 1 (by decide)))) hce hv hcl ?_
      refine lv_astore_n (lv' := [(3, .ref q9), (0, .ref r), (1, .int len), (2, .int pri)]) hx hb dL_addStreet_7 rfl hl (by decide) rfl (fun ls hl => ?_)
      refine lv_ldc hx hb hown (hts _ qV_L_17) dL_addStreet_8 ?_
      refine vx_ret (W.widen (k := 3) (n := 18) (by omega) (by omega) ?_)
      exact W.iret hx hb hr (fun t ht hW => gQi_of (by rw [← ha, hk, ans_1]) hP9 hS ht) hS.2.2 dL_addStreet_10
    · rw [hk] at hcl
      refine vx_catch (name := exN 2) (E := exN 2) hown [(⟨0, 6, 7, 15⟩ : ExceptionTableEntry)] (⟨0, 6, 11, 18⟩ : ExceptionTableEntry) [] (by rw [htab]; rfl) (fun z hz => Or.inr (by rw [List.mem_singleton] at hz; subst hz; exact ⟨by decide, exN 1, hts _ qL_L_15, hKx.2.2.2.2 2 1 (by decide) (by decide) (by decide) (by decide) (by decide)⟩)) (by decide) (by decide) (hts _ qL_L_18) (va_Nw.use rfl (hKx.2.2.2.1 _ (ex_cast 2 (by decide)))) hce hv hcl ?_
      refine lv_astore_n (lv' := [(3, .ref q9), (0, .ref r), (1, .int len), (2, .int pri)]) hx hb dL_addStreet_11 rfl hl (by decide) rfl (fun ls hl => ?_)
      refine lv_ldc hx hb hown (hts _ qV_L_20) dL_addStreet_12 ?_
      refine vx_ret (W.widen (k := 3) (n := 18) (by omega) (by omega) ?_)
      exact W.iret hx hb hr (fun t ht hW => gQi_of (by rw [← ha, hk, ans_2]) hP9 hS ht) hS.2.2 dL_addStreet_14
  · have hP9 : St D r P' Q' n' H := ⟨_, J, _, Y, X, U, Z, F, by rw [← hn1]; exact hG1, hd1, hf⟩
    refine vx_ret (W.widen (k := 3) (n := 18) (by omega) (by omega) ?_)
    exact W.iret hx hb hr (fun t ht hW => gQi_of (by rw [← ha, hc0, ans_0]) hP9 hS ht) hS.2.2 dL_addStreet_6
theorem hds_L_addPlow : yL_addPlow.cls ≠ "java/lang/invoke/MethodHandle" ∧ yL_addPlow.cls ≠ "java/lang/invoke/VarHandle" ∧ (parseMethodDescriptor yL_addPlow.desc).map (fun d => d.parameters.length) = some 3 := by decide +kernel
set_option maxHeartbeats 4000000 in
set_option maxRecDepth 100000 in
theorem c_L_addPlow (l : Launch) (hl0 : l.stackTraces = false) (D : va_G) (r : Nat) (P : Nat → Int32) (Q : Nat → Nat → Int32) (n : Nat) (P' : Nat → Int32) (Q' : Nat → Nat → Int32) (n' : Nat) (a : Int32) (spd : Int32) (cap : Int32) (hE : ∀ (C : Nat → Int32) (G : Nat → Nat → Int32), Sd C G n P Q → ans (fE_X6_addPlow C G n spd cap) (fR_X6_addPlow C G n spd cap) = a ∧ fn_X6_addPlow C G n spd cap = n' ∧ Sd (fC_X6_addPlow C G n spd cap) (fG_X6_addPlow C G n spd cap) n' P' Q') : vx_Met l yL_addPlow (wH yL_addPlow cL_addPlow 4 (some .int) [(0, 6, 7, 15), (0, 6, 11, 18)]) (rmX 8 3 18) (xPc D r [.ref r, .int spd, .int cap] (fun H => St D r P Q n H)) (gQi (inS r) a (fun H => St D r P' Q' n' H)) (fun _ _ _ => False) 3 18 (inS r) := by
  refine vx_ofWH (cc := cL_addPlow) (maxL := 4) (ret := (some .int)) (by decide) rfl ?_
  intro p e s m args below meth c s₁ B hml hv
  obtain ⟨hav, ⟨C, J, G, Y, X, U, Z, F, hG, hd, hf⟩, hK, hKx⟩ := hv
  have hx := B.exec
  have hb := B.bytes
  have hr := B.returns
  have hts0 := atoms_spec (ws := wH yL_addPlow cL_addPlow 4 (some .int) [(0, 6, 7, 15), (0, 6, 11, 18)]) B.pre
  have htab := vx_table (x := yL_addPlow) B (hts0 _ List.mem_cons_self)
  have hts : ∀ w ∈ AW, w.before _ s = true := fun w h => hts0 w (List.mem_cons_of_mem _ h)
  have hown : s.vm.findClass RL = some m.cls := findClass_of_methodNamed B.named
  have hlocks := B.notSynchronized
  have hr0 : ∀ q, inS r q → r ≤ q := fun q h => h.1
  have hA : ∀ q, inS r q → inS r q := fun _ h => h
  have hS : va_S (inS r) s.heap s.heap [] := va_S.rf
  have hG : Sn D r C J G n Y X U Z F s.heap := hG
  have hl := lv_entry ([.ref r, .int spd, .int cap]) (n := 4) (Nat.le_of_ble_eq_true rfl)
  refine W.eq (g2 := entryFrame m ([.ref r, .int spd, .int cap] : List Value).toArray 4) (by rw [hav]) ?_
  rw [lg_entry_eq]
  generalize (lg_sl ([.ref r, .int spd, .int cap]) ++ List.replicate (4 - (lg_sl ([.ref r, .int spd, .int cap])).length) Slot.unset).toArray = ls at hl ⊢
  have hl : lv_has ls 4 [(0, .ref r), (1, .int spd), (2, .int cap)] := hl
  obtain ⟨ha, hn1, hd1⟩ := hE C G hd
  refine lv_aload_n hx hb dL_addPlow_0 rfl (lv_at hl 0 rfl) ?_
  refine lv_iload_n hx hb dL_addPlow_1 rfl (lv_at hl 1 rfl) ?_
  refine lv_iload_n hx hb dL_addPlow_2 rfl (lv_at hl 2 rfl) ?_
  refine xcVi (As := [.int spd, .int cap]) (rest := []) hx hb hml hown hts hl.1 hK hKx hr0 (c_X6_addPlow l hl0 D r C J G n Y X U Z F spd cap hd.1.okN hd.2.1) (gaV qM_L_21 qI_X6_addPlow qS_X6_addPlow qK_X6 qC_X6_addPlow) hdv_X6_addPlow ⟨(Nat.le_of_ble_eq_true rfl), (Nat.le_of_ble_eq_true rfl)⟩ hG (Sn.recv hK hG) rfl (Nat.le_of_ble_eq_true rfl) ⟨(Nat.le_of_ble_eq_true rfl), (Nat.le_of_ble_eq_true rfl)⟩ dL_addPlow_3 hS hA (fun ce q9 H locs hcx hG1 hz hq hS hce hv hcl => ?_) (fun H locs hc0 hG1 hz hq hS => ?_)
  · have hP9 : St D r P' Q' n' H := ⟨_, J, _, Y, X, U, Z, F, by rw [← hn1]; exact hG1, hd1, hf⟩
    rcases ec_addPlow.elim (fun h => absurd h hcx) id with hk | hk
    · rw [hk] at hcl
      refine vx_catch (name := exN 1) (E := exN 1) hown [] (⟨0, 6, 7, 15⟩ : ExceptionTableEntry) [(⟨0, 6, 11, 18⟩ : ExceptionTableEntry)] (by rw [htab]; rfl) (fun z hz => absurd hz List.not_mem_nil) (by decide) (by decide) (hts _ qL_L_15) (va_Nw.use rfl (hKx.2.2.2.1 _ (ex_cast 1 (by decide)))) hce hv hcl ?_
      refine lv_astore_n (lv' := [(3, .ref q9), (0, .ref r), (1, .int spd), (2, .int cap)]) hx hb dL_addPlow_7 rfl hl (by decide) rfl (fun ls hl => ?_)
      refine lv_ldc hx hb hown (hts _ qV_L_17) dL_addPlow_8 ?_
      refine vx_ret (W.widen (k := 3) (n := 18) (by omega) (by omega) ?_)
      exact W.iret hx hb hr (fun t ht hW => gQi_of (by rw [← ha, hk, ans_1]) hP9 hS ht) hS.2.2 dL_addPlow_10
    · rw [hk] at hcl
      refine vx_catch (name := exN 2) (E := exN 2) hown [(⟨0, 6, 7, 15⟩ : ExceptionTableEntry)] (⟨0, 6, 11, 18⟩ : ExceptionTableEntry) [] (by rw [htab]; rfl) (fun z hz => Or.inr (by rw [List.mem_singleton] at hz; subst hz; exact ⟨by decide, exN 1, hts _ qL_L_15, hKx.2.2.2.2 2 1 (by decide) (by decide) (by decide) (by decide) (by decide)⟩)) (by decide) (by decide) (hts _ qL_L_18) (va_Nw.use rfl (hKx.2.2.2.1 _ (ex_cast 2 (by decide)))) hce hv hcl ?_
      refine lv_astore_n (lv' := [(3, .ref q9), (0, .ref r), (1, .int spd), (2, .int cap)]) hx hb dL_addPlow_11 rfl hl (by decide) rfl (fun ls hl => ?_)
      refine lv_ldc hx hb hown (hts _ qV_L_20) dL_addPlow_12 ?_
      refine vx_ret (W.widen (k := 3) (n := 18) (by omega) (by omega) ?_)
      exact W.iret hx hb hr (fun t ht hW => gQi_of (by rw [← ha, hk, ans_2]) hP9 hS ht) hS.2.2 dL_addPlow_14
  · have hP9 : St D r P' Q' n' H := ⟨_, J, _, Y, X, U, Z, F, by rw [← hn1]; exact hG1, hd1, hf⟩
    refine vx_ret (W.widen (k := 3) (n := 18) (by omega) (by omega) ?_)
    exact W.iret hx hb hr (fun t ht hW => gQi_of (by rw [← ha, hc0, ans_0]) hP9 hS ht) hS.2.2 dL_addPlow_6
theorem hds_L_addStop : yL_addStop.cls ≠ "java/lang/invoke/MethodHandle" ∧ yL_addStop.cls ≠ "java/lang/invoke/VarHandle" ∧ (parseMethodDescriptor yL_addStop.desc).map (fun d => d.parameters.length) = some 3 := by decide +kernel
set_option maxHeartbeats 4000000 in
set_option maxRecDepth 100000 in
theorem c_L_addStop (l : Launch) (hl0 : l.stackTraces = false) (D : va_G) (r : Nat) (P : Nat → Int32) (Q : Nat → Nat → Int32) (n : Nat) (P' : Nat → Int32) (Q' : Nat → Nat → Int32) (n' : Nat) (a : Int32) (pl : Int32) (str : Int32) (hE : ∀ (C : Nat → Int32) (G : Nat → Nat → Int32), Sd C G n P Q → ans (fE_X6_addStop C G n pl str) (fR_X6_addStop C G n pl str) = a ∧ fn_X6_addStop C G n pl str = n' ∧ Sd (fC_X6_addStop C G n pl str) (fG_X6_addStop C G n pl str) n' P' Q') : vx_Met l yL_addStop (wH yL_addStop cL_addStop 4 (some .int) [(0, 6, 7, 27), (0, 6, 11, 18)]) (rmX 9 3 18) (xPc D r [.ref r, .int pl, .int str] (fun H => St D r P Q n H)) (gQi (inS r) a (fun H => St D r P' Q' n' H)) (fun _ _ _ => False) 3 18 (inS r) := by
  refine vx_ofWH (cc := cL_addStop) (maxL := 4) (ret := (some .int)) (by decide) rfl ?_
  intro p e s m args below meth c s₁ B hml hv
  obtain ⟨hav, ⟨C, J, G, Y, X, U, Z, F, hG, hd, hf⟩, hK, hKx⟩ := hv
  have hx := B.exec
  have hb := B.bytes
  have hr := B.returns
  have hts0 := atoms_spec (ws := wH yL_addStop cL_addStop 4 (some .int) [(0, 6, 7, 27), (0, 6, 11, 18)]) B.pre
  have htab := vx_table (x := yL_addStop) B (hts0 _ List.mem_cons_self)
  have hts : ∀ w ∈ AW, w.before _ s = true := fun w h => hts0 w (List.mem_cons_of_mem _ h)
  have hown : s.vm.findClass RL = some m.cls := findClass_of_methodNamed B.named
  have hlocks := B.notSynchronized
  have hr0 : ∀ q, inS r q → r ≤ q := fun q h => h.1
  have hA : ∀ q, inS r q → inS r q := fun _ h => h
  have hS : va_S (inS r) s.heap s.heap [] := va_S.rf
  have hG : Sn D r C J G n Y X U Z F s.heap := hG
  have hl := lv_entry ([.ref r, .int pl, .int str]) (n := 4) (Nat.le_of_ble_eq_true rfl)
  refine W.eq (g2 := entryFrame m ([.ref r, .int pl, .int str] : List Value).toArray 4) (by rw [hav]) ?_
  rw [lg_entry_eq]
  generalize (lg_sl ([.ref r, .int pl, .int str]) ++ List.replicate (4 - (lg_sl ([.ref r, .int pl, .int str])).length) Slot.unset).toArray = ls at hl ⊢
  have hl : lv_has ls 4 [(0, .ref r), (1, .int pl), (2, .int str)] := hl
  obtain ⟨ha, hn1, hd1⟩ := hE C G hd
  refine lv_aload_n hx hb dL_addStop_0 rfl (lv_at hl 0 rfl) ?_
  refine lv_iload_n hx hb dL_addStop_1 rfl (lv_at hl 1 rfl) ?_
  refine lv_iload_n hx hb dL_addStop_2 rfl (lv_at hl 2 rfl) ?_
  refine xcVi (As := [.int pl, .int str]) (rest := []) hx hb hml hown hts hl.1 hK hKx hr0 (c_X6_addStop l hl0 D r C J G n Y X U Z F pl str hd.1.okN hd.2.1 hd.1.okQ) (gaV qM_L_24 qI_X6_addStop qS_X6_addStop qK_X6 qC_X6_addStop) hdv_X6_addStop ⟨(Nat.le_of_ble_eq_true rfl), (Nat.le_of_ble_eq_true rfl)⟩ hG (Sn.recv hK hG) rfl (Nat.le_of_ble_eq_true rfl) ⟨(Nat.le_of_ble_eq_true rfl), (Nat.le_of_ble_eq_true rfl)⟩ dL_addStop_3 hS hA (fun ce q9 H locs hcx hG1 hz hq hS hce hv hcl => ?_) (fun H locs hc0 hG1 hz hq hS => ?_)
  · have hP9 : St D r P' Q' n' H := ⟨_, J, _, Y, X, U, Z, F, by rw [← hn1]; exact hG1, hd1, hf⟩
    rcases ec_addStop.elim (fun h => absurd h hcx) id with hk | hk
    · rw [hk] at hcl
      refine vx_catch (name := exN 3) (E := exN 3) hown [] (⟨0, 6, 7, 27⟩ : ExceptionTableEntry) [(⟨0, 6, 11, 18⟩ : ExceptionTableEntry)] (by rw [htab]; rfl) (fun z hz => absurd hz List.not_mem_nil) (by decide) (by decide) (hts _ qL_L_27) (va_Nw.use rfl (hKx.2.2.2.1 _ (ex_cast 3 (by decide)))) hce hv hcl ?_
      refine lv_astore_n (lv' := [(3, .ref q9), (0, .ref r), (1, .int pl), (2, .int str)]) hx hb dL_addStop_7 rfl hl (by decide) rfl (fun ls hl => ?_)
      refine lv_ldc hx hb hown (hts _ qV_L_29) dL_addStop_8 ?_
      refine vx_ret (W.widen (k := 3) (n := 18) (by omega) (by omega) ?_)
      exact W.iret hx hb hr (fun t ht hW => gQi_of (by rw [← ha, hk, ans_3]) hP9 hS ht) hS.2.2 dL_addStop_10
    · rw [hk] at hcl
      refine vx_catch (name := exN 2) (E := exN 2) hown [(⟨0, 6, 7, 27⟩ : ExceptionTableEntry)] (⟨0, 6, 11, 18⟩ : ExceptionTableEntry) [] (by rw [htab]; rfl) (fun z hz => Or.inr (by rw [List.mem_singleton] at hz; subst hz; exact ⟨by decide, exN 3, hts _ qL_L_27, hKx.2.2.2.2 2 3 (by decide) (by decide) (by decide) (by decide) (by decide)⟩)) (by decide) (by decide) (hts _ qL_L_18) (va_Nw.use rfl (hKx.2.2.2.1 _ (ex_cast 2 (by decide)))) hce hv hcl ?_
      refine lv_astore_n (lv' := [(3, .ref q9), (0, .ref r), (1, .int pl), (2, .int str)]) hx hb dL_addStop_11 rfl hl (by decide) rfl (fun ls hl => ?_)
      refine lv_ldc hx hb hown (hts _ qV_L_20) dL_addStop_12 ?_
      refine vx_ret (W.widen (k := 3) (n := 18) (by omega) (by omega) ?_)
      exact W.iret hx hb hr (fun t ht hW => gQi_of (by rw [← ha, hk, ans_2]) hP9 hS ht) hS.2.2 dL_addStop_14
  · have hP9 : St D r P' Q' n' H := ⟨_, J, _, Y, X, U, Z, F, by rw [← hn1]; exact hG1, hd1, hf⟩
    refine vx_ret (W.widen (k := 3) (n := 18) (by omega) (by omega) ?_)
    exact W.iret hx hb hr (fun t ht hW => gQi_of (by rw [← ha, hc0, ans_0]) hP9 hS ht) hS.2.2 dL_addStop_6
theorem hds_L_clearRoute : yL_clearRoute.cls ≠ "java/lang/invoke/MethodHandle" ∧ yL_clearRoute.cls ≠ "java/lang/invoke/VarHandle" ∧ (parseMethodDescriptor yL_clearRoute.desc).map (fun d => d.parameters.length) = some 2 := by decide +kernel
set_option maxHeartbeats 4000000 in
set_option maxRecDepth 100000 in
theorem c_L_clearRoute (l : Launch) (hl0 : l.stackTraces = false) (D : va_G) (r : Nat) (P : Nat → Int32) (Q : Nat → Nat → Int32) (n : Nat) (P' : Nat → Int32) (Q' : Nat → Nat → Int32) (n' : Nat) (a : Int32) (pl : Int32) (hE : ∀ (C : Nat → Int32) (G : Nat → Nat → Int32), Sd C G n P Q → ans (fE_X6_clearRoute C G n pl) (fR_X6_clearRoute C G n pl) = a ∧ fn_X6_clearRoute C G n pl = n' ∧ Sd (fC_X6_clearRoute C G n pl) (fG_X6_clearRoute C G n pl) n' P' Q') : vx_Met l yL_clearRoute (wH yL_clearRoute cL_clearRoute 3 (some .int) [(0, 5, 6, 27)]) (rmX 9 1 6) (xPc D r [.ref r, .int pl] (fun H => St D r P Q n H)) (gQi (inS r) a (fun H => St D r P' Q' n' H)) (fun _ _ _ => False) 1 6 (inS r) := by
  refine vx_ofWH (cc := cL_clearRoute) (maxL := 3) (ret := (some .int)) (by decide) rfl ?_
  intro p e s m args below meth c s₁ B hml hv
  obtain ⟨hav, ⟨C, J, G, Y, X, U, Z, F, hG, hd, hf⟩, hK, hKx⟩ := hv
  have hx := B.exec
  have hb := B.bytes
  have hr := B.returns
  have hts0 := atoms_spec (ws := wH yL_clearRoute cL_clearRoute 3 (some .int) [(0, 5, 6, 27)]) B.pre
  have htab := vx_table (x := yL_clearRoute) B (hts0 _ List.mem_cons_self)
  have hts : ∀ w ∈ AW, w.before _ s = true := fun w h => hts0 w (List.mem_cons_of_mem _ h)
  have hown : s.vm.findClass RL = some m.cls := findClass_of_methodNamed B.named
  have hlocks := B.notSynchronized
  have hr0 : ∀ q, inS r q → r ≤ q := fun q h => h.1
  have hA : ∀ q, inS r q → inS r q := fun _ h => h
  have hS : va_S (inS r) s.heap s.heap [] := va_S.rf
  have hG : Sn D r C J G n Y X U Z F s.heap := hG
  have hl := lv_entry ([.ref r, .int pl]) (n := 3) (Nat.le_of_ble_eq_true rfl)
  refine W.eq (g2 := entryFrame m ([.ref r, .int pl] : List Value).toArray 3) (by rw [hav]) ?_
  rw [lg_entry_eq]
  generalize (lg_sl ([.ref r, .int pl]) ++ List.replicate (3 - (lg_sl ([.ref r, .int pl])).length) Slot.unset).toArray = ls at hl ⊢
  have hl : lv_has ls 3 [(0, .ref r), (1, .int pl)] := hl
  obtain ⟨ha, hn1, hd1⟩ := hE C G hd
  refine lv_aload_n hx hb dL_clearRoute_0 rfl (lv_at hl 0 rfl) ?_
  refine lv_iload_n hx hb dL_clearRoute_1 rfl (lv_at hl 1 rfl) ?_
  refine xcVi (As := [.int pl]) (rest := []) hx hb hml hown hts hl.1 hK hKx hr0 (c_X6_clearRoute l hl0 D r C J G n Y X U Z F pl hd.1.okN hd.2.1) (gaV qM_L_30 qI_X6_clearRoute qS_X6_clearRoute qK_X6 qC_X6_clearRoute) hdv_X6_clearRoute ⟨(Nat.le_of_ble_eq_true rfl), (Nat.le_of_ble_eq_true rfl)⟩ hG (Sn.recv hK hG) rfl (Nat.le_of_ble_eq_true rfl) ⟨(Nat.le_of_ble_eq_true rfl), (Nat.le_of_ble_eq_true rfl)⟩ dL_clearRoute_2 hS hA (fun ce q9 H locs hcx hG1 hz hq hS hce hv hcl => ?_) (fun H locs hc0 hG1 hz hq hS => ?_)
  · have hP9 : St D r P' Q' n' H := ⟨_, J, _, Y, X, U, Z, F, by rw [← hn1]; exact hG1, hd1, hf⟩
    have hk : fE_X6_clearRoute C G n pl = 3 := ec_clearRoute.elim (fun h => absurd h hcx) (fun h => h.elim id id)
    rw [hk] at hcl
    refine vx_catch (name := exN 3) (E := exN 3) hown [] (⟨0, 5, 6, 27⟩ : ExceptionTableEntry) [] (by rw [htab]; rfl) (fun z hz => absurd hz List.not_mem_nil) (by decide) (by decide) (hts _ qL_L_27) (va_Nw.use rfl (hKx.2.2.2.1 _ (ex_cast 3 (by decide)))) hce hv hcl ?_
    refine lv_astore_n (lv' := [(2, .ref q9), (0, .ref r), (1, .int pl)]) hx hb dL_clearRoute_6 rfl hl (by decide) rfl (fun ls hl => ?_)
    refine lv_ldc hx hb hown (hts _ qV_L_29) dL_clearRoute_7 ?_
    refine vx_ret (W.widen (k := 1) (n := 6) (by omega) (by omega) ?_)
    exact W.iret hx hb hr (fun t ht hW => gQi_of (by rw [← ha, hk, ans_3]) hP9 hS ht) hS.2.2 dL_clearRoute_9
  · have hP9 : St D r P' Q' n' H := ⟨_, J, _, Y, X, U, Z, F, by rw [← hn1]; exact hG1, hd1, hf⟩
    refine vx_ret (W.widen (k := 1) (n := 6) (by omega) (by omega) ?_)
    exact W.iret hx hb hr (fun t ht hW => gQi_of (by rw [← ha, hc0, ans_0]) hP9 hS ht) hS.2.2 dL_clearRoute_5
theorem hds_L_exchange : yL_exchange.cls ≠ "java/lang/invoke/MethodHandle" ∧ yL_exchange.cls ≠ "java/lang/invoke/VarHandle" ∧ (parseMethodDescriptor yL_exchange.desc).map (fun d => d.parameters.length) = some 3 := by decide +kernel
set_option maxHeartbeats 4000000 in
set_option maxRecDepth 100000 in
theorem c_L_exchange (l : Launch) (hl0 : l.stackTraces = false) (D : va_G) (r : Nat) (P : Nat → Int32) (Q : Nat → Nat → Int32) (n : Nat) (P' : Nat → Int32) (Q' : Nat → Nat → Int32) (n' : Nat) (a : Int32) (pl : Int32) (x : Int32) (hE : ∀ (C : Nat → Int32) (G : Nat → Nat → Int32), Sd C G n P Q → ans (fE_X6_exchange C G n pl x) (fR_X6_exchange C G n pl x) = a ∧ fn_X6_exchange C G n pl x = n' ∧ Sd (fC_X6_exchange C G n pl x) (fG_X6_exchange C G n pl x) n' P' Q') : vx_Met l yL_exchange (wH yL_exchange cL_exchange 4 (some .int) [(0, 6, 7, 27), (0, 6, 11, 18)]) (rmX 9 3 18) (xPc D r [.ref r, .int pl, .int x] (fun H => St D r P Q n H)) (gQi (inS r) a (fun H => St D r P' Q' n' H)) (fun _ _ _ => False) 3 18 (inS r) := by
  refine vx_ofWH (cc := cL_exchange) (maxL := 4) (ret := (some .int)) (by decide) rfl ?_
  intro p e s m args below meth c s₁ B hml hv
  obtain ⟨hav, ⟨C, J, G, Y, X, U, Z, F, hG, hd, hf⟩, hK, hKx⟩ := hv
  have hx := B.exec
  have hb := B.bytes
  have hr := B.returns
  have hts0 := atoms_spec (ws := wH yL_exchange cL_exchange 4 (some .int) [(0, 6, 7, 27), (0, 6, 11, 18)]) B.pre
  have htab := vx_table (x := yL_exchange) B (hts0 _ List.mem_cons_self)
  have hts : ∀ w ∈ AW, w.before _ s = true := fun w h => hts0 w (List.mem_cons_of_mem _ h)
  have hown : s.vm.findClass RL = some m.cls := findClass_of_methodNamed B.named
  have hlocks := B.notSynchronized
  have hr0 : ∀ q, inS r q → r ≤ q := fun q h => h.1
  have hA : ∀ q, inS r q → inS r q := fun _ h => h
  have hS : va_S (inS r) s.heap s.heap [] := va_S.rf
  have hG : Sn D r C J G n Y X U Z F s.heap := hG
  have hl := lv_entry ([.ref r, .int pl, .int x]) (n := 4) (Nat.le_of_ble_eq_true rfl)
  refine W.eq (g2 := entryFrame m ([.ref r, .int pl, .int x] : List Value).toArray 4) (by rw [hav]) ?_
  rw [lg_entry_eq]
  generalize (lg_sl ([.ref r, .int pl, .int x]) ++ List.replicate (4 - (lg_sl ([.ref r, .int pl, .int x])).length) Slot.unset).toArray = ls at hl ⊢
  have hl : lv_has ls 4 [(0, .ref r), (1, .int pl), (2, .int x)] := hl
  obtain ⟨ha, hn1, hd1⟩ := hE C G hd
  refine lv_aload_n hx hb dL_exchange_0 rfl (lv_at hl 0 rfl) ?_
  refine lv_iload_n hx hb dL_exchange_1 rfl (lv_at hl 1 rfl) ?_
  refine lv_iload_n hx hb dL_exchange_2 rfl (lv_at hl 2 rfl) ?_
  refine xcVi (As := [.int pl, .int x]) (rest := []) hx hb hml hown hts hl.1 hK hKx hr0 (c_X6_exchange l hl0 D r C J G n Y X U Z F pl x hd.1.okN hd.2.1 hd.1.okQ) (gaV qM_L_34 qI_X6_exchange qS_X6_exchange qK_X6 qC_X6_exchange) hdv_X6_exchange ⟨(Nat.le_of_ble_eq_true rfl), (Nat.le_of_ble_eq_true rfl)⟩ hG (Sn.recv hK hG) rfl (Nat.le_of_ble_eq_true rfl) ⟨(Nat.le_of_ble_eq_true rfl), (Nat.le_of_ble_eq_true rfl)⟩ dL_exchange_3 hS hA (fun ce q9 H locs hcx hG1 hz hq hS hce hv hcl => ?_) (fun H locs hc0 hG1 hz hq hS => ?_)
  · have hP9 : St D r P' Q' n' H := ⟨_, J, _, Y, X, U, Z, F, by rw [← hn1]; exact hG1, hd1, hf⟩
    rcases ec_exchange.elim (fun h => absurd h hcx) id with hk | hk
    · rw [hk] at hcl
      refine vx_catch (name := exN 3) (E := exN 3) hown [] (⟨0, 6, 7, 27⟩ : ExceptionTableEntry) [(⟨0, 6, 11, 18⟩ : ExceptionTableEntry)] (by rw [htab]; rfl) (fun z hz => absurd hz List.not_mem_nil) (by decide) (by decide) (hts _ qL_L_27) (va_Nw.use rfl (hKx.2.2.2.1 _ (ex_cast 3 (by decide)))) hce hv hcl ?_
      refine lv_astore_n (lv' := [(3, .ref q9), (0, .ref r), (1, .int pl), (2, .int x)]) hx hb dL_exchange_7 rfl hl (by decide) rfl (fun ls hl => ?_)
      refine lv_ldc hx hb hown (hts _ qV_L_29) dL_exchange_8 ?_
      refine vx_ret (W.widen (k := 3) (n := 18) (by omega) (by omega) ?_)
      exact W.iret hx hb hr (fun t ht hW => gQi_of (by rw [← ha, hk, ans_3]) hP9 hS ht) hS.2.2 dL_exchange_10
    · rw [hk] at hcl
      refine vx_catch (name := exN 2) (E := exN 2) hown [(⟨0, 6, 7, 27⟩ : ExceptionTableEntry)] (⟨0, 6, 11, 18⟩ : ExceptionTableEntry) [] (by rw [htab]; rfl) (fun z hz => Or.inr (by rw [List.mem_singleton] at hz; subst hz; exact ⟨by decide, exN 3, hts _ qL_L_27, hKx.2.2.2.2 2 3 (by decide) (by decide) (by decide) (by decide) (by decide)⟩)) (by decide) (by decide) (hts _ qL_L_18) (va_Nw.use rfl (hKx.2.2.2.1 _ (ex_cast 2 (by decide)))) hce hv hcl ?_
      refine lv_astore_n (lv' := [(3, .ref q9), (0, .ref r), (1, .int pl), (2, .int x)]) hx hb dL_exchange_11 rfl hl (by decide) rfl (fun ls hl => ?_)
      refine lv_ldc hx hb hown (hts _ qV_L_20) dL_exchange_12 ?_
      refine vx_ret (W.widen (k := 3) (n := 18) (by omega) (by omega) ?_)
      exact W.iret hx hb hr (fun t ht hW => gQi_of (by rw [← ha, hk, ans_2]) hP9 hS ht) hS.2.2 dL_exchange_14
  · have hP9 : St D r P' Q' n' H := ⟨_, J, _, Y, X, U, Z, F, by rw [← hn1]; exact hG1, hd1, hf⟩
    refine vx_ret (W.widen (k := 3) (n := 18) (by omega) (by omega) ?_)
    exact W.iret hx hb hr (fun t ht hW => gQi_of (by rw [← ha, hc0, ans_0]) hP9 hS ht) hS.2.2 dL_exchange_6
theorem hds_L_setTerms : yL_setTerms.cls ≠ "java/lang/invoke/MethodHandle" ∧ yL_setTerms.cls ≠ "java/lang/invoke/VarHandle" ∧ (parseMethodDescriptor yL_setTerms.desc).map (fun d => d.parameters.length) = some 5 := by decide +kernel
set_option maxHeartbeats 4000000 in
set_option maxRecDepth 100000 in
theorem c_L_setTerms (l : Launch) (hl0 : l.stackTraces = false) (D : va_G) (r : Nat) (P : Nat → Int32) (Q : Nat → Nat → Int32) (n : Nat) (P' : Nat → Int32) (Q' : Nat → Nat → Int32) (n' : Nat) (a : Int32) (pri : Int32) (tr : Int32) (li : Int32) (cr : Int32) (hE : ∀ (C : Nat → Int32) (G : Nat → Nat → Int32), Sd C G n P Q → ans (fE_X6_setTerms C G n pri tr li cr) (fR_X6_setTerms C G n pri tr li cr) = a ∧ fn_X6_setTerms C G n pri tr li cr = n' ∧ Sd (fC_X6_setTerms C G n pri tr li cr) (fG_X6_setTerms C G n pri tr li cr) n' P' Q') : vx_Met l yL_setTerms (wH yL_setTerms cL_setTerms 6 (some .int) [(0, 9, 10, 27), (0, 9, 15, 15)]) (rmX 8 4 24) (xPc D r [.ref r, .int pri, .int tr, .int li, .int cr] (fun H => St D r P Q n H)) (gQi (inS r) a (fun H => St D r P' Q' n' H)) (fun _ _ _ => False) 4 24 (inS r) := by
  refine vx_ofWH (cc := cL_setTerms) (maxL := 6) (ret := (some .int)) (by decide) rfl ?_
  intro p e s m args below meth c s₁ B hml hv
  obtain ⟨hav, ⟨C, J, G, Y, X, U, Z, F, hG, hd, hf⟩, hK, hKx⟩ := hv
  have hx := B.exec
  have hb := B.bytes
  have hr := B.returns
  have hts0 := atoms_spec (ws := wH yL_setTerms cL_setTerms 6 (some .int) [(0, 9, 10, 27), (0, 9, 15, 15)]) B.pre
  have htab := vx_table (x := yL_setTerms) B (hts0 _ List.mem_cons_self)
  have hts : ∀ w ∈ AW, w.before _ s = true := fun w h => hts0 w (List.mem_cons_of_mem _ h)
  have hown : s.vm.findClass RL = some m.cls := findClass_of_methodNamed B.named
  have hlocks := B.notSynchronized
  have hr0 : ∀ q, inS r q → r ≤ q := fun q h => h.1
  have hA : ∀ q, inS r q → inS r q := fun _ h => h
  have hS : va_S (inS r) s.heap s.heap [] := va_S.rf
  have hG : Sn D r C J G n Y X U Z F s.heap := hG
  have hl := lv_entry ([.ref r, .int pri, .int tr, .int li, .int cr]) (n := 6) (Nat.le_of_ble_eq_true rfl)
  refine W.eq (g2 := entryFrame m ([.ref r, .int pri, .int tr, .int li, .int cr] : List Value).toArray 6) (by rw [hav]) ?_
  rw [lg_entry_eq]
  generalize (lg_sl ([.ref r, .int pri, .int tr, .int li, .int cr]) ++ List.replicate (6 - (lg_sl ([.ref r, .int pri, .int tr, .int li, .int cr])).length) Slot.unset).toArray = ls at hl ⊢
  have hl : lv_has ls 6 [(0, .ref r), (1, .int pri), (2, .int tr), (3, .int li), (4, .int cr)] := hl
  obtain ⟨ha, hn1, hd1⟩ := hE C G hd
  refine lv_aload_n hx hb dL_setTerms_0 rfl (lv_at hl 0 rfl) ?_
  refine lv_iload_n hx hb dL_setTerms_1 rfl (lv_at hl 1 rfl) ?_
  refine lv_iload_n hx hb dL_setTerms_2 rfl (lv_at hl 2 rfl) ?_
  refine lv_iload_n hx hb dL_setTerms_3 rfl (lv_at hl 3 rfl) ?_
  refine lv_iload hx hb dL_setTerms_4 (lv_at hl 4 rfl) ?_
  refine xcVi (As := [.int pri, .int tr, .int li, .int cr]) (rest := []) hx hb hml hown hts hl.1 hK hKx hr0 (c_X6_setTerms l hl0 D r C J G n Y X U Z F pri tr li cr hd.1.okN hd.2.1) (gaV qM_L_37 qI_X6_setTerms qS_X6_setTerms qK_X6 qC_X6_setTerms) hdv_X6_setTerms ⟨(Nat.le_of_ble_eq_true rfl), (Nat.le_of_ble_eq_true rfl)⟩ hG (Sn.recv hK hG) rfl (Nat.le_of_ble_eq_true rfl) ⟨(Nat.le_of_ble_eq_true rfl), (Nat.le_of_ble_eq_true rfl)⟩ dL_setTerms_6 hS hA (fun ce q9 H locs hcx hG1 hz hq hS hce hv hcl => ?_) (fun H locs hc0 hG1 hz hq hS => ?_)
  · have hP9 : St D r P' Q' n' H := ⟨_, J, _, Y, X, U, Z, F, by rw [← hn1]; exact hG1, hd1, hf⟩
    rcases ec_setTerms.elim (fun h => absurd h hcx) id with hk | hk
    · rw [hk] at hcl
      refine vx_catch (name := exN 3) (E := exN 3) hown [] (⟨0, 9, 10, 27⟩ : ExceptionTableEntry) [(⟨0, 9, 15, 15⟩ : ExceptionTableEntry)] (by rw [htab]; rfl) (fun z hz => absurd hz List.not_mem_nil) (by decide) (by decide) (hts _ qL_L_27) (va_Nw.use rfl (hKx.2.2.2.1 _ (ex_cast 3 (by decide)))) hce hv hcl ?_
      refine lv_astore (lv' := [(5, .ref q9), (0, .ref r), (1, .int pri), (2, .int tr), (3, .int li), (4, .int cr)]) hx hb dL_setTerms_10 hl (by decide) rfl (fun ls hl => ?_)
      refine lv_ldc hx hb hown (hts _ qV_L_29) dL_setTerms_12 ?_
      refine vx_ret (W.widen (k := 4) (n := 24) (by omega) (by omega) ?_)
      exact W.iret hx hb hr (fun t ht hW => gQi_of (by rw [← ha, hk, ans_3]) hP9 hS ht) hS.2.2 dL_setTerms_14
    · rw [hk] at hcl
      refine vx_catch (name := exN 1) (E := exN 1) hown [(⟨0, 9, 10, 27⟩ : ExceptionTableEntry)] (⟨0, 9, 15, 15⟩ : ExceptionTableEntry) [] (by rw [htab]; rfl) (fun z hz => Or.inr (by rw [List.mem_singleton] at hz; subst hz; exact ⟨by decide, exN 3, hts _ qL_L_27, hKx.2.2.2.2 1 3 (by decide) (by decide) (by decide) (by decide) (by decide)⟩)) (by decide) (by decide) (hts _ qL_L_15) (va_Nw.use rfl (hKx.2.2.2.1 _ (ex_cast 1 (by decide)))) hce hv hcl ?_
      refine lv_astore (lv' := [(5, .ref q9), (0, .ref r), (1, .int pri), (2, .int tr), (3, .int li), (4, .int cr)]) hx hb dL_setTerms_15 hl (by decide) rfl (fun ls hl => ?_)
      refine lv_ldc hx hb hown (hts _ qV_L_17) dL_setTerms_17 ?_
      refine vx_ret (W.widen (k := 4) (n := 24) (by omega) (by omega) ?_)
      exact W.iret hx hb hr (fun t ht hW => gQi_of (by rw [← ha, hk, ans_1]) hP9 hS ht) hS.2.2 dL_setTerms_19
  · have hP9 : St D r P' Q' n' H := ⟨_, J, _, Y, X, U, Z, F, by rw [← hn1]; exact hG1, hd1, hf⟩
    refine vx_ret (W.widen (k := 4) (n := 24) (by omega) (by omega) ?_)
    exact W.iret hx hb hr (fun t ht hW => gQi_of (by rw [← ha, hc0, ans_0]) hP9 hS ht) hS.2.2 dL_setTerms_9
theorem hds_L_setSpread : yL_setSpread.cls ≠ "java/lang/invoke/MethodHandle" ∧ yL_setSpread.cls ≠ "java/lang/invoke/VarHandle" ∧ (parseMethodDescriptor yL_setSpread.desc).map (fun d => d.parameters.length) = some 2 := by decide +kernel
set_option maxHeartbeats 4000000 in
set_option maxRecDepth 100000 in
theorem c_L_setSpread (l : Launch) (hl0 : l.stackTraces = false) (D : va_G) (r : Nat) (P : Nat → Int32) (Q : Nat → Nat → Int32) (n : Nat) (P' : Nat → Int32) (Q' : Nat → Nat → Int32) (n' : Nat) (a : Int32) (sp : Int32) (hE : ∀ (C : Nat → Int32) (G : Nat → Nat → Int32), Sd C G n P Q → ans (fE_X6_setSpread C G n sp) (fR_X6_setSpread C G n sp) = a ∧ fn_X6_setSpread C G n sp = n' ∧ Sd (fC_X6_setSpread C G n sp) (fG_X6_setSpread C G n sp) n' P' Q') : vx_Met l yL_setSpread (wH yL_setSpread cL_setSpread 3 (some .int) [(0, 5, 6, 15)]) (rmX 8 1 6) (xPc D r [.ref r, .int sp] (fun H => St D r P Q n H)) (gQi (inS r) a (fun H => St D r P' Q' n' H)) (fun _ _ _ => False) 1 6 (inS r) := by
  refine vx_ofWH (cc := cL_setSpread) (maxL := 3) (ret := (some .int)) (by decide) rfl ?_
  intro p e s m args below meth c s₁ B hml hv
  obtain ⟨hav, ⟨C, J, G, Y, X, U, Z, F, hG, hd, hf⟩, hK, hKx⟩ := hv
  have hx := B.exec
  have hb := B.bytes
  have hr := B.returns
  have hts0 := atoms_spec (ws := wH yL_setSpread cL_setSpread 3 (some .int) [(0, 5, 6, 15)]) B.pre
  have htab := vx_table (x := yL_setSpread) B (hts0 _ List.mem_cons_self)
  have hts : ∀ w ∈ AW, w.before _ s = true := fun w h => hts0 w (List.mem_cons_of_mem _ h)
  have hown : s.vm.findClass RL = some m.cls := findClass_of_methodNamed B.named
  have hlocks := B.notSynchronized
  have hr0 : ∀ q, inS r q → r ≤ q := fun q h => h.1
  have hA : ∀ q, inS r q → inS r q := fun _ h => h
  have hS : va_S (inS r) s.heap s.heap [] := va_S.rf
  have hG : Sn D r C J G n Y X U Z F s.heap := hG
  have hl := lv_entry ([.ref r, .int sp]) (n := 3) (Nat.le_of_ble_eq_true rfl)
  refine W.eq (g2 := entryFrame m ([.ref r, .int sp] : List Value).toArray 3) (by rw [hav]) ?_
  rw [lg_entry_eq]
  generalize (lg_sl ([.ref r, .int sp]) ++ List.replicate (3 - (lg_sl ([.ref r, .int sp])).length) Slot.unset).toArray = ls at hl ⊢
  have hl : lv_has ls 3 [(0, .ref r), (1, .int sp)] := hl
  obtain ⟨ha, hn1, hd1⟩ := hE C G hd
  refine lv_aload_n hx hb dL_setSpread_0 rfl (lv_at hl 0 rfl) ?_
  refine lv_iload_n hx hb dL_setSpread_1 rfl (lv_at hl 1 rfl) ?_
  refine xcVi (As := [.int sp]) (rest := []) hx hb hml hown hts hl.1 hK hKx hr0 (c_X6_setSpread l hl0 D r C J G n Y X U Z F sp hd.1.okN hd.2.1) (gaV qM_L_41 qI_X6_setSpread qS_X6_setSpread qK_X6 qC_X6_setSpread) hdv_X6_setSpread ⟨(Nat.le_of_ble_eq_true rfl), (Nat.le_of_ble_eq_true rfl)⟩ hG (Sn.recv hK hG) rfl (Nat.le_of_ble_eq_true rfl) ⟨(Nat.le_of_ble_eq_true rfl), (Nat.le_of_ble_eq_true rfl)⟩ dL_setSpread_2 hS hA (fun ce q9 H locs hcx hG1 hz hq hS hce hv hcl => ?_) (fun H locs hc0 hG1 hz hq hS => ?_)
  · have hP9 : St D r P' Q' n' H := ⟨_, J, _, Y, X, U, Z, F, by rw [← hn1]; exact hG1, hd1, hf⟩
    have hk : fE_X6_setSpread C G n sp = 1 := ec_setSpread.elim (fun h => absurd h hcx) (fun h => h.elim id id)
    rw [hk] at hcl
    refine vx_catch (name := exN 1) (E := exN 1) hown [] (⟨0, 5, 6, 15⟩ : ExceptionTableEntry) [] (by rw [htab]; rfl) (fun z hz => absurd hz List.not_mem_nil) (by decide) (by decide) (hts _ qL_L_15) (va_Nw.use rfl (hKx.2.2.2.1 _ (ex_cast 1 (by decide)))) hce hv hcl ?_
    refine lv_astore_n (lv' := [(2, .ref q9), (0, .ref r), (1, .int sp)]) hx hb dL_setSpread_6 rfl hl (by decide) rfl (fun ls hl => ?_)
    refine lv_ldc hx hb hown (hts _ qV_L_17) dL_setSpread_7 ?_
    refine vx_ret (W.widen (k := 1) (n := 6) (by omega) (by omega) ?_)
    exact W.iret hx hb hr (fun t ht hW => gQi_of (by rw [← ha, hk, ans_1]) hP9 hS ht) hS.2.2 dL_setSpread_9
  · have hP9 : St D r P' Q' n' H := ⟨_, J, _, Y, X, U, Z, F, by rw [← hn1]; exact hG1, hd1, hf⟩
    refine vx_ret (W.widen (k := 1) (n := 6) (by omega) (by omega) ?_)
    exact W.iret hx hb hr (fun t ht hW => gQi_of (by rw [← ha, hc0, ans_0]) hP9 hS ht) hS.2.2 dL_setSpread_5
theorem hds_L_deliver : yL_deliver.cls ≠ "java/lang/invoke/MethodHandle" ∧ yL_deliver.cls ≠ "java/lang/invoke/VarHandle" ∧ (parseMethodDescriptor yL_deliver.desc).map (fun d => d.parameters.length) = some 2 := by decide +kernel
set_option maxHeartbeats 4000000 in
set_option maxRecDepth 100000 in
theorem c_L_deliver (l : Launch) (hl0 : l.stackTraces = false) (D : va_G) (r : Nat) (P : Nat → Int32) (Q : Nat → Nat → Int32) (n : Nat) (P' : Nat → Int32) (Q' : Nat → Nat → Int32) (n' : Nat) (a : Int32) (kg : Int32) (hE : ∀ (C : Nat → Int32) (G : Nat → Nat → Int32), Sd C G n P Q → ans (fE_X6_deliver C G n kg) (fR_X6_deliver C G n kg) = a ∧ fn_X6_deliver C G n kg = n' ∧ Sd (fC_X6_deliver C G n kg) (fG_X6_deliver C G n kg) n' P' Q') : vx_Met l yL_deliver (wH yL_deliver cL_deliver 3 (some .int) [(0, 5, 6, 15), (0, 5, 10, 18)]) (rmX 8 2 12) (xPc D r [.ref r, .int kg] (fun H => St D r P Q n H)) (gQi (inS r) a (fun H => St D r P' Q' n' H)) (fun _ _ _ => False) 2 12 (inS r) := by
  refine vx_ofWH (cc := cL_deliver) (maxL := 3) (ret := (some .int)) (by decide) rfl ?_
  intro p e s m args below meth c s₁ B hml hv
  obtain ⟨hav, ⟨C, J, G, Y, X, U, Z, F, hG, hd, hf⟩, hK, hKx⟩ := hv
  have hx := B.exec
  have hb := B.bytes
  have hr := B.returns
  have hts0 := atoms_spec (ws := wH yL_deliver cL_deliver 3 (some .int) [(0, 5, 6, 15), (0, 5, 10, 18)]) B.pre
  have htab := vx_table (x := yL_deliver) B (hts0 _ List.mem_cons_self)
  have hts : ∀ w ∈ AW, w.before _ s = true := fun w h => hts0 w (List.mem_cons_of_mem _ h)
  have hown : s.vm.findClass RL = some m.cls := findClass_of_methodNamed B.named
  have hlocks := B.notSynchronized
  have hr0 : ∀ q, inS r q → r ≤ q := fun q h => h.1
  have hA : ∀ q, inS r q → inS r q := fun _ h => h
  have hS : va_S (inS r) s.heap s.heap [] := va_S.rf
  have hG : Sn D r C J G n Y X U Z F s.heap := hG
  have hl := lv_entry ([.ref r, .int kg]) (n := 3) (Nat.le_of_ble_eq_true rfl)
  refine W.eq (g2 := entryFrame m ([.ref r, .int kg] : List Value).toArray 3) (by rw [hav]) ?_
  rw [lg_entry_eq]
  generalize (lg_sl ([.ref r, .int kg]) ++ List.replicate (3 - (lg_sl ([.ref r, .int kg])).length) Slot.unset).toArray = ls at hl ⊢
  have hl : lv_has ls 3 [(0, .ref r), (1, .int kg)] := hl
  obtain ⟨ha, hn1, hd1⟩ := hE C G hd
  refine lv_aload_n hx hb dL_deliver_0 rfl (lv_at hl 0 rfl) ?_
  refine lv_iload_n hx hb dL_deliver_1 rfl (lv_at hl 1 rfl) ?_
  refine xcVi (As := [.int kg]) (rest := []) hx hb hml hown hts hl.1 hK hKx hr0 (c_X6_deliver l hl0 D r C J G n Y X U Z F kg hd.1.okN hd.2.1) (gaV qM_L_44 qI_X6_deliver qS_X6_deliver qK_X6 qC_X6_deliver) hdv_X6_deliver ⟨(Nat.le_of_ble_eq_true rfl), (Nat.le_of_ble_eq_true rfl)⟩ hG (Sn.recv hK hG) rfl (Nat.le_of_ble_eq_true rfl) ⟨(Nat.le_of_ble_eq_true rfl), (Nat.le_of_ble_eq_true rfl)⟩ dL_deliver_2 hS hA (fun ce q9 H locs hcx hG1 hz hq hS hce hv hcl => ?_) (fun H locs hc0 hG1 hz hq hS => ?_)
  · have hP9 : St D r P' Q' n' H := ⟨_, J, _, Y, X, U, Z, F, by rw [← hn1]; exact hG1, hd1, hf⟩
    rcases ec_deliver.elim (fun h => absurd h hcx) id with hk | hk
    · rw [hk] at hcl
      refine vx_catch (name := exN 1) (E := exN 1) hown [] (⟨0, 5, 6, 15⟩ : ExceptionTableEntry) [(⟨0, 5, 10, 18⟩ : ExceptionTableEntry)] (by rw [htab]; rfl) (fun z hz => absurd hz List.not_mem_nil) (by decide) (by decide) (hts _ qL_L_15) (va_Nw.use rfl (hKx.2.2.2.1 _ (ex_cast 1 (by decide)))) hce hv hcl ?_
      refine lv_astore_n (lv' := [(2, .ref q9), (0, .ref r), (1, .int kg)]) hx hb dL_deliver_6 rfl hl (by decide) rfl (fun ls hl => ?_)
      refine lv_ldc hx hb hown (hts _ qV_L_17) dL_deliver_7 ?_
      refine vx_ret (W.widen (k := 2) (n := 12) (by omega) (by omega) ?_)
      exact W.iret hx hb hr (fun t ht hW => gQi_of (by rw [← ha, hk, ans_1]) hP9 hS ht) hS.2.2 dL_deliver_9
    · rw [hk] at hcl
      refine vx_catch (name := exN 2) (E := exN 2) hown [(⟨0, 5, 6, 15⟩ : ExceptionTableEntry)] (⟨0, 5, 10, 18⟩ : ExceptionTableEntry) [] (by rw [htab]; rfl) (fun z hz => Or.inr (by rw [List.mem_singleton] at hz; subst hz; exact ⟨by decide, exN 1, hts _ qL_L_15, hKx.2.2.2.2 2 1 (by decide) (by decide) (by decide) (by decide) (by decide)⟩)) (by decide) (by decide) (hts _ qL_L_18) (va_Nw.use rfl (hKx.2.2.2.1 _ (ex_cast 2 (by decide)))) hce hv hcl ?_
      refine lv_astore_n (lv' := [(2, .ref q9), (0, .ref r), (1, .int kg)]) hx hb dL_deliver_10 rfl hl (by decide) rfl (fun ls hl => ?_)
      refine lv_ldc hx hb hown (hts _ qV_L_20) dL_deliver_11 ?_
      refine vx_ret (W.widen (k := 2) (n := 12) (by omega) (by omega) ?_)
      exact W.iret hx hb hr (fun t ht hW => gQi_of (by rw [← ha, hk, ans_2]) hP9 hS ht) hS.2.2 dL_deliver_13
  · have hP9 : St D r P' Q' n' H := ⟨_, J, _, Y, X, U, Z, F, by rw [← hn1]; exact hG1, hd1, hf⟩
    refine vx_ret (W.widen (k := 2) (n := 12) (by omega) (by omega) ?_)
    exact W.iret hx hb hr (fun t ht hW => gQi_of (by rw [← ha, hc0, ans_0]) hP9 hS ht) hS.2.2 dL_deliver_5
theorem hds_L_run : yL_run.cls ≠ "java/lang/invoke/MethodHandle" ∧ yL_run.cls ≠ "java/lang/invoke/VarHandle" ∧ (parseMethodDescriptor yL_run.desc).map (fun d => d.parameters.length) = some 4 := by decide +kernel
set_option maxHeartbeats 4000000 in
set_option maxRecDepth 100000 in
theorem c_L_run (l : Launch) (hl0 : l.stackTraces = false) (D : va_G) (r : Nat) (P : Nat → Int32) (Q : Nat → Nat → Int32) (n : Nat) (P' : Nat → Int32) (Q' : Nat → Nat → Int32) (n' : Nat) (a : Int32) (tmp : Int32) (sn : Int32) (hrs : Int32) (hE : ∀ (C : Nat → Int32) (G : Nat → Nat → Int32), Sd C G n P Q → ans (fE_X6_run C G n tmp sn hrs) (fR_X6_run C G n tmp sn hrs) = a ∧ fn_X6_run C G n tmp sn hrs = n' ∧ Sd (fC_X6_run C G n tmp sn hrs) (fG_X6_run C G n tmp sn hrs) n' P' Q') : vx_Met l yL_run (wH yL_run cL_run 5 (some .int) [(0, 7, 8, 15), (0, 7, 13, 18)]) (rmX 9 4 24) (xPc D r [.ref r, .int tmp, .int sn, .int hrs] (fun H => St D r P Q n H)) (gQi (inS r) a (fun H => St D r P' Q' n' H)) (fun _ _ _ => False) 4 24 (inS r) := by
  refine vx_ofWH (cc := cL_run) (maxL := 5) (ret := (some .int)) (by decide) rfl ?_
  intro p e s m args below meth c s₁ B hml hv
  obtain ⟨hav, ⟨C, J, G, Y, X, U, Z, F, hG, hd, hf⟩, hK, hKx⟩ := hv
  have hx := B.exec
  have hb := B.bytes
  have hr := B.returns
  have hts0 := atoms_spec (ws := wH yL_run cL_run 5 (some .int) [(0, 7, 8, 15), (0, 7, 13, 18)]) B.pre
  have htab := vx_table (x := yL_run) B (hts0 _ List.mem_cons_self)
  have hts : ∀ w ∈ AW, w.before _ s = true := fun w h => hts0 w (List.mem_cons_of_mem _ h)
  have hown : s.vm.findClass RL = some m.cls := findClass_of_methodNamed B.named
  have hlocks := B.notSynchronized
  have hr0 : ∀ q, inS r q → r ≤ q := fun q h => h.1
  have hA : ∀ q, inS r q → inS r q := fun _ h => h
  have hS : va_S (inS r) s.heap s.heap [] := va_S.rf
  have hG : Sn D r C J G n Y X U Z F s.heap := hG
  have hl := lv_entry ([.ref r, .int tmp, .int sn, .int hrs]) (n := 5) (Nat.le_of_ble_eq_true rfl)
  refine W.eq (g2 := entryFrame m ([.ref r, .int tmp, .int sn, .int hrs] : List Value).toArray 5) (by rw [hav]) ?_
  rw [lg_entry_eq]
  generalize (lg_sl ([.ref r, .int tmp, .int sn, .int hrs]) ++ List.replicate (5 - (lg_sl ([.ref r, .int tmp, .int sn, .int hrs])).length) Slot.unset).toArray = ls at hl ⊢
  have hl : lv_has ls 5 [(0, .ref r), (1, .int tmp), (2, .int sn), (3, .int hrs)] := hl
  obtain ⟨ha, hn1, hd1⟩ := hE C G hd
  refine lv_aload_n hx hb dL_run_0 rfl (lv_at hl 0 rfl) ?_
  refine lv_iload_n hx hb dL_run_1 rfl (lv_at hl 1 rfl) ?_
  refine lv_iload_n hx hb dL_run_2 rfl (lv_at hl 2 rfl) ?_
  refine lv_iload_n hx hb dL_run_3 rfl (lv_at hl 3 rfl) ?_
  refine xcVi (As := [.int tmp, .int sn, .int hrs]) (rest := []) hx hb hml hown hts hl.1 hK hKx hr0 (c_X6_run l hl0 D r C J G n Y X U Z F tmp sn hrs hd.wf hd.2.1) (gaV qM_L_47 qI_X6_run qS_X6_run qK_X6 qC_X6_run) hdv_X6_run ⟨(Nat.le_of_ble_eq_true rfl), (Nat.le_of_ble_eq_true rfl)⟩ hG (Sn.recv hK hG) rfl (Nat.le_of_ble_eq_true rfl) ⟨(Nat.le_of_ble_eq_true rfl), (Nat.le_of_ble_eq_true rfl)⟩ dL_run_4 hS hA (fun ce q9 H locs hcx hG1 hz hq hS hce hv hcl => ?_) (fun H locs hc0 hG1 hz hq hS => ?_)
  · have hP9 : St D r P' Q' n' H := ⟨_, J, _, Y, X, U, Z, F, by rw [← hn1]; exact hG1, hd1, hf⟩
    rcases ec_run.elim (fun h => absurd h hcx) id with hk | hk
    · rw [hk] at hcl
      refine vx_catch (name := exN 1) (E := exN 1) hown [] (⟨0, 7, 8, 15⟩ : ExceptionTableEntry) [(⟨0, 7, 13, 18⟩ : ExceptionTableEntry)] (by rw [htab]; rfl) (fun z hz => absurd hz List.not_mem_nil) (by decide) (by decide) (hts _ qL_L_15) (va_Nw.use rfl (hKx.2.2.2.1 _ (ex_cast 1 (by decide)))) hce hv hcl ?_
      refine lv_astore (lv' := [(4, .ref q9), (0, .ref r), (1, .int tmp), (2, .int sn), (3, .int hrs)]) hx hb dL_run_8 hl (by decide) rfl (fun ls hl => ?_)
      refine lv_ldc hx hb hown (hts _ qV_L_17) dL_run_10 ?_
      refine vx_ret (W.widen (k := 4) (n := 24) (by omega) (by omega) ?_)
      exact W.iret hx hb hr (fun t ht hW => gQi_of (by rw [← ha, hk, ans_1]) hP9 hS ht) hS.2.2 dL_run_12
    · rw [hk] at hcl
      refine vx_catch (name := exN 2) (E := exN 2) hown [(⟨0, 7, 8, 15⟩ : ExceptionTableEntry)] (⟨0, 7, 13, 18⟩ : ExceptionTableEntry) [] (by rw [htab]; rfl) (fun z hz => Or.inr (by rw [List.mem_singleton] at hz; subst hz; exact ⟨by decide, exN 1, hts _ qL_L_15, hKx.2.2.2.2 2 1 (by decide) (by decide) (by decide) (by decide) (by decide)⟩)) (by decide) (by decide) (hts _ qL_L_18) (va_Nw.use rfl (hKx.2.2.2.1 _ (ex_cast 2 (by decide)))) hce hv hcl ?_
      refine lv_astore (lv' := [(4, .ref q9), (0, .ref r), (1, .int tmp), (2, .int sn), (3, .int hrs)]) hx hb dL_run_13 hl (by decide) rfl (fun ls hl => ?_)
      refine lv_ldc hx hb hown (hts _ qV_L_20) dL_run_15 ?_
      refine vx_ret (W.widen (k := 4) (n := 24) (by omega) (by omega) ?_)
      exact W.iret hx hb hr (fun t ht hW => gQi_of (by rw [← ha, hk, ans_2]) hP9 hS ht) hS.2.2 dL_run_17
  · have hP9 : St D r P' Q' n' H := ⟨_, J, _, Y, X, U, Z, F, by rw [← hn1]; exact hG1, hd1, hf⟩
    refine vx_ret (W.widen (k := 4) (n := 24) (by omega) (by omega) ?_)
    exact W.iret hx hb hr (fun t ht hW => gQi_of (by rw [← ha, hc0, ans_0]) hP9 hS ht) hS.2.2 dL_run_7
theorem hds_L_value : yL_value.cls ≠ "java/lang/invoke/MethodHandle" ∧ yL_value.cls ≠ "java/lang/invoke/VarHandle" ∧ (parseMethodDescriptor yL_value.desc).map (fun d => d.parameters.length) = some 2 := by decide +kernel
set_option maxHeartbeats 4000000 in
set_option maxRecDepth 100000 in
theorem c_L_value (l : Launch) (hl0 : l.stackTraces = false) (D : va_G) (r : Nat) (P : Nat → Int32) (Q : Nat → Nat → Int32) (n : Nat) (a : Int32) (x : Int32) (hE : ∀ C : Nat → Int32, Cg C P → ans (fE_X6_value C x) (fR_X6_value C x) = a) : vx_Met l yL_value (wH yL_value cL_value 3 (some .int) [(0, 5, 6, 15)]) (rmX 8 1 6) (xPc D r [.ref r, .int x] (fun H => St D r P Q n H)) (gQi (inS r) a (fun H => St D r P Q n H)) (fun _ _ _ => False) 1 6 (inS r) := by
  refine vx_ofWH (cc := cL_value) (maxL := 3) (ret := (some .int)) (by decide) rfl ?_
  intro p e s m args below meth c s₁ B hml hv
  obtain ⟨hav, ⟨C, J, G, Y, X, U, Z, F, hG, hd, hf⟩, hK, hKx⟩ := hv
  have hx := B.exec
  have hb := B.bytes
  have hr := B.returns
  have hts0 := atoms_spec (ws := wH yL_value cL_value 3 (some .int) [(0, 5, 6, 15)]) B.pre
  have htab := vx_table (x := yL_value) B (hts0 _ List.mem_cons_self)
  have hts : ∀ w ∈ AW, w.before _ s = true := fun w h => hts0 w (List.mem_cons_of_mem _ h)
  have hown : s.vm.findClass RL = some m.cls := findClass_of_methodNamed B.named
  have hlocks := B.notSynchronized
  have hr0 : ∀ q, inS r q → r ≤ q := fun q h => h.1
  have hA : ∀ q, inS r q → inS r q := fun _ h => h
  have hS : va_S (inS r) s.heap s.heap [] := va_S.rf
  have hG : Sn D r C J G n Y X U Z F s.heap := hG
  have hl := lv_entry ([.ref r, .int x]) (n := 3) (Nat.le_of_ble_eq_true rfl)
  refine W.eq (g2 := entryFrame m ([.ref r, .int x] : List Value).toArray 3) (by rw [hav]) ?_
  rw [lg_entry_eq]
  generalize (lg_sl ([.ref r, .int x]) ++ List.replicate (3 - (lg_sl ([.ref r, .int x])).length) Slot.unset).toArray = ls at hl ⊢
  have hl : lv_has ls 3 [(0, .ref r), (1, .int x)] := hl
  have ha := hE C hd.1
  refine lv_aload_n hx hb dL_value_0 rfl (lv_at hl 0 rfl) ?_
  refine lv_iload_n hx hb dL_value_1 rfl (lv_at hl 1 rfl) ?_
  refine xcVi (As := [.int x]) (rest := []) hx hb hml hown hts hl.1 hK hKx hr0 (c_X6_value l hl0 D r C J G n Y X U Z F x hd.wf) (gaV qM_L_51 qI_X6_value qS_X6_value qK_X6 qC_X6_value) hdv_X6_value ⟨(Nat.le_of_ble_eq_true rfl), (Nat.le_of_ble_eq_true rfl)⟩ hG (Sn.recv hK hG) rfl (Nat.le_of_ble_eq_true rfl) ⟨(Nat.le_of_ble_eq_true rfl), (Nat.le_of_ble_eq_true rfl)⟩ dL_value_2 hS hA (fun ce q9 H locs hcx hG1 hz hq hS hce hv hcl => ?_) (fun H locs hc0 hG1 hz hq hS => ?_)
  · have hP9 : St D r P Q n H := ⟨C, J, G, Y, X, U, Z, F, hG1, hd, hf⟩
    have hk : fE_X6_value C x = 1 := ec_value.elim (fun h => absurd h hcx) (fun h => h.elim id id)
    rw [hk] at hcl
    refine vx_catch (name := exN 1) (E := exN 1) hown [] (⟨0, 5, 6, 15⟩ : ExceptionTableEntry) [] (by rw [htab]; rfl) (fun z hz => absurd hz List.not_mem_nil) (by decide) (by decide) (hts _ qL_L_15) (va_Nw.use rfl (hKx.2.2.2.1 _ (ex_cast 1 (by decide)))) hce hv hcl ?_
    refine lv_astore_n (lv' := [(2, .ref q9), (0, .ref r), (1, .int x)]) hx hb dL_value_6 rfl hl (by decide) rfl (fun ls hl => ?_)
    refine lv_ldc hx hb hown (hts _ qV_L_17) dL_value_7 ?_
    refine vx_ret (W.widen (k := 1) (n := 6) (by omega) (by omega) ?_)
    exact W.iret hx hb hr (fun t ht hW => gQi_of (by rw [← ha, hk, ans_1]) hP9 hS ht) hS.2.2 dL_value_9
  · have hP9 : St D r P Q n H := ⟨C, J, G, Y, X, U, Z, F, hG1, hd, hf⟩
    refine vx_ret (W.widen (k := 1) (n := 6) (by omega) (by omega) ?_)
    exact W.iret hx hb hr (fun t ht hW => gQi_of (by rw [← ha, hc0, ans_0]) hP9 hS ht) hS.2.2 dL_value_5
theorem hds_L_street : yL_street.cls ≠ "java/lang/invoke/MethodHandle" ∧ yL_street.cls ≠ "java/lang/invoke/VarHandle" ∧ (parseMethodDescriptor yL_street.desc).map (fun d => d.parameters.length) = some 3 := by decide +kernel
set_option maxHeartbeats 4000000 in
set_option maxRecDepth 100000 in
theorem c_L_street (l : Launch) (hl0 : l.stackTraces = false) (D : va_G) (r : Nat) (P : Nat → Int32) (Q : Nat → Nat → Int32) (n : Nat) (a : Int32) (x : Int32) (y : Int32) (hE : ∀ C : Nat → Int32, Cg C P → ans (fE_X6_street C x y) (fR_X6_street C x y) = a) : vx_Met l yL_street (wH yL_street cL_street 4 (some .int) [(0, 6, 7, 27), (0, 6, 11, 15)]) (rmX 9 2 12) (xPc D r [.ref r, .int x, .int y] (fun H => St D r P Q n H)) (gQi (inS r) a (fun H => St D r P Q n H)) (fun _ _ _ => False) 2 12 (inS r) := by
  refine vx_ofWH (cc := cL_street) (maxL := 4) (ret := (some .int)) (by decide) rfl ?_
  intro p e s m args below meth c s₁ B hml hv
  obtain ⟨hav, ⟨C, J, G, Y, X, U, Z, F, hG, hd, hf⟩, hK, hKx⟩ := hv
  have hx := B.exec
  have hb := B.bytes
  have hr := B.returns
  have hts0 := atoms_spec (ws := wH yL_street cL_street 4 (some .int) [(0, 6, 7, 27), (0, 6, 11, 15)]) B.pre
  have htab := vx_table (x := yL_street) B (hts0 _ List.mem_cons_self)
  have hts : ∀ w ∈ AW, w.before _ s = true := fun w h => hts0 w (List.mem_cons_of_mem _ h)
  have hown : s.vm.findClass RL = some m.cls := findClass_of_methodNamed B.named
  have hlocks := B.notSynchronized
  have hr0 : ∀ q, inS r q → r ≤ q := fun q h => h.1
  have hA : ∀ q, inS r q → inS r q := fun _ h => h
  have hS : va_S (inS r) s.heap s.heap [] := va_S.rf
  have hG : Sn D r C J G n Y X U Z F s.heap := hG
  have hl := lv_entry ([.ref r, .int x, .int y]) (n := 4) (Nat.le_of_ble_eq_true rfl)
  refine W.eq (g2 := entryFrame m ([.ref r, .int x, .int y] : List Value).toArray 4) (by rw [hav]) ?_
  rw [lg_entry_eq]
  generalize (lg_sl ([.ref r, .int x, .int y]) ++ List.replicate (4 - (lg_sl ([.ref r, .int x, .int y])).length) Slot.unset).toArray = ls at hl ⊢
  have hl : lv_has ls 4 [(0, .ref r), (1, .int x), (2, .int y)] := hl
  have ha := hE C hd.1
  refine lv_aload_n hx hb dL_street_0 rfl (lv_at hl 0 rfl) ?_
  refine lv_iload_n hx hb dL_street_1 rfl (lv_at hl 1 rfl) ?_
  refine lv_iload_n hx hb dL_street_2 rfl (lv_at hl 2 rfl) ?_
  refine xcVi (As := [.int x, .int y]) (rest := []) hx hb hml hown hts hl.1 hK hKx hr0 (c_X6_street l hl0 D r C J G n Y X U Z F x y hd.wf) (gaV qM_L_54 qI_X6_street qS_X6_street qK_X6 qC_X6_street) hdv_X6_street ⟨(Nat.le_of_ble_eq_true rfl), (Nat.le_of_ble_eq_true rfl)⟩ hG (Sn.recv hK hG) rfl (Nat.le_of_ble_eq_true rfl) ⟨(Nat.le_of_ble_eq_true rfl), (Nat.le_of_ble_eq_true rfl)⟩ dL_street_3 hS hA (fun ce q9 H locs hcx hG1 hz hq hS hce hv hcl => ?_) (fun H locs hc0 hG1 hz hq hS => ?_)
  · have hP9 : St D r P Q n H := ⟨C, J, G, Y, X, U, Z, F, hG1, hd, hf⟩
    rcases ec_street.elim (fun h => absurd h hcx) id with hk | hk
    · rw [hk] at hcl
      refine vx_catch (name := exN 3) (E := exN 3) hown [] (⟨0, 6, 7, 27⟩ : ExceptionTableEntry) [(⟨0, 6, 11, 15⟩ : ExceptionTableEntry)] (by rw [htab]; rfl) (fun z hz => absurd hz List.not_mem_nil) (by decide) (by decide) (hts _ qL_L_27) (va_Nw.use rfl (hKx.2.2.2.1 _ (ex_cast 3 (by decide)))) hce hv hcl ?_
      refine lv_astore_n (lv' := [(3, .ref q9), (0, .ref r), (1, .int x), (2, .int y)]) hx hb dL_street_7 rfl hl (by decide) rfl (fun ls hl => ?_)
      refine lv_ldc hx hb hown (hts _ qV_L_29) dL_street_8 ?_
      refine vx_ret (W.widen (k := 2) (n := 12) (by omega) (by omega) ?_)
      exact W.iret hx hb hr (fun t ht hW => gQi_of (by rw [← ha, hk, ans_3]) hP9 hS ht) hS.2.2 dL_street_10
    · rw [hk] at hcl
      refine vx_catch (name := exN 1) (E := exN 1) hown [(⟨0, 6, 7, 27⟩ : ExceptionTableEntry)] (⟨0, 6, 11, 15⟩ : ExceptionTableEntry) [] (by rw [htab]; rfl) (fun z hz => Or.inr (by rw [List.mem_singleton] at hz; subst hz; exact ⟨by decide, exN 3, hts _ qL_L_27, hKx.2.2.2.2 1 3 (by decide) (by decide) (by decide) (by decide) (by decide)⟩)) (by decide) (by decide) (hts _ qL_L_15) (va_Nw.use rfl (hKx.2.2.2.1 _ (ex_cast 1 (by decide)))) hce hv hcl ?_
      refine lv_astore_n (lv' := [(3, .ref q9), (0, .ref r), (1, .int x), (2, .int y)]) hx hb dL_street_11 rfl hl (by decide) rfl (fun ls hl => ?_)
      refine lv_ldc hx hb hown (hts _ qV_L_17) dL_street_12 ?_
      refine vx_ret (W.widen (k := 2) (n := 12) (by omega) (by omega) ?_)
      exact W.iret hx hb hr (fun t ht hW => gQi_of (by rw [← ha, hk, ans_1]) hP9 hS ht) hS.2.2 dL_street_14
  · have hP9 : St D r P Q n H := ⟨C, J, G, Y, X, U, Z, F, hG1, hd, hf⟩
    refine vx_ret (W.widen (k := 2) (n := 12) (by omega) (by omega) ?_)
    exact W.iret hx hb hr (fun t ht hW => gQi_of (by rw [← ha, hc0, ans_0]) hP9 hS ht) hS.2.2 dL_street_6
theorem hds_L_plow : yL_plow.cls ≠ "java/lang/invoke/MethodHandle" ∧ yL_plow.cls ≠ "java/lang/invoke/VarHandle" ∧ (parseMethodDescriptor yL_plow.desc).map (fun d => d.parameters.length) = some 3 := by decide +kernel
set_option maxHeartbeats 4000000 in
set_option maxRecDepth 100000 in
theorem c_L_plow (l : Launch) (hl0 : l.stackTraces = false) (D : va_G) (r : Nat) (P : Nat → Int32) (Q : Nat → Nat → Int32) (n : Nat) (a : Int32) (pl : Int32) (y : Int32) (hE : ∀ C : Nat → Int32, Cg C P → ans (fE_X6_plow C pl y) (fR_X6_plow C pl y) = a) : vx_Met l yL_plow (wH yL_plow cL_plow 4 (some .int) [(0, 6, 7, 27), (0, 6, 11, 15)]) (rmX 9 2 12) (xPc D r [.ref r, .int pl, .int y] (fun H => St D r P Q n H)) (gQi (inS r) a (fun H => St D r P Q n H)) (fun _ _ _ => False) 2 12 (inS r) := by
  refine vx_ofWH (cc := cL_plow) (maxL := 4) (ret := (some .int)) (by decide) rfl ?_
  intro p e s m args below meth c s₁ B hml hv
  obtain ⟨hav, ⟨C, J, G, Y, X, U, Z, F, hG, hd, hf⟩, hK, hKx⟩ := hv
  have hx := B.exec
  have hb := B.bytes
  have hr := B.returns
  have hts0 := atoms_spec (ws := wH yL_plow cL_plow 4 (some .int) [(0, 6, 7, 27), (0, 6, 11, 15)]) B.pre
  have htab := vx_table (x := yL_plow) B (hts0 _ List.mem_cons_self)
  have hts : ∀ w ∈ AW, w.before _ s = true := fun w h => hts0 w (List.mem_cons_of_mem _ h)
  have hown : s.vm.findClass RL = some m.cls := findClass_of_methodNamed B.named
  have hlocks := B.notSynchronized
  have hr0 : ∀ q, inS r q → r ≤ q := fun q h => h.1
  have hA : ∀ q, inS r q → inS r q := fun _ h => h
  have hS : va_S (inS r) s.heap s.heap [] := va_S.rf
  have hG : Sn D r C J G n Y X U Z F s.heap := hG
  have hl := lv_entry ([.ref r, .int pl, .int y]) (n := 4) (Nat.le_of_ble_eq_true rfl)
  refine W.eq (g2 := entryFrame m ([.ref r, .int pl, .int y] : List Value).toArray 4) (by rw [hav]) ?_
  rw [lg_entry_eq]
  generalize (lg_sl ([.ref r, .int pl, .int y]) ++ List.replicate (4 - (lg_sl ([.ref r, .int pl, .int y])).length) Slot.unset).toArray = ls at hl ⊢
  have hl : lv_has ls 4 [(0, .ref r), (1, .int pl), (2, .int y)] := hl
  have ha := hE C hd.1
  refine lv_aload_n hx hb dL_plow_0 rfl (lv_at hl 0 rfl) ?_
  refine lv_iload_n hx hb dL_plow_1 rfl (lv_at hl 1 rfl) ?_
  refine lv_iload_n hx hb dL_plow_2 rfl (lv_at hl 2 rfl) ?_
  refine xcVi (As := [.int pl, .int y]) (rest := []) hx hb hml hown hts hl.1 hK hKx hr0 (c_X6_plow l hl0 D r C J G n Y X U Z F pl y hd.1.okN) (gaV qM_L_57 qI_X6_plow qS_X6_plow qK_X6 qC_X6_plow) hdv_X6_plow ⟨(Nat.le_of_ble_eq_true rfl), (Nat.le_of_ble_eq_true rfl)⟩ hG (Sn.recv hK hG) rfl (Nat.le_of_ble_eq_true rfl) ⟨(Nat.le_of_ble_eq_true rfl), (Nat.le_of_ble_eq_true rfl)⟩ dL_plow_3 hS hA (fun ce q9 H locs hcx hG1 hz hq hS hce hv hcl => ?_) (fun H locs hc0 hG1 hz hq hS => ?_)
  · have hP9 : St D r P Q n H := ⟨C, J, G, Y, X, U, Z, F, hG1, hd, hf⟩
    rcases ec_plow.elim (fun h => absurd h hcx) id with hk | hk
    · rw [hk] at hcl
      refine vx_catch (name := exN 3) (E := exN 3) hown [] (⟨0, 6, 7, 27⟩ : ExceptionTableEntry) [(⟨0, 6, 11, 15⟩ : ExceptionTableEntry)] (by rw [htab]; rfl) (fun z hz => absurd hz List.not_mem_nil) (by decide) (by decide) (hts _ qL_L_27) (va_Nw.use rfl (hKx.2.2.2.1 _ (ex_cast 3 (by decide)))) hce hv hcl ?_
      refine lv_astore_n (lv' := [(3, .ref q9), (0, .ref r), (1, .int pl), (2, .int y)]) hx hb dL_plow_7 rfl hl (by decide) rfl (fun ls hl => ?_)
      refine lv_ldc hx hb hown (hts _ qV_L_29) dL_plow_8 ?_
      refine vx_ret (W.widen (k := 2) (n := 12) (by omega) (by omega) ?_)
      exact W.iret hx hb hr (fun t ht hW => gQi_of (by rw [← ha, hk, ans_3]) hP9 hS ht) hS.2.2 dL_plow_10
    · rw [hk] at hcl
      refine vx_catch (name := exN 1) (E := exN 1) hown [(⟨0, 6, 7, 27⟩ : ExceptionTableEntry)] (⟨0, 6, 11, 15⟩ : ExceptionTableEntry) [] (by rw [htab]; rfl) (fun z hz => Or.inr (by rw [List.mem_singleton] at hz; subst hz; exact ⟨by decide, exN 3, hts _ qL_L_27, hKx.2.2.2.2 1 3 (by decide) (by decide) (by decide) (by decide) (by decide)⟩)) (by decide) (by decide) (hts _ qL_L_15) (va_Nw.use rfl (hKx.2.2.2.1 _ (ex_cast 1 (by decide)))) hce hv hcl ?_
      refine lv_astore_n (lv' := [(3, .ref q9), (0, .ref r), (1, .int pl), (2, .int y)]) hx hb dL_plow_11 rfl hl (by decide) rfl (fun ls hl => ?_)
      refine lv_ldc hx hb hown (hts _ qV_L_17) dL_plow_12 ?_
      refine vx_ret (W.widen (k := 2) (n := 12) (by omega) (by omega) ?_)
      exact W.iret hx hb hr (fun t ht hW => gQi_of (by rw [← ha, hk, ans_1]) hP9 hS ht) hS.2.2 dL_plow_14
  · have hP9 : St D r P Q n H := ⟨C, J, G, Y, X, U, Z, F, hG1, hd, hf⟩
    refine vx_ret (W.widen (k := 2) (n := 12) (by omega) (by omega) ?_)
    exact W.iret hx hb hr (fun t ht hW => gQi_of (by rw [← ha, hc0, ans_0]) hP9 hS ht) hS.2.2 dL_plow_6
theorem hds_L_stop : yL_stop.cls ≠ "java/lang/invoke/MethodHandle" ∧ yL_stop.cls ≠ "java/lang/invoke/VarHandle" ∧ (parseMethodDescriptor yL_stop.desc).map (fun d => d.parameters.length) = some 3 := by decide +kernel
set_option maxHeartbeats 4000000 in
set_option maxRecDepth 100000 in
theorem c_L_stop (l : Launch) (hl0 : l.stackTraces = false) (D : va_G) (r : Nat) (P : Nat → Int32) (Q : Nat → Nat → Int32) (n : Nat) (a : Int32) (pl : Int32) (y : Int32) (hE : ∀ C : Nat → Int32, Cg C P → ans (fE_X6_stop C pl y) (fR_X6_stop C pl y) = a) : vx_Met l yL_stop (wH yL_stop cL_stop 4 (some .int) [(0, 6, 7, 27)]) (rmX 9 2 12) (xPc D r [.ref r, .int pl, .int y] (fun H => St D r P Q n H)) (gQi (inS r) a (fun H => St D r P Q n H)) (fun _ _ _ => False) 2 12 (inS r) := by
  refine vx_ofWH (cc := cL_stop) (maxL := 4) (ret := (some .int)) (by decide) rfl ?_
  intro p e s m args below meth c s₁ B hml hv
  obtain ⟨hav, ⟨C, J, G, Y, X, U, Z, F, hG, hd, hf⟩, hK, hKx⟩ := hv
  have hx := B.exec
  have hb := B.bytes
  have hr := B.returns
  have hts0 := atoms_spec (ws := wH yL_stop cL_stop 4 (some .int) [(0, 6, 7, 27)]) B.pre
  have htab := vx_table (x := yL_stop) B (hts0 _ List.mem_cons_self)
  have hts : ∀ w ∈ AW, w.before _ s = true := fun w h => hts0 w (List.mem_cons_of_mem _ h)
  have hown : s.vm.findClass RL = some m.cls := findClass_of_methodNamed B.named
  have hlocks := B.notSynchronized
  have hr0 : ∀ q, inS r q → r ≤ q := fun q h => h.1
  have hA : ∀ q, inS r q → inS r q := fun _ h => h
  have hS : va_S (inS r) s.heap s.heap [] := va_S.rf
  have hG : Sn D r C J G n Y X U Z F s.heap := hG
  have hl := lv_entry ([.ref r, .int pl, .int y]) (n := 4) (Nat.le_of_ble_eq_true rfl)
  refine W.eq (g2 := entryFrame m ([.ref r, .int pl, .int y] : List Value).toArray 4) (by rw [hav]) ?_
  rw [lg_entry_eq]
  generalize (lg_sl ([.ref r, .int pl, .int y]) ++ List.replicate (4 - (lg_sl ([.ref r, .int pl, .int y])).length) Slot.unset).toArray = ls at hl ⊢
  have hl : lv_has ls 4 [(0, .ref r), (1, .int pl), (2, .int y)] := hl
  have ha := hE C hd.1
  refine lv_aload_n hx hb dL_stop_0 rfl (lv_at hl 0 rfl) ?_
  refine lv_iload_n hx hb dL_stop_1 rfl (lv_at hl 1 rfl) ?_
  refine lv_iload_n hx hb dL_stop_2 rfl (lv_at hl 2 rfl) ?_
  refine xcVi (As := [.int pl, .int y]) (rest := []) hx hb hml hown hts hl.1 hK hKx hr0 (c_X6_stop l hl0 D r C J G n Y X U Z F pl y hd.1.okN hd.1.okQ) (gaV qM_L_60 qI_X6_stop qS_X6_stop qK_X6 qC_X6_stop) hdv_X6_stop ⟨(Nat.le_of_ble_eq_true rfl), (Nat.le_of_ble_eq_true rfl)⟩ hG (Sn.recv hK hG) rfl (Nat.le_of_ble_eq_true rfl) ⟨(Nat.le_of_ble_eq_true rfl), (Nat.le_of_ble_eq_true rfl)⟩ dL_stop_3 hS hA (fun ce q9 H locs hcx hG1 hz hq hS hce hv hcl => ?_) (fun H locs hc0 hG1 hz hq hS => ?_)
  · have hP9 : St D r P Q n H := ⟨C, J, G, Y, X, U, Z, F, hG1, hd, hf⟩
    have hk : fE_X6_stop C pl y = 3 := ec_stop.elim (fun h => absurd h hcx) (fun h => h.elim id id)
    rw [hk] at hcl
    refine vx_catch (name := exN 3) (E := exN 3) hown [] (⟨0, 6, 7, 27⟩ : ExceptionTableEntry) [] (by rw [htab]; rfl) (fun z hz => absurd hz List.not_mem_nil) (by decide) (by decide) (hts _ qL_L_27) (va_Nw.use rfl (hKx.2.2.2.1 _ (ex_cast 3 (by decide)))) hce hv hcl ?_
    refine lv_astore_n (lv' := [(3, .ref q9), (0, .ref r), (1, .int pl), (2, .int y)]) hx hb dL_stop_7 rfl hl (by decide) rfl (fun ls hl => ?_)
    refine lv_ldc hx hb hown (hts _ qV_L_29) dL_stop_8 ?_
    refine vx_ret (W.widen (k := 2) (n := 12) (by omega) (by omega) ?_)
    exact W.iret hx hb hr (fun t ht hW => gQi_of (by rw [← ha, hk, ans_3]) hP9 hS ht) hS.2.2 dL_stop_10
  · have hP9 : St D r P Q n H := ⟨C, J, G, Y, X, U, Z, F, hG1, hd, hf⟩
    refine vx_ret (W.widen (k := 2) (n := 12) (by omega) (by omega) ?_)
    exact W.iret hx hb hr (fun t ht hW => gQi_of (by rw [← ha, hc0, ans_0]) hP9 hS ht) hS.2.2 dL_stop_6
theorem hds_L_terms : yL_terms.cls ≠ "java/lang/invoke/MethodHandle" ∧ yL_terms.cls ≠ "java/lang/invoke/VarHandle" ∧ (parseMethodDescriptor yL_terms.desc).map (fun d => d.parameters.length) = some 3 := by decide +kernel
set_option maxHeartbeats 4000000 in
set_option maxRecDepth 100000 in
theorem c_L_terms (l : Launch) (hl0 : l.stackTraces = false) (D : va_G) (r : Nat) (P : Nat → Int32) (Q : Nat → Nat → Int32) (n : Nat) (a : Int32) (x : Int32) (y : Int32) (hE : ∀ C : Nat → Int32, Cg C P → ans (fE_X6_terms C x y) (fR_X6_terms C x y) = a) : vx_Met l yL_terms (wH yL_terms cL_terms 4 (some .int) [(0, 6, 7, 27), (0, 6, 11, 15)]) (rmX 8 2 12) (xPc D r [.ref r, .int x, .int y] (fun H => St D r P Q n H)) (gQi (inS r) a (fun H => St D r P Q n H)) (fun _ _ _ => False) 2 12 (inS r) := by
  refine vx_ofWH (cc := cL_terms) (maxL := 4) (ret := (some .int)) (by decide) rfl ?_
  intro p e s m args below meth c s₁ B hml hv
  obtain ⟨hav, ⟨C, J, G, Y, X, U, Z, F, hG, hd, hf⟩, hK, hKx⟩ := hv
  have hx := B.exec
  have hb := B.bytes
  have hr := B.returns
  have hts0 := atoms_spec (ws := wH yL_terms cL_terms 4 (some .int) [(0, 6, 7, 27), (0, 6, 11, 15)]) B.pre
  have htab := vx_table (x := yL_terms) B (hts0 _ List.mem_cons_self)
  have hts : ∀ w ∈ AW, w.before _ s = true := fun w h => hts0 w (List.mem_cons_of_mem _ h)
  have hown : s.vm.findClass RL = some m.cls := findClass_of_methodNamed B.named
  have hlocks := B.notSynchronized
  have hr0 : ∀ q, inS r q → r ≤ q := fun q h => h.1
  have hA : ∀ q, inS r q → inS r q := fun _ h => h
  have hS : va_S (inS r) s.heap s.heap [] := va_S.rf
  have hG : Sn D r C J G n Y X U Z F s.heap := hG
  have hl := lv_entry ([.ref r, .int x, .int y]) (n := 4) (Nat.le_of_ble_eq_true rfl)
  refine W.eq (g2 := entryFrame m ([.ref r, .int x, .int y] : List Value).toArray 4) (by rw [hav]) ?_
  rw [lg_entry_eq]
  generalize (lg_sl ([.ref r, .int x, .int y]) ++ List.replicate (4 - (lg_sl ([.ref r, .int x, .int y])).length) Slot.unset).toArray = ls at hl ⊢
  have hl : lv_has ls 4 [(0, .ref r), (1, .int x), (2, .int y)] := hl
  have ha := hE C hd.1
  refine lv_aload_n hx hb dL_terms_0 rfl (lv_at hl 0 rfl) ?_
  refine lv_iload_n hx hb dL_terms_1 rfl (lv_at hl 1 rfl) ?_
  refine lv_iload_n hx hb dL_terms_2 rfl (lv_at hl 2 rfl) ?_
  refine xcVi (As := [.int x, .int y]) (rest := []) hx hb hml hown hts hl.1 hK hKx hr0 (c_X6_terms l hl0 D r C J G n Y X U Z F x y) (gaV qM_L_63 qI_X6_terms qS_X6_terms qK_X6 qC_X6_terms) hdv_X6_terms ⟨(Nat.le_of_ble_eq_true rfl), (Nat.le_of_ble_eq_true rfl)⟩ hG (Sn.recv hK hG) rfl (Nat.le_of_ble_eq_true rfl) ⟨(Nat.le_of_ble_eq_true rfl), (Nat.le_of_ble_eq_true rfl)⟩ dL_terms_3 hS hA (fun ce q9 H locs hcx hG1 hz hq hS hce hv hcl => ?_) (fun H locs hc0 hG1 hz hq hS => ?_)
  · have hP9 : St D r P Q n H := ⟨C, J, G, Y, X, U, Z, F, hG1, hd, hf⟩
    rcases ec_terms.elim (fun h => absurd h hcx) id with hk | hk
    · rw [hk] at hcl
      refine vx_catch (name := exN 3) (E := exN 3) hown [] (⟨0, 6, 7, 27⟩ : ExceptionTableEntry) [(⟨0, 6, 11, 15⟩ : ExceptionTableEntry)] (by rw [htab]; rfl) (fun z hz => absurd hz List.not_mem_nil) (by decide) (by decide) (hts _ qL_L_27) (va_Nw.use rfl (hKx.2.2.2.1 _ (ex_cast 3 (by decide)))) hce hv hcl ?_
      refine lv_astore_n (lv' := [(3, .ref q9), (0, .ref r), (1, .int x), (2, .int y)]) hx hb dL_terms_7 rfl hl (by decide) rfl (fun ls hl => ?_)
      refine lv_ldc hx hb hown (hts _ qV_L_29) dL_terms_8 ?_
      refine vx_ret (W.widen (k := 2) (n := 12) (by omega) (by omega) ?_)
      exact W.iret hx hb hr (fun t ht hW => gQi_of (by rw [← ha, hk, ans_3]) hP9 hS ht) hS.2.2 dL_terms_10
    · rw [hk] at hcl
      refine vx_catch (name := exN 1) (E := exN 1) hown [(⟨0, 6, 7, 27⟩ : ExceptionTableEntry)] (⟨0, 6, 11, 15⟩ : ExceptionTableEntry) [] (by rw [htab]; rfl) (fun z hz => Or.inr (by rw [List.mem_singleton] at hz; subst hz; exact ⟨by decide, exN 3, hts _ qL_L_27, hKx.2.2.2.2 1 3 (by decide) (by decide) (by decide) (by decide) (by decide)⟩)) (by decide) (by decide) (hts _ qL_L_15) (va_Nw.use rfl (hKx.2.2.2.1 _ (ex_cast 1 (by decide)))) hce hv hcl ?_
      refine lv_astore_n (lv' := [(3, .ref q9), (0, .ref r), (1, .int x), (2, .int y)]) hx hb dL_terms_11 rfl hl (by decide) rfl (fun ls hl => ?_)
      refine lv_ldc hx hb hown (hts _ qV_L_17) dL_terms_12 ?_
      refine vx_ret (W.widen (k := 2) (n := 12) (by omega) (by omega) ?_)
      exact W.iret hx hb hr (fun t ht hW => gQi_of (by rw [← ha, hk, ans_1]) hP9 hS ht) hS.2.2 dL_terms_14
  · have hP9 : St D r P Q n H := ⟨C, J, G, Y, X, U, Z, F, hG1, hd, hf⟩
    refine vx_ret (W.widen (k := 2) (n := 12) (by omega) (by omega) ?_)
    exact W.iret hx hb hr (fun t ht hW => gQi_of (by rw [← ha, hc0, ans_0]) hP9 hS ht) hS.2.2 dL_terms_6
theorem hds_L_creditsIn : yL_creditsIn.cls ≠ "java/lang/invoke/MethodHandle" ∧ yL_creditsIn.cls ≠ "java/lang/invoke/VarHandle" ∧ (parseMethodDescriptor yL_creditsIn.desc).map (fun d => d.parameters.length) = some 4 := by decide +kernel
set_option maxHeartbeats 4000000 in
set_option maxRecDepth 100000 in
theorem c_L_creditsIn (l : Launch) (hl0 : l.stackTraces = false) (D : va_G) (r : Nat) (P : Nat → Int32) (Q : Nat → Nat → Int32) (n : Nat) (a : Int32) (tmp : Int32) (sn : Int32) (hrs : Int32) (hE : ∀ C J : Nat → Int32, Cg C P → ans (fE_X6_creditsIn C J tmp sn hrs) (fR_X6_creditsIn C J tmp sn hrs) = a) : vx_Met l yL_creditsIn (wH yL_creditsIn cL_creditsIn 5 (some .int) [(0, 7, 8, 15)]) (rmX 9 3 18) (xPc D r [.ref r, .int tmp, .int sn, .int hrs] (fun H => St D r P Q n H)) (gQi (inS r) a (fun H => St D r P Q n H)) (fun _ _ _ => False) 3 18 (inS r) := by
  refine vx_ofWH (cc := cL_creditsIn) (maxL := 5) (ret := (some .int)) (by decide) rfl ?_
  intro p e s m args below meth c s₁ B hml hv
  obtain ⟨hav, ⟨C, J, G, Y, X, U, Z, F, hG, hd, hf⟩, hK, hKx⟩ := hv
  have hx := B.exec
  have hb := B.bytes
  have hr := B.returns
  have hts0 := atoms_spec (ws := wH yL_creditsIn cL_creditsIn 5 (some .int) [(0, 7, 8, 15)]) B.pre
  have htab := vx_table (x := yL_creditsIn) B (hts0 _ List.mem_cons_self)
  have hts : ∀ w ∈ AW, w.before _ s = true := fun w h => hts0 w (List.mem_cons_of_mem _ h)
  have hown : s.vm.findClass RL = some m.cls := findClass_of_methodNamed B.named
  have hlocks := B.notSynchronized
  have hr0 : ∀ q, inS r q → r ≤ q := fun q h => h.1
  have hA : ∀ q, inS r q → inS r q := fun _ h => h
  have hS : va_S (inS r) s.heap s.heap [] := va_S.rf
  have hG : Sn D r C J G n Y X U Z F s.heap := hG
  have hl := lv_entry ([.ref r, .int tmp, .int sn, .int hrs]) (n := 5) (Nat.le_of_ble_eq_true rfl)
  refine W.eq (g2 := entryFrame m ([.ref r, .int tmp, .int sn, .int hrs] : List Value).toArray 5) (by rw [hav]) ?_
  rw [lg_entry_eq]
  generalize (lg_sl ([.ref r, .int tmp, .int sn, .int hrs]) ++ List.replicate (5 - (lg_sl ([.ref r, .int tmp, .int sn, .int hrs])).length) Slot.unset).toArray = ls at hl ⊢
  have hl : lv_has ls 5 [(0, .ref r), (1, .int tmp), (2, .int sn), (3, .int hrs)] := hl
  have ha := hE C J hd.1
  refine lv_aload_n hx hb dL_creditsIn_0 rfl (lv_at hl 0 rfl) ?_
  refine lv_iload_n hx hb dL_creditsIn_1 rfl (lv_at hl 1 rfl) ?_
  refine lv_iload_n hx hb dL_creditsIn_2 rfl (lv_at hl 2 rfl) ?_
  refine lv_iload_n hx hb dL_creditsIn_3 rfl (lv_at hl 3 rfl) ?_
  refine xcVi (As := [.int tmp, .int sn, .int hrs]) (rest := []) hx hb hml hown hts hl.1 hK hKx hr0 (c_X6_creditsIn l hl0 D r C J G n Y X U Z F tmp sn hrs hd.1.good.1 hd.1.okQ) (gaV qM_L_66 qI_X6_creditsIn qS_X6_creditsIn qK_X6 qC_X6_creditsIn) hdv_X6_creditsIn ⟨(Nat.le_of_ble_eq_true rfl), (Nat.le_of_ble_eq_true rfl)⟩ hG (Sn.recv hK hG) rfl (Nat.le_of_ble_eq_true rfl) ⟨(Nat.le_of_ble_eq_true rfl), (Nat.le_of_ble_eq_true rfl)⟩ dL_creditsIn_4 hS hA (fun ce q9 H locs hcx hG1 hz hq hS hce hv hcl => ?_) (fun H locs hc0 hG1 hz hq hS => ?_)
  · have hP9 : St D r P Q n H := ⟨C, _, G, Y, X, U, Z, F, hG1, hd, hf⟩
    have hk : fE_X6_creditsIn C J tmp sn hrs = 1 := ec_creditsIn.elim (fun h => absurd h hcx) (fun h => h.elim id id)
    rw [hk] at hcl
    refine vx_catch (name := exN 1) (E := exN 1) hown [] (⟨0, 7, 8, 15⟩ : ExceptionTableEntry) [] (by rw [htab]; rfl) (fun z hz => absurd hz List.not_mem_nil) (by decide) (by decide) (hts _ qL_L_15) (va_Nw.use rfl (hKx.2.2.2.1 _ (ex_cast 1 (by decide)))) hce hv hcl ?_
    refine lv_astore (lv' := [(4, .ref q9), (0, .ref r), (1, .int tmp), (2, .int sn), (3, .int hrs)]) hx hb dL_creditsIn_8 hl (by decide) rfl (fun ls hl => ?_)
    refine lv_ldc hx hb hown (hts _ qV_L_17) dL_creditsIn_10 ?_
    refine vx_ret (W.widen (k := 3) (n := 18) (by omega) (by omega) ?_)
    exact W.iret hx hb hr (fun t ht hW => gQi_of (by rw [← ha, hk, ans_1]) hP9 hS ht) hS.2.2 dL_creditsIn_12
  · have hP9 : St D r P Q n H := ⟨C, _, G, Y, X, U, Z, F, hG1, hd, hf⟩
    refine vx_ret (W.widen (k := 3) (n := 18) (by omega) (by omega) ?_)
    exact W.iret hx hb hr (fun t ht hW => gQi_of (by rw [← ha, hc0, ans_0]) hP9 hS ht) hS.2.2 dL_creditsIn_7
theorem hds_L_bestExchange : yL_bestExchange.cls ≠ "java/lang/invoke/MethodHandle" ∧ yL_bestExchange.cls ≠ "java/lang/invoke/VarHandle" ∧ (parseMethodDescriptor yL_bestExchange.desc).map (fun d => d.parameters.length) = some 5 := by decide +kernel
set_option maxHeartbeats 4000000 in
set_option maxRecDepth 100000 in
theorem c_L_bestExchange (l : Launch) (hl0 : l.stackTraces = false) (D : va_G) (r : Nat) (P : Nat → Int32) (Q : Nat → Nat → Int32) (n : Nat) (a : Int32) (pl : Int32) (tmp : Int32) (sn : Int32) (hrs : Int32) (hE : ∀ C J : Nat → Int32, Cg C P → ans (fE_X6_bestExchange C J pl tmp sn hrs) (fR_X6_bestExchange C J pl tmp sn hrs) = a) : vx_Met l yL_bestExchange (wH yL_bestExchange cL_bestExchange 6 (some .int) [(0, 9, 10, 27), (0, 9, 15, 15)]) (rmX 9 4 24) (xPc D r [.ref r, .int pl, .int tmp, .int sn, .int hrs] (fun H => St D r P Q n H)) (gQi (inS r) a (fun H => St D r P Q n H)) (fun _ _ _ => False) 4 24 (inS r) := by
  refine vx_ofWH (cc := cL_bestExchange) (maxL := 6) (ret := (some .int)) (by decide) rfl ?_
  intro p e s m args below meth c s₁ B hml hv
  obtain ⟨hav, ⟨C, J, G, Y, X, U, Z, F, hG, hd, hf⟩, hK, hKx⟩ := hv
  have hx := B.exec
  have hb := B.bytes
  have hr := B.returns
  have hts0 := atoms_spec (ws := wH yL_bestExchange cL_bestExchange 6 (some .int) [(0, 9, 10, 27), (0, 9, 15, 15)]) B.pre
  have htab := vx_table (x := yL_bestExchange) B (hts0 _ List.mem_cons_self)
  have hts : ∀ w ∈ AW, w.before _ s = true := fun w h => hts0 w (List.mem_cons_of_mem _ h)
  have hown : s.vm.findClass RL = some m.cls := findClass_of_methodNamed B.named
  have hlocks := B.notSynchronized
  have hr0 : ∀ q, inS r q → r ≤ q := fun q h => h.1
  have hA : ∀ q, inS r q → inS r q := fun _ h => h
  have hS : va_S (inS r) s.heap s.heap [] := va_S.rf
  have hG : Sn D r C J G n Y X U Z F s.heap := hG
  have hl := lv_entry ([.ref r, .int pl, .int tmp, .int sn, .int hrs]) (n := 6) (Nat.le_of_ble_eq_true rfl)
  refine W.eq (g2 := entryFrame m ([.ref r, .int pl, .int tmp, .int sn, .int hrs] : List Value).toArray 6) (by rw [hav]) ?_
  rw [lg_entry_eq]
  generalize (lg_sl ([.ref r, .int pl, .int tmp, .int sn, .int hrs]) ++ List.replicate (6 - (lg_sl ([.ref r, .int pl, .int tmp, .int sn, .int hrs])).length) Slot.unset).toArray = ls at hl ⊢
  have hl : lv_has ls 6 [(0, .ref r), (1, .int pl), (2, .int tmp), (3, .int sn), (4, .int hrs)] := hl
  have ha := hE C J hd.1
  refine lv_aload_n hx hb dL_bestExchange_0 rfl (lv_at hl 0 rfl) ?_
  refine lv_iload_n hx hb dL_bestExchange_1 rfl (lv_at hl 1 rfl) ?_
  refine lv_iload_n hx hb dL_bestExchange_2 rfl (lv_at hl 2 rfl) ?_
  refine lv_iload_n hx hb dL_bestExchange_3 rfl (lv_at hl 3 rfl) ?_
  refine lv_iload hx hb dL_bestExchange_4 (lv_at hl 4 rfl) ?_
  refine xcVi (As := [.int pl, .int tmp, .int sn, .int hrs]) (rest := []) hx hb hml hown hts hl.1 hK hKx hr0 (c_X6_bestExchange l hl0 D r C J G n Y X U Z F pl tmp sn hrs hd.1.good.1 hd.1.okQ) (gaV qM_L_69 qI_X6_bestExchange qS_X6_bestExchange qK_X6 qC_X6_bestExchange) hdv_X6_bestExchange ⟨(Nat.le_of_ble_eq_true rfl), (Nat.le_of_ble_eq_true rfl)⟩ hG (Sn.recv hK hG) rfl (Nat.le_of_ble_eq_true rfl) ⟨(Nat.le_of_ble_eq_true rfl), (Nat.le_of_ble_eq_true rfl)⟩ dL_bestExchange_6 hS hA (fun ce q9 H locs hcx hG1 hz hq hS hce hv hcl => ?_) (fun H locs hc0 hG1 hz hq hS => ?_)
  · have hP9 : St D r P Q n H := ⟨C, _, G, Y, X, U, Z, F, hG1, hd, hf⟩
    rcases ec_bestExchange.elim (fun h => absurd h hcx) id with hk | hk
    · rw [hk] at hcl
      refine vx_catch (name := exN 3) (E := exN 3) hown [] (⟨0, 9, 10, 27⟩ : ExceptionTableEntry) [(⟨0, 9, 15, 15⟩ : ExceptionTableEntry)] (by rw [htab]; rfl) (fun z hz => absurd hz List.not_mem_nil) (by decide) (by decide) (hts _ qL_L_27) (va_Nw.use rfl (hKx.2.2.2.1 _ (ex_cast 3 (by decide)))) hce hv hcl ?_
      refine lv_astore (lv' := [(5, .ref q9), (0, .ref r), (1, .int pl), (2, .int tmp), (3, .int sn), (4, .int hrs)]) hx hb dL_bestExchange_10 hl (by decide) rfl (fun ls hl => ?_)
      refine lv_ldc hx hb hown (hts _ qV_L_29) dL_bestExchange_12 ?_
      refine vx_ret (W.widen (k := 4) (n := 24) (by omega) (by omega) ?_)
      exact W.iret hx hb hr (fun t ht hW => gQi_of (by rw [← ha, hk, ans_3]) hP9 hS ht) hS.2.2 dL_bestExchange_14
    · rw [hk] at hcl
      refine vx_catch (name := exN 1) (E := exN 1) hown [(⟨0, 9, 10, 27⟩ : ExceptionTableEntry)] (⟨0, 9, 15, 15⟩ : ExceptionTableEntry) [] (by rw [htab]; rfl) (fun z hz => Or.inr (by rw [List.mem_singleton] at hz; subst hz; exact ⟨by decide, exN 3, hts _ qL_L_27, hKx.2.2.2.2 1 3 (by decide) (by decide) (by decide) (by decide) (by decide)⟩)) (by decide) (by decide) (hts _ qL_L_15) (va_Nw.use rfl (hKx.2.2.2.1 _ (ex_cast 1 (by decide)))) hce hv hcl ?_
      refine lv_astore (lv' := [(5, .ref q9), (0, .ref r), (1, .int pl), (2, .int tmp), (3, .int sn), (4, .int hrs)]) hx hb dL_bestExchange_15 hl (by decide) rfl (fun ls hl => ?_)
      refine lv_ldc hx hb hown (hts _ qV_L_17) dL_bestExchange_17 ?_
      refine vx_ret (W.widen (k := 4) (n := 24) (by omega) (by omega) ?_)
      exact W.iret hx hb hr (fun t ht hW => gQi_of (by rw [← ha, hk, ans_1]) hP9 hS ht) hS.2.2 dL_bestExchange_19
  · have hP9 : St D r P Q n H := ⟨C, _, G, Y, X, U, Z, F, hG1, hd, hf⟩
    refine vx_ret (W.widen (k := 4) (n := 24) (by omega) (by omega) ?_)
    exact W.iret hx hb hr (fun t ht hW => gQi_of (by rw [← ha, hc0, ans_0]) hP9 hS ht) hS.2.2 dL_bestExchange_9
theorem hds_L_leastSpeed : yL_leastSpeed.cls ≠ "java/lang/invoke/MethodHandle" ∧ yL_leastSpeed.cls ≠ "java/lang/invoke/VarHandle" ∧ (parseMethodDescriptor yL_leastSpeed.desc).map (fun d => d.parameters.length) = some 5 := by decide +kernel
set_option maxHeartbeats 4000000 in
set_option maxRecDepth 100000 in
theorem c_L_leastSpeed (l : Launch) (hl0 : l.stackTraces = false) (D : va_G) (r : Nat) (P : Nat → Int32) (Q : Nat → Nat → Int32) (n : Nat) (a : Int32) (pl : Int32) (tmp : Int32) (sn : Int32) (hrs : Int32) (hE : ∀ C J : Nat → Int32, Cg C P → ans (fE_X6_leastSpeed C J pl tmp sn hrs) (fR_X6_leastSpeed C J pl tmp sn hrs) = a) : vx_Met l yL_leastSpeed (wH yL_leastSpeed cL_leastSpeed 6 (some .int) [(0, 9, 10, 27), (0, 9, 15, 15)]) (rmX 9 4 24) (xPc D r [.ref r, .int pl, .int tmp, .int sn, .int hrs] (fun H => St D r P Q n H)) (gQi (inS r) a (fun H => St D r P Q n H)) (fun _ _ _ => False) 4 24 (inS r) := by
  refine vx_ofWH (cc := cL_leastSpeed) (maxL := 6) (ret := (some .int)) (by decide) rfl ?_
  intro p e s m args below meth c s₁ B hml hv
  obtain ⟨hav, ⟨C, J, G, Y, X, U, Z, F, hG, hd, hf⟩, hK, hKx⟩ := hv
  have hx := B.exec
  have hb := B.bytes
  have hr := B.returns
  have hts0 := atoms_spec (ws := wH yL_leastSpeed cL_leastSpeed 6 (some .int) [(0, 9, 10, 27), (0, 9, 15, 15)]) B.pre
  have htab := vx_table (x := yL_leastSpeed) B (hts0 _ List.mem_cons_self)
  have hts : ∀ w ∈ AW, w.before _ s = true := fun w h => hts0 w (List.mem_cons_of_mem _ h)
  have hown : s.vm.findClass RL = some m.cls := findClass_of_methodNamed B.named
  have hlocks := B.notSynchronized
  have hr0 : ∀ q, inS r q → r ≤ q := fun q h => h.1
  have hA : ∀ q, inS r q → inS r q := fun _ h => h
  have hS : va_S (inS r) s.heap s.heap [] := va_S.rf
  have hG : Sn D r C J G n Y X U Z F s.heap := hG
  have hl := lv_entry ([.ref r, .int pl, .int tmp, .int sn, .int hrs]) (n := 6) (Nat.le_of_ble_eq_true rfl)
  refine W.eq (g2 := entryFrame m ([.ref r, .int pl, .int tmp, .int sn, .int hrs] : List Value).toArray 6) (by rw [hav]) ?_
  rw [lg_entry_eq]
  generalize (lg_sl ([.ref r, .int pl, .int tmp, .int sn, .int hrs]) ++ List.replicate (6 - (lg_sl ([.ref r, .int pl, .int tmp, .int sn, .int hrs])).length) Slot.unset).toArray = ls at hl ⊢
  have hl : lv_has ls 6 [(0, .ref r), (1, .int pl), (2, .int tmp), (3, .int sn), (4, .int hrs)] := hl
  have ha := hE C J hd.1
  refine lv_aload_n hx hb dL_leastSpeed_0 rfl (lv_at hl 0 rfl) ?_
  refine lv_iload_n hx hb dL_leastSpeed_1 rfl (lv_at hl 1 rfl) ?_
  refine lv_iload_n hx hb dL_leastSpeed_2 rfl (lv_at hl 2 rfl) ?_
  refine lv_iload_n hx hb dL_leastSpeed_3 rfl (lv_at hl 3 rfl) ?_
  refine lv_iload hx hb dL_leastSpeed_4 (lv_at hl 4 rfl) ?_
  refine xcVi (As := [.int pl, .int tmp, .int sn, .int hrs]) (rest := []) hx hb hml hown hts hl.1 hK hKx hr0 (c_X6_leastSpeed l hl0 D r C J G n Y X U Z F pl tmp sn hrs hd.1.good.1 hd.1.okQ) (gaV qM_L_72 qI_X6_leastSpeed qS_X6_leastSpeed qK_X6 qC_X6_leastSpeed) hdv_X6_leastSpeed ⟨(Nat.le_of_ble_eq_true rfl), (Nat.le_of_ble_eq_true rfl)⟩ hG (Sn.recv hK hG) rfl (Nat.le_of_ble_eq_true rfl) ⟨(Nat.le_of_ble_eq_true rfl), (Nat.le_of_ble_eq_true rfl)⟩ dL_leastSpeed_6 hS hA (fun ce q9 H locs hcx hG1 hz hq hS hce hv hcl => ?_) (fun H locs hc0 hG1 hz hq hS => ?_)
  · have hP9 : St D r P Q n H := ⟨C, _, G, Y, X, U, Z, F, hG1, hd, hf⟩
    rcases ec_leastSpeed.elim (fun h => absurd h hcx) id with hk | hk
    · rw [hk] at hcl
      refine vx_catch (name := exN 3) (E := exN 3) hown [] (⟨0, 9, 10, 27⟩ : ExceptionTableEntry) [(⟨0, 9, 15, 15⟩ : ExceptionTableEntry)] (by rw [htab]; rfl) (fun z hz => absurd hz List.not_mem_nil) (by decide) (by decide) (hts _ qL_L_27) (va_Nw.use rfl (hKx.2.2.2.1 _ (ex_cast 3 (by decide)))) hce hv hcl ?_
      refine lv_astore (lv' := [(5, .ref q9), (0, .ref r), (1, .int pl), (2, .int tmp), (3, .int sn), (4, .int hrs)]) hx hb dL_leastSpeed_10 hl (by decide) rfl (fun ls hl => ?_)
      refine lv_ldc hx hb hown (hts _ qV_L_29) dL_leastSpeed_12 ?_
      refine vx_ret (W.widen (k := 4) (n := 24) (by omega) (by omega) ?_)
      exact W.iret hx hb hr (fun t ht hW => gQi_of (by rw [← ha, hk, ans_3]) hP9 hS ht) hS.2.2 dL_leastSpeed_14
    · rw [hk] at hcl
      refine vx_catch (name := exN 1) (E := exN 1) hown [(⟨0, 9, 10, 27⟩ : ExceptionTableEntry)] (⟨0, 9, 15, 15⟩ : ExceptionTableEntry) [] (by rw [htab]; rfl) (fun z hz => Or.inr (by rw [List.mem_singleton] at hz; subst hz; exact ⟨by decide, exN 3, hts _ qL_L_27, hKx.2.2.2.2 1 3 (by decide) (by decide) (by decide) (by decide) (by decide)⟩)) (by decide) (by decide) (hts _ qL_L_15) (va_Nw.use rfl (hKx.2.2.2.1 _ (ex_cast 1 (by decide)))) hce hv hcl ?_
      refine lv_astore (lv' := [(5, .ref q9), (0, .ref r), (1, .int pl), (2, .int tmp), (3, .int sn), (4, .int hrs)]) hx hb dL_leastSpeed_15 hl (by decide) rfl (fun ls hl => ?_)
      refine lv_ldc hx hb hown (hts _ qV_L_17) dL_leastSpeed_17 ?_
      refine vx_ret (W.widen (k := 4) (n := 24) (by omega) (by omega) ?_)
      exact W.iret hx hb hr (fun t ht hW => gQi_of (by rw [← ha, hk, ans_1]) hP9 hS ht) hS.2.2 dL_leastSpeed_19
  · have hP9 : St D r P Q n H := ⟨C, _, G, Y, X, U, Z, F, hG1, hd, hf⟩
    refine vx_ret (W.widen (k := 4) (n := 24) (by omega) (by omega) ?_)
    exact W.iret hx hb hr (fun t ht hW => gQi_of (by rw [← ha, hc0, ans_0]) hP9 hS ht) hS.2.2 dL_leastSpeed_9
theorem hds_L_emptyIn : yL_emptyIn.cls ≠ "java/lang/invoke/MethodHandle" ∧ yL_emptyIn.cls ≠ "java/lang/invoke/VarHandle" ∧ (parseMethodDescriptor yL_emptyIn.desc).map (fun d => d.parameters.length) = some 3 := by decide +kernel
set_option maxHeartbeats 4000000 in
set_option maxRecDepth 100000 in
theorem c_L_emptyIn (l : Launch) (hl0 : l.stackTraces = false) (D : va_G) (r : Nat) (P : Nat → Int32) (Q : Nat → Nat → Int32) (n : Nat) (a : Int32) (tmp : Int32) (sn : Int32) (hE : ∀ C J : Nat → Int32, Cg C P → ans (fE_X6_emptyIn C J tmp sn) (fR_X6_emptyIn C J tmp sn) = a) : vx_Met l yL_emptyIn (wH yL_emptyIn cL_emptyIn 4 (some .int) [(0, 6, 7, 15)]) (rmX 9 2 12) (xPc D r [.ref r, .int tmp, .int sn] (fun H => St D r P Q n H)) (gQi (inS r) a (fun H => St D r P Q n H)) (fun _ _ _ => False) 2 12 (inS r) := by
  refine vx_ofWH (cc := cL_emptyIn) (maxL := 4) (ret := (some .int)) (by decide) rfl ?_
  intro p e s m args below meth c s₁ B hml hv
  obtain ⟨hav, ⟨C, J, G, Y, X, U, Z, F, hG, hd, hf⟩, hK, hKx⟩ := hv
  have hx := B.exec
  have hb := B.bytes
  have hr := B.returns
  have hts0 := atoms_spec (ws := wH yL_emptyIn cL_emptyIn 4 (some .int) [(0, 6, 7, 15)]) B.pre
  have htab := vx_table (x := yL_emptyIn) B (hts0 _ List.mem_cons_self)
  have hts : ∀ w ∈ AW, w.before _ s = true := fun w h => hts0 w (List.mem_cons_of_mem _ h)
  have hown : s.vm.findClass RL = some m.cls := findClass_of_methodNamed B.named
  have hlocks := B.notSynchronized
  have hr0 : ∀ q, inS r q → r ≤ q := fun q h => h.1
  have hA : ∀ q, inS r q → inS r q := fun _ h => h
  have hS : va_S (inS r) s.heap s.heap [] := va_S.rf
  have hG : Sn D r C J G n Y X U Z F s.heap := hG
  have hl := lv_entry ([.ref r, .int tmp, .int sn]) (n := 4) (Nat.le_of_ble_eq_true rfl)
  refine W.eq (g2 := entryFrame m ([.ref r, .int tmp, .int sn] : List Value).toArray 4) (by rw [hav]) ?_
  rw [lg_entry_eq]
  generalize (lg_sl ([.ref r, .int tmp, .int sn]) ++ List.replicate (4 - (lg_sl ([.ref r, .int tmp, .int sn])).length) Slot.unset).toArray = ls at hl ⊢
  have hl : lv_has ls 4 [(0, .ref r), (1, .int tmp), (2, .int sn)] := hl
  have ha := hE C J hd.1
  refine lv_aload_n hx hb dL_emptyIn_0 rfl (lv_at hl 0 rfl) ?_
  refine lv_iload_n hx hb dL_emptyIn_1 rfl (lv_at hl 1 rfl) ?_
  refine lv_iload_n hx hb dL_emptyIn_2 rfl (lv_at hl 2 rfl) ?_
  refine xcVi (As := [.int tmp, .int sn]) (rest := []) hx hb hml hown hts hl.1 hK hKx hr0 (c_X6_emptyIn l hl0 D r C J G n Y X U Z F tmp sn hd.1.good.1 hd.1.okQ) (gaV qM_L_75 qI_X6_emptyIn qS_X6_emptyIn qK_X6 qC_X6_emptyIn) hdv_X6_emptyIn ⟨(Nat.le_of_ble_eq_true rfl), (Nat.le_of_ble_eq_true rfl)⟩ hG (Sn.recv hK hG) rfl (Nat.le_of_ble_eq_true rfl) ⟨(Nat.le_of_ble_eq_true rfl), (Nat.le_of_ble_eq_true rfl)⟩ dL_emptyIn_3 hS hA (fun ce q9 H locs hcx hG1 hz hq hS hce hv hcl => ?_) (fun H locs hc0 hG1 hz hq hS => ?_)
  · have hP9 : St D r P Q n H := ⟨C, _, G, Y, X, U, Z, F, hG1, hd, hf⟩
    have hk : fE_X6_emptyIn C J tmp sn = 1 := ec_emptyIn.elim (fun h => absurd h hcx) (fun h => h.elim id id)
    rw [hk] at hcl
    refine vx_catch (name := exN 1) (E := exN 1) hown [] (⟨0, 6, 7, 15⟩ : ExceptionTableEntry) [] (by rw [htab]; rfl) (fun z hz => absurd hz List.not_mem_nil) (by decide) (by decide) (hts _ qL_L_15) (va_Nw.use rfl (hKx.2.2.2.1 _ (ex_cast 1 (by decide)))) hce hv hcl ?_
    refine lv_astore_n (lv' := [(3, .ref q9), (0, .ref r), (1, .int tmp), (2, .int sn)]) hx hb dL_emptyIn_7 rfl hl (by decide) rfl (fun ls hl => ?_)
    refine lv_ldc hx hb hown (hts _ qV_L_17) dL_emptyIn_8 ?_
    refine vx_ret (W.widen (k := 2) (n := 12) (by omega) (by omega) ?_)
    exact W.iret hx hb hr (fun t ht hW => gQi_of (by rw [← ha, hk, ans_1]) hP9 hS ht) hS.2.2 dL_emptyIn_10
  · have hP9 : St D r P Q n H := ⟨C, _, G, Y, X, U, Z, F, hG1, hd, hf⟩
    refine vx_ret (W.widen (k := 2) (n := 12) (by omega) (by omega) ?_)
    exact W.iret hx hb hr (fun t ht hW => gQi_of (by rw [← ha, hc0, ans_0]) hP9 hS ht) hS.2.2 dL_emptyIn_6
theorem hds_L_append : yL_append.cls ≠ "java/lang/invoke/MethodHandle" ∧ yL_append.cls ≠ "java/lang/invoke/VarHandle" ∧ (parseMethodDescriptor yL_append.desc).map (fun d => d.parameters.length) = some 2 := by decide +kernel
set_option maxHeartbeats 4000000 in
set_option maxRecDepth 100000 in
theorem c_L_append (l : Launch) (hl0 : l.stackTraces = false) (D : va_G) (r : Nat) (P : Nat → Int32) (Q : Nat → Nat → Int32) (n : Nat) (a : Int32) (x : Int32) (hE : ∀ Y F : Nat → Int32, F 1 = 0 → ans (fE_X6_append Y F x) (fR_X6_append Y F x) = a ∧ fF_X6_append Y F x 1 = 0) : vx_Met l yL_append (wH yL_append cL_append 3 (some .int) [(0, 5, 6, 15), (0, 5, 10, 18)]) (rmX 8 2 12) (xPc D r [.ref r, .int x] (fun H => St D r P Q n H)) (gQi (inS r) a (fun H => St D r P Q n H)) (fun _ _ _ => False) 2 12 (inS r) := by
  refine vx_ofWH (cc := cL_append) (maxL := 3) (ret := (some .int)) (by decide) rfl ?_
  intro p e s m args below meth c s₁ B hml hv
  obtain ⟨hav, ⟨C, J, G, Y, X, U, Z, F, hG, hd, hf⟩, hK, hKx⟩ := hv
  have hx := B.exec
  have hb := B.bytes
  have hr := B.returns
  have hts0 := atoms_spec (ws := wH yL_append cL_append 3 (some .int) [(0, 5, 6, 15), (0, 5, 10, 18)]) B.pre
  have htab := vx_table (x := yL_append) B (hts0 _ List.mem_cons_self)
  have hts : ∀ w ∈ AW, w.before _ s = true := fun w h => hts0 w (List.mem_cons_of_mem _ h)
  have hown : s.vm.findClass RL = some m.cls := findClass_of_methodNamed B.named
  have hlocks := B.notSynchronized
  have hr0 : ∀ q, inS r q → r ≤ q := fun q h => h.1
  have hA : ∀ q, inS r q → inS r q := fun _ h => h
  have hS : va_S (inS r) s.heap s.heap [] := va_S.rf
  have hG : Sn D r C J G n Y X U Z F s.heap := hG
  have hl := lv_entry ([.ref r, .int x]) (n := 3) (Nat.le_of_ble_eq_true rfl)
  refine W.eq (g2 := entryFrame m ([.ref r, .int x] : List Value).toArray 3) (by rw [hav]) ?_
  rw [lg_entry_eq]
  generalize (lg_sl ([.ref r, .int x]) ++ List.replicate (3 - (lg_sl ([.ref r, .int x])).length) Slot.unset).toArray = ls at hl ⊢
  have hl : lv_has ls 3 [(0, .ref r), (1, .int x)] := hl
  obtain ⟨ha, hf1⟩ := hE Y F hf
  refine lv_aload_n hx hb dL_append_0 rfl (lv_at hl 0 rfl) ?_
  refine lv_iload_n hx hb dL_append_1 rfl (lv_at hl 1 rfl) ?_
  refine xcVi (As := [.int x]) (rest := []) hx hb hml hown hts hl.1 hK hKx hr0 (c_X6_append l hl0 D r C J G n Y X U Z F x (okT5_0 hf)) (gaV qM_L_78 qI_X6_append qS_X6_append qK_X6 qC_X6_append) hdv_X6_append ⟨(Nat.le_of_ble_eq_true rfl), (Nat.le_of_ble_eq_true rfl)⟩ hG (Sn.recv hK hG) rfl (Nat.le_of_ble_eq_true rfl) ⟨(Nat.le_of_ble_eq_true rfl), (Nat.le_of_ble_eq_true rfl)⟩ dL_append_2 hS hA (fun ce q9 H locs hcx hG1 hz hq hS hce hv hcl => ?_) (fun H locs hc0 hG1 hz hq hS => ?_)
  · have hP9 : St D r P Q n H := ⟨C, J, G, _, X, U, Z, _, hG1, hd, hf1⟩
    rcases ec_append.elim (fun h => absurd h hcx) id with hk | hk
    · rw [hk] at hcl
      refine vx_catch (name := exN 1) (E := exN 1) hown [] (⟨0, 5, 6, 15⟩ : ExceptionTableEntry) [(⟨0, 5, 10, 18⟩ : ExceptionTableEntry)] (by rw [htab]; rfl) (fun z hz => absurd hz List.not_mem_nil) (by decide) (by decide) (hts _ qL_L_15) (va_Nw.use rfl (hKx.2.2.2.1 _ (ex_cast 1 (by decide)))) hce hv hcl ?_
      refine lv_astore_n (lv' := [(2, .ref q9), (0, .ref r), (1, .int x)]) hx hb dL_append_6 rfl hl (by decide) rfl (fun ls hl => ?_)
      refine lv_ldc hx hb hown (hts _ qV_L_17) dL_append_7 ?_
      refine vx_ret (W.widen (k := 2) (n := 12) (by omega) (by omega) ?_)
      exact W.iret hx hb hr (fun t ht hW => gQi_of (by rw [← ha, hk, ans_1]) hP9 hS ht) hS.2.2 dL_append_9
    · rw [hk] at hcl
      refine vx_catch (name := exN 2) (E := exN 2) hown [(⟨0, 5, 6, 15⟩ : ExceptionTableEntry)] (⟨0, 5, 10, 18⟩ : ExceptionTableEntry) [] (by rw [htab]; rfl) (fun z hz => Or.inr (by rw [List.mem_singleton] at hz; subst hz; exact ⟨by decide, exN 1, hts _ qL_L_15, hKx.2.2.2.2 2 1 (by decide) (by decide) (by decide) (by decide) (by decide)⟩)) (by decide) (by decide) (hts _ qL_L_18) (va_Nw.use rfl (hKx.2.2.2.1 _ (ex_cast 2 (by decide)))) hce hv hcl ?_
      refine lv_astore_n (lv' := [(2, .ref q9), (0, .ref r), (1, .int x)]) hx hb dL_append_10 rfl hl (by decide) rfl (fun ls hl => ?_)
      refine lv_ldc hx hb hown (hts _ qV_L_20) dL_append_11 ?_
      refine vx_ret (W.widen (k := 2) (n := 12) (by omega) (by omega) ?_)
      exact W.iret hx hb hr (fun t ht hW => gQi_of (by rw [← ha, hk, ans_2]) hP9 hS ht) hS.2.2 dL_append_13
  · have hP9 : St D r P Q n H := ⟨C, J, G, _, X, U, Z, _, hG1, hd, hf1⟩
    refine vx_ret (W.widen (k := 2) (n := 12) (by omega) (by omega) ?_)
    exact W.iret hx hb hr (fun t ht hW => gQi_of (by rw [← ha, hc0, ans_0]) hP9 hS ht) hS.2.2 dL_append_5
theorem hds_L_runText : yL_runText.cls ≠ "java/lang/invoke/MethodHandle" ∧ yL_runText.cls ≠ "java/lang/invoke/VarHandle" ∧ (parseMethodDescriptor yL_runText.desc).map (fun d => d.parameters.length) = some 1 := by decide +kernel
set_option maxHeartbeats 4000000 in
set_option maxRecDepth 100000 in
theorem c_L_runText (l : Launch) (hl0 : l.stackTraces = false) (D : va_G) (r : Nat) (P : Nat → Int32) (Q : Nat → Nat → Int32) (n : Nat) (P' : Nat → Int32) (Q' : Nat → Nat → Int32) (n' : Nat) (a : Int32) (hE : ∀ (C : Nat → Int32) (G : Nat → Nat → Int32) (Y X U Z F : Nat → Int32), Sd C G n P Q → F 1 = 0 → ans (fE_X6_runText C G n Y X U Z F) (fR_X6_runText C G n Y X U Z F) = a ∧ fn_X6_runText C G n Y X U Z F = n' ∧ Sd (fC_X6_runText C G n Y X U Z F) (fG_X6_runText C G n Y X U Z F) n' P' Q' ∧ fF_X6_runText C G n Y X U Z F 1 = 0) : vx_Met l yL_runText (wH yL_runText cL_runText 2 (some .int) [(0, 4, 5, 18)]) (rmX 8 1 6) (xPc D r [.ref r] (fun H => St D r P Q n H)) (gQi (inS r) a (fun H => St D r P' Q' n' H)) (fun _ _ _ => False) 1 6 (inS r) := by
  refine vx_ofWH (cc := cL_runText) (maxL := 2) (ret := (some .int)) (by decide) rfl ?_
  intro p e s m args below meth c s₁ B hml hv
  obtain ⟨hav, ⟨C, J, G, Y, X, U, Z, F, hG, hd, hf⟩, hK, hKx⟩ := hv
  have hx := B.exec
  have hb := B.bytes
  have hr := B.returns
  have hts0 := atoms_spec (ws := wH yL_runText cL_runText 2 (some .int) [(0, 4, 5, 18)]) B.pre
  have htab := vx_table (x := yL_runText) B (hts0 _ List.mem_cons_self)
  have hts : ∀ w ∈ AW, w.before _ s = true := fun w h => hts0 w (List.mem_cons_of_mem _ h)
  have hown : s.vm.findClass RL = some m.cls := findClass_of_methodNamed B.named
  have hlocks := B.notSynchronized
  have hr0 : ∀ q, inS r q → r ≤ q := fun q h => h.1
  have hA : ∀ q, inS r q → inS r q := fun _ h => h
  have hS : va_S (inS r) s.heap s.heap [] := va_S.rf
  have hG : Sn D r C J G n Y X U Z F s.heap := hG
  have hl := lv_entry ([.ref r]) (n := 2) (Nat.le_of_ble_eq_true rfl)
  refine W.eq (g2 := entryFrame m ([.ref r] : List Value).toArray 2) (by rw [hav]) ?_
  rw [lg_entry_eq]
  generalize (lg_sl ([.ref r]) ++ List.replicate (2 - (lg_sl ([.ref r])).length) Slot.unset).toArray = ls at hl ⊢
  have hl : lv_has ls 2 [(0, .ref r)] := hl
  obtain ⟨ha, hn1, hd1, hf1⟩ := hE C G Y X U Z F hd hf
  refine lv_aload_n hx hb dL_runText_0 rfl (lv_at hl 0 rfl) ?_
  refine xcVi (As := []) (rest := []) hx hb hml hown hts hl.1 hK hKx hr0 (c_X6_runText l hl0 D r C J G n Y X U Z F hd.wf hd.2.1 (okT5_0 hf)) (gaV qM_L_81 qI_X6_runText qS_X6_runText qK_X6 qC_X6_runText) hdv_X6_runText ⟨(Nat.le_of_ble_eq_true rfl), (Nat.le_of_ble_eq_true rfl)⟩ hG (Sn.recv hK hG) rfl (Nat.le_of_ble_eq_true rfl) ⟨(Nat.le_of_ble_eq_true rfl), (Nat.le_of_ble_eq_true rfl)⟩ dL_runText_1 hS hA (fun ce q9 H locs hcx hG1 hz hq hS hce hv hcl => ?_) (fun H locs hc0 hG1 hz hq hS => ?_)
  · have hP9 : St D r P' Q' n' H := ⟨_, J, _, Y, _, _, _, _, by rw [← hn1]; exact hG1, hd1, hf1⟩
    have hk : fE_X6_runText C G n Y X U Z F = 2 := ec_runText.elim (fun h => absurd h hcx) (fun h => h.elim id id)
    rw [hk] at hcl
    refine vx_catch (name := exN 2) (E := exN 2) hown [] (⟨0, 4, 5, 18⟩ : ExceptionTableEntry) [] (by rw [htab]; rfl) (fun z hz => absurd hz List.not_mem_nil) (by decide) (by decide) (hts _ qL_L_18) (va_Nw.use rfl (hKx.2.2.2.1 _ (ex_cast 2 (by decide)))) hce hv hcl ?_
    refine lv_astore_n (lv' := [(1, .ref q9), (0, .ref r)]) hx hb dL_runText_5 rfl hl (by decide) rfl (fun ls hl => ?_)
    refine lv_ldc hx hb hown (hts _ qV_L_20) dL_runText_6 ?_
    refine vx_ret (W.widen (k := 1) (n := 6) (by omega) (by omega) ?_)
    exact W.iret hx hb hr (fun t ht hW => gQi_of (by rw [← ha, hk, ans_2]) hP9 hS ht) hS.2.2 dL_runText_8
  · have hP9 : St D r P' Q' n' H := ⟨_, J, _, Y, _, _, _, _, by rw [← hn1]; exact hG1, hd1, hf1⟩
    refine vx_ret (W.widen (k := 1) (n := 6) (by omega) (by omega) ?_)
    exact W.iret hx hb hr (fun t ht hW => gQi_of (by rw [← ha, hc0, ans_0]) hP9 hS ht) hS.2.2 dL_runText_4
theorem hds_L_undo : yL_undo.cls ≠ "java/lang/invoke/MethodHandle" ∧ yL_undo.cls ≠ "java/lang/invoke/VarHandle" ∧ (parseMethodDescriptor yL_undo.desc).map (fun d => d.parameters.length) = some 1 := by decide +kernel
set_option maxHeartbeats 4000000 in
set_option maxRecDepth 100000 in
theorem c_L_undo (l : Launch) (hl0 : l.stackTraces = false) (D : va_G) (r : Nat) (P : Nat → Int32) (Q : Nat → Nat → Int32) (n : Nat) (P' : Nat → Int32) (Q' : Nat → Nat → Int32) (n' : Nat) (a : Int32) (hE : ∀ (C : Nat → Int32) (G : Nat → Nat → Int32), Sd C G n P Q → ans (fE_X6_undo C G n) (fR_X6_undo C G n) = a ∧ fn_X6_undo C G n = n' ∧ Sd (fC_X6_undo C G n) G n' P' Q') : vx_Met l yL_undo (wH yL_undo cL_undo 2 (some .int) [(0, 4, 5, 18)]) (rmX 7 1 6) (xPc D r [.ref r] (fun H => St D r P Q n H)) (gQi (inS r) a (fun H => St D r P' Q' n' H)) (fun _ _ _ => False) 1 6 (inS r) := by
  refine vx_ofWH (cc := cL_undo) (maxL := 2) (ret := (some .int)) (by decide) rfl ?_
  intro p e s m args below meth c s₁ B hml hv
  obtain ⟨hav, ⟨C, J, G, Y, X, U, Z, F, hG, hd, hf⟩, hK, hKx⟩ := hv
  have hx := B.exec
  have hb := B.bytes
  have hr := B.returns
  have hts0 := atoms_spec (ws := wH yL_undo cL_undo 2 (some .int) [(0, 4, 5, 18)]) B.pre
  have htab := vx_table (x := yL_undo) B (hts0 _ List.mem_cons_self)
  have hts : ∀ w ∈ AW, w.before _ s = true := fun w h => hts0 w (List.mem_cons_of_mem _ h)
  have hown : s.vm.findClass RL = some m.cls := findClass_of_methodNamed B.named
  have hlocks := B.notSynchronized
  have hr0 : ∀ q, inS r q → r ≤ q := fun q h => h.1
  have hA : ∀ q, inS r q → inS r q := fun _ h => h
  have hS : va_S (inS r) s.heap s.heap [] := va_S.rf
  have hG : Sn D r C J G n Y X U Z F s.heap := hG
  have hl := lv_entry ([.ref r]) (n := 2) (Nat.le_of_ble_eq_true rfl)
  refine W.eq (g2 := entryFrame m ([.ref r] : List Value).toArray 2) (by rw [hav]) ?_
  rw [lg_entry_eq]
  generalize (lg_sl ([.ref r]) ++ List.replicate (2 - (lg_sl ([.ref r])).length) Slot.unset).toArray = ls at hl ⊢
  have hl : lv_has ls 2 [(0, .ref r)] := hl
  obtain ⟨ha, hn1, hd1⟩ := hE C G hd
  refine lv_aload_n hx hb dL_undo_0 rfl (lv_at hl 0 rfl) ?_
  refine xcVi (As := []) (rest := []) hx hb hml hown hts hl.1 hK hKx hr0 (c_X6_undo l hl0 D r C J G n Y X U Z F hd.2.1 hd.oG) (gaV qM_L_85 qI_X6_undo qS_X6_undo qK_X6 qC_X6_undo) hdv_X6_undo ⟨(Nat.le_of_ble_eq_true rfl), (Nat.le_of_ble_eq_true rfl)⟩ hG (Sn.recv hK hG) rfl (Nat.le_of_ble_eq_true rfl) ⟨(Nat.le_of_ble_eq_true rfl), (Nat.le_of_ble_eq_true rfl)⟩ dL_undo_1 hS hA (fun ce q9 H locs hcx hG1 hz hq hS hce hv hcl => ?_) (fun H locs hc0 hG1 hz hq hS => ?_)
  · have hP9 : St D r P' Q' n' H := ⟨_, J, G, Y, X, U, Z, F, by rw [← hn1]; exact hG1, hd1, hf⟩
    have hk : fE_X6_undo C G n = 2 := ec_undo.elim (fun h => absurd h hcx) (fun h => h.elim id id)
    rw [hk] at hcl
    refine vx_catch (name := exN 2) (E := exN 2) hown [] (⟨0, 4, 5, 18⟩ : ExceptionTableEntry) [] (by rw [htab]; rfl) (fun z hz => absurd hz List.not_mem_nil) (by decide) (by decide) (hts _ qL_L_18) (va_Nw.use rfl (hKx.2.2.2.1 _ (ex_cast 2 (by decide)))) hce hv hcl ?_
    refine lv_astore_n (lv' := [(1, .ref q9), (0, .ref r)]) hx hb dL_undo_5 rfl hl (by decide) rfl (fun ls hl => ?_)
    refine lv_ldc hx hb hown (hts _ qV_L_20) dL_undo_6 ?_
    refine vx_ret (W.widen (k := 1) (n := 6) (by omega) (by omega) ?_)
    exact W.iret hx hb hr (fun t ht hW => gQi_of (by rw [← ha, hk, ans_2]) hP9 hS ht) hS.2.2 dL_undo_8
  · have hP9 : St D r P' Q' n' H := ⟨_, J, G, Y, X, U, Z, F, by rw [← hn1]; exact hG1, hd1, hf⟩
    refine vx_ret (W.widen (k := 1) (n := 6) (by omega) (by omega) ?_)
    exact W.iret hx hb hr (fun t ht hW => gQi_of (by rw [← ha, hc0, ans_0]) hP9 hS ht) hS.2.2 dL_undo_4
