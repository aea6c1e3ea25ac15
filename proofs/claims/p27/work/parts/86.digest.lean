theorem hds_X6_mix : yX6_mix.cls ≠ "java/lang/invoke/MethodHandle" ∧ yX6_mix.cls ≠ "java/lang/invoke/VarHandle" ∧ (parseMethodDescriptor yX6_mix.desc).map (fun d => d.parameters.length) = some 2 := by decide +kernel
def fR_X6_mix  (hh : Int64) (v : Int64) : Int64 :=
  (31 * hh) + v
set_option maxHeartbeats 4000000 in
set_option maxRecDepth 100000 in
theorem c_X6_mix (l : Launch) (D : va_G) (Pic : Heap → Prop) (hh : Int64) (v : Int64) : Met l yX6_mix (wA yX6_mix cX6_mix 4 (some .long)) (rmL 0) (gPc D [.long hh, .long v] Pic) (gQl noA (fR_X6_mix hh v) Pic) 0 0 noA := by
  refine Met.ofW (cc := cX6_mix) (maxL := 4) (ret := (some .long)) (by decide) rfl ?_
  intro p e s m args below meth c s₁ B hml hv
  obtain ⟨hav, hG, hK⟩ := hv
  have hx := B.exec
  have hb := B.bytes
  have hr := B.returns
  have hts0 := atoms_spec (ws := wA yX6_mix cX6_mix 4 (some .long)) B.pre
  have hts : ∀ w ∈ AW, w.before _ s = true := fun w h => hts0 w (List.mem_cons_of_mem _ h)
  have hown : s.vm.findClass RX6 = some m.cls := findClass_of_methodNamed B.named
  have hlocks := B.notSynchronized
  have hA : ∀ q, noA q → noA q := fun _ h => h
  have hS : va_S noA s.heap s.heap [] := va_S.rf
  have hG : Pic s.heap := hG
  have hl := lv_entry ([.long hh, .long v]) (n := 4) (Nat.le_of_ble_eq_true rfl)
  refine W.eq (g2 := entryFrame m ([.long hh, .long v] : List Value).toArray 4) (by rw [hav]) ?_
  rw [lg_entry_eq]
  generalize (lg_sl ([.long hh, .long v]) ++ List.replicate (4 - (lg_sl ([.long hh, .long v])).length) Slot.unset).toArray = ls at hl ⊢
  have hl : lv_has ls 4 [(0, .long hh), (2, .long v)] := hl
  refine lv_ldc2 hx hb hown (hts _ qV_X6_222) dX6_mix_0 ?_
  refine lv_lload_n hx hb dX6_mix_3 rfl (lv_at hl 0 rfl) ?_
  refine lv_lmul hx hb dX6_mix_4 ?_
  refine lv_lload_n hx hb dX6_mix_5 rfl (lv_at hl 1 rfl) ?_
  refine lv_ladd hx hb dX6_mix_6 ?_
  have hG9 := hG
  exact W.lret hx hb hr (fun t ht hW => gQl_of (by unfold fR_X6_mix; (try dsimp only); (try rfl)) hG9 hS ht) hS.2.2 dX6_mix_7
theorem hds_X6_mixPlow : yX6_mixPlow.cls ≠ "java/lang/invoke/MethodHandle" ∧ yX6_mixPlow.cls ≠ "java/lang/invoke/VarHandle" ∧ (parseMethodDescriptor yX6_mixPlow.desc).map (fun d => d.parameters.length) = some 2 := by decide +kernel
def fR_X6_mixPlow_L33 (P : Nat → Int32) (h0 : Int64) (q : Nat) : Nat → Int64 → Nat → Int64
  | 0, hh, j =>
    hh
  | k + 1, hh, j =>
    let y1 := fR_X6_mix hh ((P (169 + 20 * q + 8 + j)).toInt64)
    fR_X6_mixPlow_L33 P h0 q k y1 (j + 1)
def fR_X6_mixPlow_L5 (P : Nat → Int32) (h0 : Int64) (q : Nat) : Nat → Int64 → Nat → Int64
  | 0, hh, j =>
    fR_X6_mixPlow_L33 P h0 q (nc P q) hh 0
  | k + 1, hh, j =>
    let y2 := fR_X6_mix hh ((fR_X1_number P q j).toInt64)
    fR_X6_mixPlow_L5 P h0 q k y2 (j + 1)
def fR_X6_mixPlow (P : Nat → Int32) (h0 : Int64) (q : Nat) : Int64 :=
  fR_X6_mixPlow_L5 P h0 q 8 h0 0
set_option maxHeartbeats 4000000 in
set_option maxRecDepth 100000 in
theorem c_X6_mixPlow (l : Launch) (D : va_G) (b : Nat) (P : Nat → Int32) (h0 : Int64) (q : Nat) (hq : q < 3) (hQ : okQ P q) : Met l yX6_mixPlow (wA yX6_mixPlow cX6_mixPlow 6 (some .long)) (rmL 1) (gPc D [.long h0, .ref (b + 24 + 2 * q)] (fun H => Graph D b P H)) (gQl (inG b) (fR_X6_mixPlow P h0 q) (fun H => Graph D b P H)) 0 0 (inG b) := by
  refine Met.ofW (cc := cX6_mixPlow) (maxL := 6) (ret := (some .long)) (by decide) rfl ?_
  intro p e s m args below meth c s₁ B hml hv
  obtain ⟨hav, hG, hK⟩ := hv
  have hx := B.exec
  have hb := B.bytes
  have hr := B.returns
  have hts0 := atoms_spec (ws := wA yX6_mixPlow cX6_mixPlow 6 (some .long)) B.pre
  have hts : ∀ w ∈ AW, w.before _ s = true := fun w h => hts0 w (List.mem_cons_of_mem _ h)
  have hown : s.vm.findClass RX6 = some m.cls := findClass_of_methodNamed B.named
  have hlocks := B.notSynchronized
  have hA : ∀ q, (inG b) q → (inG b) q := fun _ h => h
  have hS : va_S (inG b) s.heap s.heap [] := va_S.rf
  have hG : Graph D b P s.heap := hG
  have hl := lv_entry ([.long h0, .ref (b + 24 + 2 * q)]) (n := 6) (Nat.le_of_ble_eq_true rfl)
  refine W.eq (g2 := entryFrame m ([.long h0, .ref (b + 24 + 2 * q)] : List Value).toArray 6) (by rw [hav]) ?_
  rw [lg_entry_eq]
  generalize (lg_sl ([.long h0, .ref (b + 24 + 2 * q)]) ++ List.replicate (6 - (lg_sl ([.long h0, .ref (b + 24 + 2 * q)])).length) Slot.unset).toArray = ls at hl ⊢
  have hl : lv_has ls 6 [(0, .long h0), (2, .ref (b + 24 + 2 * q))] := hl
  have hQ2 := hQ.2
  have L33 : ∀ (k : Nat) (hh : Int64) (j : Nat) (H : Heap) (locs : List Loc) (ls : Array Slot) (hik : j + k = nc P q) (hfR : fR_X6_mixPlow P h0 q = fR_X6_mixPlow_L33 P h0 q k hh j) (hG : Graph D b P H) (hS : va_S (inG b) s.heap H locs) (hl : lv_has ls 6 [(0, .long h0), (2, .ref (b + 24 + 2 * q)), (3, .long hh), (5, .int (nI j))]), W p l e (headSpec (wA yX6_mixPlow cX6_mixPlow 6 (some .long)) (rmL 1)).room s m args below meth c H locs 0 0 (MQ below (gQl (inG b) (fR_X6_mixPlow P h0 q) (fun H => Graph D b P H)) args s 0 0 (inG b)) (F0 m 33 ls []) := by
    intro k
    induction k with
    | zero =>
      intro hh j H locs ls hik hfR hG hS hl
      refine lv_iload hx hb dX6_mixPlow_33 (lv_at hl 3 rfl) ?_
      refine lv_aload_n hx hb dX6_mixPlow_35 rfl (lv_at hl 1 rfl) ?_
      refine getP 4 3 (i := q) rfl hx hb hts hown hK hG (by omega) (by decide) (by decide) qF_X6_81 rfl dX6_mixPlow_36 ?_
      refine topN (n := (nc P q)) hQ.1 ?_
      refine lv_icmp_ge (tgt := 61) hx hb dX6_mixPlow_39 (by decide) (fun c39 => ?_) (fun c39 => ?_)
      · have c39 : (nc P q) ≤ j := (nI_leI (a := (nc P q)) (b := j) (by omega) (by omega)).mp c39
        refine lv_lload_n hx hb dX6_mixPlow_61 rfl (lv_at hl 2 rfl) ?_
        have hG9 := hG
        exact W.lret hx hb hr (fun t ht hW => gQl_of (by rw [hfR, fR_X6_mixPlow_L33]; (try dsimp only); (try rfl)) hG9 hS ht) hS.2.2 dX6_mixPlow_62
      · have c39 : ¬ (nc P q) ≤ j := fun h => c39 ((nI_leI (a := (nc P q)) (b := j) (by omega) (by omega)).mpr h)
        exfalso; omega
    | succ k ih =>
      intro hh j H locs ls hik hfR hG hS hl
      refine lv_iload hx hb dX6_mixPlow_33 (lv_at hl 3 rfl) ?_
      refine lv_aload_n hx hb dX6_mixPlow_35 rfl (lv_at hl 1 rfl) ?_
      refine getP 4 3 (i := q) rfl hx hb hts hown hK hG (by omega) (by decide) (by decide) qF_X6_81 rfl dX6_mixPlow_36 ?_
      refine topN (n := (nc P q)) hQ.1 ?_
      refine lv_icmp_ge (tgt := 61) hx hb dX6_mixPlow_39 (by decide) (fun c39 => ?_) (fun c39 => ?_)
      · have c39 : (nc P q) ≤ j := (nI_leI (a := (nc P q)) (b := j) (by omega) (by omega)).mp c39
        exfalso; omega
      · have c39 : ¬ (nc P q) ≤ j := fun h => c39 ((nI_leI (a := (nc P q)) (b := j) (by omega) (by omega)).mpr h)
        refine lv_lload_n hx hb dX6_mixPlow_42 rfl (lv_at hl 2 rfl) ?_
        refine lv_aload_n hx hb dX6_mixPlow_43 rfl (lv_at hl 1 rfl) ?_
        refine getPr (i := q) hx hb hts hown hK hG (by omega) qF_X6_86 dX6_mixPlow_44 ?_
        refine lv_iload hx hb dX6_mixPlow_47 (lv_at hl 3 rfl) ?_
        refine aldR (i := q) (k := j) hx hb hK hG (by omega) (by omega) dX6_mixPlow_49 ?_
        refine lv_i2l (v := (P (169 + 20 * q + 8 + j)).toInt64) hx hb dX6_mixPlow_50 rfl ?_
        refine gcSl (As := [.long hh, .long ((P (169 + 20 * q + 8 + j)).toInt64)]) (rest := []) hx hb hml hown hts hl.1 hK (c_X6_mix l D (fun H => Graph D b P H) hh ((P (169 + 20 * q + 8 + j)).toInt64)) (gaS qM_X6_206 qT_X6_mix qK_X6 qC_X6_mix) hds_X6_mix ⟨Nat.le_of_ble_eq_true rfl, Nat.le_of_ble_eq_true rfl⟩ hG rfl (Nat.le_of_ble_eq_true rfl) ⟨Nat.zero_le _, Nat.zero_le _⟩ dX6_mixPlow_51 hS (fun _ (h : noA _) => False.elim h) (fun H locs hG _ _ hS => ?_)
        have hG : Graph D b P H := hG
        refine lv_topl (fun y1 ey1 => ?_)
        refine lv_lstore_n (lv' := [(3, .long y1), (0, .long h0), (2, .ref (b + 24 + 2 * q)), (5, .int (nI j))]) hx hb dX6_mixPlow_54 rfl hl (by decide) rfl (fun ls hl => ?_)
        refine lv_iinc (v := nI (j + 1)) (lv' := [(5, .int (nI (j + 1))), (3, .long y1), (0, .long h0), (2, .ref (b + 24 + 2 * q))]) hx hb dX6_mixPlow_55 hl (k := 3) rfl (nI_add j 1) (by decide) rfl (fun ls hl => ?_)
        refine lv_goto (tgt := 33) hx hb dX6_mixPlow_58 (by decide) ?_
        subst ey1
        exact ih _ (j + 1) _ _ _ (by first | assumption | omega) (by rw [hfR, fR_X6_mixPlow_L33]; (try dsimp only); (try rfl)) hG hS (lv_sub hl [2, 3, 1, 0] rfl)
  have L5 : ∀ (k : Nat) (hh : Int64) (j : Nat) (H : Heap) (locs : List Loc) (ls : Array Slot) (hik : j + k = 8) (hfR : fR_X6_mixPlow P h0 q = fR_X6_mixPlow_L5 P h0 q k hh j) (hG : Graph D b P H) (hS : va_S (inG b) s.heap H locs) (hl : lv_has ls 6 [(0, .long h0), (2, .ref (b + 24 + 2 * q)), (3, .long hh), (5, .int (nI j))]), W p l e (headSpec (wA yX6_mixPlow cX6_mixPlow 6 (some .long)) (rmL 1)).room s m args below meth c H locs 0 0 (MQ below (gQl (inG b) (fR_X6_mixPlow P h0 q) (fun H => Graph D b P H)) args s 0 0 (inG b)) (F0 m 5 ls []) := by
    intro k
    induction k with
    | zero =>
      intro hh j H locs ls hik hfR hG hS hl
      refine lv_iload hx hb dX6_mixPlow_5 (lv_at hl 3 rfl) ?_
      refine lv_bipush (v := 7) hx hb dX6_mixPlow_7 (by decide) ?_
      refine lv_icmp_gt (tgt := 30) hx hb dX6_mixPlow_9 (by decide) (fun c9 => ?_) (fun c9 => ?_)
      · have c9 : 7 < j := (nI_ltI (a := 7) (b := j) (by omega) (by omega)).mp c9
        refine lv_iconst (v := 0) hx hb dX6_mixPlow_30 (by decide) ?_
        refine lv_istore (lv' := [(5, .int 0), (0, .long h0), (2, .ref (b + 24 + 2 * q)), (3, .long hh)]) hx hb dX6_mixPlow_31 hl (by decide) rfl (fun ls hl => ?_)
        exact L33 (nc P q) _ 0 _ _ _ (by first | assumption | omega) (by rw [hfR, fR_X6_mixPlow_L5]; (try dsimp only); (try rfl)) hG hS (lv_sub hl [1, 2, 3, 0] rfl)
      · have c9 : ¬ 7 < j := fun h => c9 ((nI_ltI (a := 7) (b := j) (by omega) (by omega)).mpr h)
        exfalso; omega
    | succ k ih =>
      intro hh j H locs ls hik hfR hG hS hl
      refine lv_iload hx hb dX6_mixPlow_5 (lv_at hl 3 rfl) ?_
      refine lv_bipush (v := 7) hx hb dX6_mixPlow_7 (by decide) ?_
      refine lv_icmp_gt (tgt := 30) hx hb dX6_mixPlow_9 (by decide) (fun c9 => ?_) (fun c9 => ?_)
      · have c9 : 7 < j := (nI_ltI (a := 7) (b := j) (by omega) (by omega)).mp c9
        exfalso; omega
      · have c9 : ¬ 7 < j := fun h => c9 ((nI_ltI (a := 7) (b := j) (by omega) (by omega)).mpr h)
        refine lv_lload_n hx hb dX6_mixPlow_12 rfl (lv_at hl 2 rfl) ?_
        refine lv_aload_n hx hb dX6_mixPlow_13 rfl (lv_at hl 1 rfl) ?_
        refine lv_iload hx hb dX6_mixPlow_14 (lv_at hl 3 rfl) ?_
        refine gcVi (As := [.int (nI j)]) (rest := [.long hh]) hx hb hml hown hts hl.1 hK (c_X1_number l D b P q j (by first | assumption | omega) (by first | assumption | omega)) (gaV qM_X6_151 qI_X1_number qS_X1_number qK_X1 qC_X1_number) hdv_X1_number ⟨Nat.le_of_ble_eq_true rfl, Nat.le_of_ble_eq_true rfl⟩ hG (hG.recvP hK (by omega)) rfl (Nat.le_of_ble_eq_true rfl) ⟨Nat.zero_le _, Nat.zero_le _⟩ dX6_mixPlow_16 hS hA (fun H locs hG _ _ hS => ?_)
        have hG : Graph D b P H := hG
        refine lv_i2l (v := (fR_X1_number P q j).toInt64) hx hb dX6_mixPlow_19 rfl ?_
        refine gcSl (As := [.long hh, .long ((fR_X1_number P q j).toInt64)]) (rest := []) hx hb hml hown hts hl.1 hK (c_X6_mix l D (fun H => Graph D b P H) hh ((fR_X1_number P q j).toInt64)) (gaS qM_X6_206 qT_X6_mix qK_X6 qC_X6_mix) hds_X6_mix ⟨Nat.le_of_ble_eq_true rfl, Nat.le_of_ble_eq_true rfl⟩ hG rfl (Nat.le_of_ble_eq_true rfl) ⟨Nat.zero_le _, Nat.zero_le _⟩ dX6_mixPlow_20 hS (fun _ (h : noA _) => False.elim h) (fun H locs hG _ _ hS => ?_)
        have hG : Graph D b P H := hG
        refine lv_topl (fun y2 ey2 => ?_)
        refine lv_lstore_n (lv' := [(3, .long y2), (0, .long h0), (2, .ref (b + 24 + 2 * q)), (5, .int (nI j))]) hx hb dX6_mixPlow_23 rfl hl (by decide) rfl (fun ls hl => ?_)
        refine lv_iinc (v := nI (j + 1)) (lv' := [(5, .int (nI (j + 1))), (3, .long y2), (0, .long h0), (2, .ref (b + 24 + 2 * q))]) hx hb dX6_mixPlow_24 hl (k := 3) rfl (nI_add j 1) (by decide) rfl (fun ls hl => ?_)
        refine lv_goto (tgt := 5) hx hb dX6_mixPlow_27 (by decide) ?_
        subst ey2
        exact ih _ (j + 1) _ _ _ (by first | assumption | omega) (by rw [hfR, fR_X6_mixPlow_L5]; (try dsimp only); (try rfl)) hG hS (lv_sub hl [2, 3, 1, 0] rfl)
  refine lv_lload_n hx hb dX6_mixPlow_0 rfl (lv_at hl 0 rfl) ?_
  refine lv_lstore_n (lv' := [(3, .long h0), (0, .long h0), (2, .ref (b + 24 + 2 * q))]) hx hb dX6_mixPlow_1 rfl hl (by decide) rfl (fun ls hl => ?_)
  refine lv_iconst (v := 0) hx hb dX6_mixPlow_2 (by decide) ?_
  refine lv_istore (lv' := [(5, .int 0), (3, .long h0), (0, .long h0), (2, .ref (b + 24 + 2 * q))]) hx hb dX6_mixPlow_3 hl (by decide) rfl (fun ls hl => ?_)
  exact L5 8 _ 0 _ _ _ (by first | assumption | omega) (by unfold fR_X6_mixPlow; (try dsimp only); (try rfl)) hG hS (lv_sub hl [2, 3, 1, 0] rfl)
theorem hds_X6_mixTerms : yX6_mixTerms.cls ≠ "java/lang/invoke/MethodHandle" ∧ yX6_mixTerms.cls ≠ "java/lang/invoke/VarHandle" ∧ (parseMethodDescriptor yX6_mixTerms.desc).map (fun d => d.parameters.length) = some 2 := by decide +kernel
def fR_X6_mixTerms_L5 (P : Nat → Int32) (h0 : Int64) (t3 : Nat) : Nat → Int64 → Nat → Int64
  | 0, hh, j =>
    hh
  | k + 1, hh, j =>
    let y1 := fR_X6_mix hh ((fR_X4_number P t3 j).toInt64)
    fR_X6_mixTerms_L5 P h0 t3 k y1 (j + 1)
def fR_X6_mixTerms (P : Nat → Int32) (h0 : Int64) (t3 : Nat) : Int64 :=
  fR_X6_mixTerms_L5 P h0 t3 4 h0 0
set_option maxHeartbeats 4000000 in
set_option maxRecDepth 100000 in
theorem c_X6_mixTerms (l : Launch) (D : va_G) (b : Nat) (P : Nat → Int32) (h0 : Int64) (t3 : Nat) (hr3 : t3 < 3) : Met l yX6_mixTerms (wA yX6_mixTerms cX6_mixTerms 6 (some .long)) (rmL 1) (gPc D [.long h0, .ref (b + 30 + t3)] (fun H => Graph D b P H)) (gQl (inG b) (fR_X6_mixTerms P h0 t3) (fun H => Graph D b P H)) 0 0 (inG b) := by
  refine Met.ofW (cc := cX6_mixTerms) (maxL := 6) (ret := (some .long)) (by decide) rfl ?_
  intro p e s m args below meth c s₁ B hml hv
  obtain ⟨hav, hG, hK⟩ := hv
  have hx := B.exec
  have hb := B.bytes
  have hr := B.returns
  have hts0 := atoms_spec (ws := wA yX6_mixTerms cX6_mixTerms 6 (some .long)) B.pre
  have hts : ∀ w ∈ AW, w.before _ s = true := fun w h => hts0 w (List.mem_cons_of_mem _ h)
  have hown : s.vm.findClass RX6 = some m.cls := findClass_of_methodNamed B.named
  have hlocks := B.notSynchronized
  have hA : ∀ q, (inG b) q → (inG b) q := fun _ h => h
  have hS : va_S (inG b) s.heap s.heap [] := va_S.rf
  have hG : Graph D b P s.heap := hG
  have hl := lv_entry ([.long h0, .ref (b + 30 + t3)]) (n := 6) (Nat.le_of_ble_eq_true rfl)
  refine W.eq (g2 := entryFrame m ([.long h0, .ref (b + 30 + t3)] : List Value).toArray 6) (by rw [hav]) ?_
  rw [lg_entry_eq]
  generalize (lg_sl ([.long h0, .ref (b + 30 + t3)]) ++ List.replicate (6 - (lg_sl ([.long h0, .ref (b + 30 + t3)])).length) Slot.unset).toArray = ls at hl ⊢
  have hl : lv_has ls 6 [(0, .long h0), (2, .ref (b + 30 + t3))] := hl
  have L5 : ∀ (k : Nat) (hh : Int64) (j : Nat) (H : Heap) (locs : List Loc) (ls : Array Slot) (hik : j + k = 4) (hfR : fR_X6_mixTerms P h0 t3 = fR_X6_mixTerms_L5 P h0 t3 k hh j) (hG : Graph D b P H) (hS : va_S (inG b) s.heap H locs) (hl : lv_has ls 6 [(0, .long h0), (2, .ref (b + 30 + t3)), (3, .long hh), (5, .int (nI j))]), W p l e (headSpec (wA yX6_mixTerms cX6_mixTerms 6 (some .long)) (rmL 1)).room s m args below meth c H locs 0 0 (MQ below (gQl (inG b) (fR_X6_mixTerms P h0 t3) (fun H => Graph D b P H)) args s 0 0 (inG b)) (F0 m 5 ls []) := by
    intro k
    induction k with
    | zero =>
      intro hh j H locs ls hik hfR hG hS hl
      refine lv_iload hx hb dX6_mixTerms_5 (lv_at hl 3 rfl) ?_
      refine lv_iconst (v := 3) hx hb dX6_mixTerms_7 (by decide) ?_
      refine lv_icmp_gt (tgt := 29) hx hb dX6_mixTerms_8 (by decide) (fun c8 => ?_) (fun c8 => ?_)
      · have c8 : 3 < j := (nI_ltI (a := 3) (b := j) (by omega) (by omega)).mp c8
        refine lv_lload_n hx hb dX6_mixTerms_29 rfl (lv_at hl 2 rfl) ?_
        have hG9 := hG
        exact W.lret hx hb hr (fun t ht hW => gQl_of (by rw [hfR, fR_X6_mixTerms_L5]; (try dsimp only); (try rfl)) hG9 hS ht) hS.2.2 dX6_mixTerms_30
      · have c8 : ¬ 3 < j := fun h => c8 ((nI_ltI (a := 3) (b := j) (by omega) (by omega)).mpr h)
        exfalso; omega
    | succ k ih =>
      intro hh j H locs ls hik hfR hG hS hl
      refine lv_iload hx hb dX6_mixTerms_5 (lv_at hl 3 rfl) ?_
      refine lv_iconst (v := 3) hx hb dX6_mixTerms_7 (by decide) ?_
      refine lv_icmp_gt (tgt := 29) hx hb dX6_mixTerms_8 (by decide) (fun c8 => ?_) (fun c8 => ?_)
      · have c8 : 3 < j := (nI_ltI (a := 3) (b := j) (by omega) (by omega)).mp c8
        exfalso; omega
      · have c8 : ¬ 3 < j := fun h => c8 ((nI_ltI (a := 3) (b := j) (by omega) (by omega)).mpr h)
        refine lv_lload_n hx hb dX6_mixTerms_11 rfl (lv_at hl 2 rfl) ?_
        refine lv_aload_n hx hb dX6_mixTerms_12 rfl (lv_at hl 1 rfl) ?_
        refine lv_iload hx hb dX6_mixTerms_13 (lv_at hl 3 rfl) ?_
        refine gcVi (As := [.int (nI j)]) (rest := [.long hh]) hx hb hml hown hts hl.1 hK (c_X4_number l D b P t3 j (by first | assumption | omega) (by first | assumption | omega)) (gaV qM_X6_152 qI_X4_number qS_X4_number qK_X4 qC_X4_number) hdv_X4_number ⟨Nat.le_of_ble_eq_true rfl, Nat.le_of_ble_eq_true rfl⟩ hG (hG.recvT hK (by omega)) rfl (Nat.le_of_ble_eq_true rfl) ⟨Nat.zero_le _, Nat.zero_le _⟩ dX6_mixTerms_15 hS hA (fun H locs hG _ _ hS => ?_)
        have hG : Graph D b P H := hG
        refine lv_i2l (v := (fR_X4_number P t3 j).toInt64) hx hb dX6_mixTerms_18 rfl ?_
        refine gcSl (As := [.long hh, .long ((fR_X4_number P t3 j).toInt64)]) (rest := []) hx hb hml hown hts hl.1 hK (c_X6_mix l D (fun H => Graph D b P H) hh ((fR_X4_number P t3 j).toInt64)) (gaS qM_X6_206 qT_X6_mix qK_X6 qC_X6_mix) hds_X6_mix ⟨Nat.le_of_ble_eq_true rfl, Nat.le_of_ble_eq_true rfl⟩ hG rfl (Nat.le_of_ble_eq_true rfl) ⟨Nat.zero_le _, Nat.zero_le _⟩ dX6_mixTerms_19 hS (fun _ (h : noA _) => False.elim h) (fun H locs hG _ _ hS => ?_)
        have hG : Graph D b P H := hG
        refine lv_topl (fun y1 ey1 => ?_)
        refine lv_lstore_n (lv' := [(3, .long y1), (0, .long h0), (2, .ref (b + 30 + t3)), (5, .int (nI j))]) hx hb dX6_mixTerms_22 rfl hl (by decide) rfl (fun ls hl => ?_)
        refine lv_iinc (v := nI (j + 1)) (lv' := [(5, .int (nI (j + 1))), (3, .long y1), (0, .long h0), (2, .ref (b + 30 + t3))]) hx hb dX6_mixTerms_23 hl (k := 3) rfl (nI_add j 1) (by decide) rfl (fun ls hl => ?_)
        refine lv_goto (tgt := 5) hx hb dX6_mixTerms_26 (by decide) ?_
        subst ey1
        exact ih _ (j + 1) _ _ _ (by first | assumption | omega) (by rw [hfR, fR_X6_mixTerms_L5]; (try dsimp only); (try rfl)) hG hS (lv_sub hl [2, 3, 1, 0] rfl)
  refine lv_lload_n hx hb dX6_mixTerms_0 rfl (lv_at hl 0 rfl) ?_
  refine lv_lstore_n (lv' := [(3, .long h0), (0, .long h0), (2, .ref (b + 30 + t3))]) hx hb dX6_mixTerms_1 rfl hl (by decide) rfl (fun ls hl => ?_)
  refine lv_iconst (v := 0) hx hb dX6_mixTerms_2 (by decide) ?_
  refine lv_istore (lv' := [(5, .int 0), (3, .long h0), (0, .long h0), (2, .ref (b + 30 + t3))]) hx hb dX6_mixTerms_3 hl (by decide) rfl (fun ls hl => ?_)
  exact L5 4 _ 0 _ _ _ (by first | assumption | omega) (by unfold fR_X6_mixTerms; (try dsimp only); (try rfl)) hG hS (lv_sub hl [2, 3, 1, 0] rfl)
theorem hdv_X6_mixStreet : yX6_mixStreet.cls = RX6 ∧ yX6_mixStreet.cls ≠ "java/lang/invoke/MethodHandle" ∧ yX6_mixStreet.cls ≠ "java/lang/invoke/VarHandle" ∧ (parseMethodDescriptor yX6_mixStreet.desc).map (fun d => d.parameters.length) = some 2 := by decide +kernel
def fR_X6_mixStreet_L6 (C : Nat → Int32) (h0 : Int64) (i : Nat) : Nat → Int64 → Nat → Int64
  | 0, hh, j =>
    hh
  | k + 1, hh, j =>
    let y1 := fR_X6_mix hh ((fR_X0_numberOfStreet C i j).toInt64)
    fR_X6_mixStreet_L6 C h0 i k y1 (j + 1)
def fR_X6_mixStreet (C : Nat → Int32) (h0 : Int64) (i : Nat) : Int64 :=
  fR_X6_mixStreet_L6 C h0 i 9 h0 0
set_option maxHeartbeats 4000000 in
set_option maxRecDepth 100000 in
theorem c_X6_mixStreet (l : Launch) (D : va_G) (r : Nat) (C J : Nat → Int32) (G : Nat → Nat → Int32) (n : Nat) (Y X U Z F : Nat → Int32) (h0 : Int64) (i : Nat) (hi : i < 20) (hp : okR C i) : Met l yX6_mixStreet (wA yX6_mixStreet cX6_mixStreet 7 (some .long)) (rmL 2) (gPc D [.ref r, .long h0, .ref (r + 1 + 4 + i)] (fun H => Sn D r C J G n Y X U Z F H)) (gQl (inS r) (fR_X6_mixStreet C h0 i) (fun H => Sn D r C J G n Y X U Z F H)) 0 0 (inS r) := by
  refine Met.ofW (cc := cX6_mixStreet) (maxL := 7) (ret := (some .long)) (by decide) rfl ?_
  intro p e s m args below meth c s₁ B hml hv
  obtain ⟨hav, hG, hK⟩ := hv
  have hx := B.exec
  have hb := B.bytes
  have hr := B.returns
  have hts0 := atoms_spec (ws := wA yX6_mixStreet cX6_mixStreet 7 (some .long)) B.pre
  have hts : ∀ w ∈ AW, w.before _ s = true := fun w h => hts0 w (List.mem_cons_of_mem _ h)
  have hown : s.vm.findClass RX6 = some m.cls := findClass_of_methodNamed B.named
  have hlocks := B.notSynchronized
  have hA : ∀ q, (inS r) q → (inS r) q := fun _ h => h
  have hS : va_S (inS r) s.heap s.heap [] := va_S.rf
  have hG : Sn D r C J G n Y X U Z F s.heap := hG
  have hl := lv_entry ([.ref r, .long h0, .ref (r + 1 + 4 + i)]) (n := 7) (Nat.le_of_ble_eq_true rfl)
  refine W.eq (g2 := entryFrame m ([.ref r, .long h0, .ref (r + 1 + 4 + i)] : List Value).toArray 7) (by rw [hav]) ?_
  rw [lg_entry_eq]
  generalize (lg_sl ([.ref r, .long h0, .ref (r + 1 + 4 + i)]) ++ List.replicate (7 - (lg_sl ([.ref r, .long h0, .ref (r + 1 + 4 + i)])).length) Slot.unset).toArray = ls at hl ⊢
  have hl : lv_has ls 7 [(0, .ref r), (1, .long h0), (3, .ref (r + 1 + 4 + i))] := hl
  have L6 : ∀ (k : Nat) (hh : Int64) (j : Nat) (H : Heap) (locs : List Loc) (ls : Array Slot) (hik : j + k = 9) (hfR : fR_X6_mixStreet C h0 i = fR_X6_mixStreet_L6 C h0 i k hh j) (hG : Sn D r C J G n Y X U Z F H) (hS : va_S (inS r) s.heap H locs) (hl : lv_has ls 7 [(0, .ref r), (1, .long h0), (3, .ref (r + 1 + 4 + i)), (4, .long hh), (6, .int (nI j))]), W p l e (headSpec (wA yX6_mixStreet cX6_mixStreet 7 (some .long)) (rmL 2)).room s m args below meth c H locs 0 0 (MQ below (gQl (inS r) (fR_X6_mixStreet C h0 i) (fun H => Sn D r C J G n Y X U Z F H)) args s 0 0 (inS r)) (F0 m 6 ls []) := by
    intro k
    induction k with
    | zero =>
      intro hh j H locs ls hik hfR hG hS hl
      refine lv_iload hx hb dX6_mixStreet_6 (lv_at hl 4 rfl) ?_
      refine lv_bipush (v := 8) hx hb dX6_mixStreet_8 (by decide) ?_
      refine lv_icmp_gt (tgt := 37) hx hb dX6_mixStreet_10 (by decide) (fun c10 => ?_) (fun c10 => ?_)
      · have c10 : 8 < j := (nI_ltI (a := 8) (b := j) (by omega) (by omega)).mp c10
        refine lv_lload hx hb dX6_mixStreet_37 (lv_at hl 3 rfl) ?_
        have hG9 := hG
        exact W.lret hx hb hr (fun t ht hW => gQl_of (by rw [hfR, fR_X6_mixStreet_L6]; (try dsimp only); (try rfl)) hG9 hS ht) hS.2.2 dX6_mixStreet_39
      · have c10 : ¬ 8 < j := fun h => c10 ((nI_ltI (a := 8) (b := j) (by omega) (by omega)).mpr h)
        exfalso; omega
    | succ k ih =>
      intro hh j H locs ls hik hfR hG hS hl
      refine lv_iload hx hb dX6_mixStreet_6 (lv_at hl 4 rfl) ?_
      refine lv_bipush (v := 8) hx hb dX6_mixStreet_8 (by decide) ?_
      refine lv_icmp_gt (tgt := 37) hx hb dX6_mixStreet_10 (by decide) (fun c10 => ?_) (fun c10 => ?_)
      · have c10 : 8 < j := (nI_ltI (a := 8) (b := j) (by omega) (by omega)).mp c10
        exfalso; omega
      · have c10 : ¬ 8 < j := fun h => c10 ((nI_ltI (a := 8) (b := j) (by omega) (by omega)).mpr h)
        refine lv_lload hx hb dX6_mixStreet_13 (lv_at hl 3 rfl) ?_
        refine lv_aload_n hx hb dX6_mixStreet_15 rfl (lv_at hl 0 rfl) ?_
        refine getQc hx hb hts hown hK hG qF_X6_10 dX6_mixStreet_16 ?_
        refine lv_aload_n hx hb dX6_mixStreet_19 rfl (lv_at hl 2 rfl) ?_
        refine lv_iload hx hb dX6_mixStreet_20 (lv_at hl 4 rfl) ?_
        refine gcVi (As := [.ref (r + 1 + 4 + i), .int (nI j)]) (rest := [.long hh]) hx hb hml hown hts hl.1 hK (c_X0_numberOfStreet l D (r + 1) C i j hi (by first | assumption | omega) hp) (gaV qM_X6_147 qI_X0_numberOfStreet qS_X0_numberOfStreet qK_X0 qC_X0_numberOfStreet) hdv_X0_numberOfStreet ⟨Nat.le_of_ble_eq_true rfl, Nat.le_of_ble_eq_true rfl⟩ hG.gc (hG.gc.recvC hK) rfl (Nat.le_of_ble_eq_true rfl) ⟨Nat.le_of_ble_eq_true rfl, Nat.le_of_ble_eq_true rfl⟩ dX6_mixStreet_22 hS (fun q h => by unfold inG at h; unfold inS; omega) (fun H locs hG1 hz hq hS => ?_)
        have hG : Sn D r C J G n Y X U Z F H := Sn.setC hG hG1 hq
        refine lv_i2l (v := (fR_X0_numberOfStreet C i j).toInt64) hx hb dX6_mixStreet_25 rfl ?_
        refine gcSl (As := [.long hh, .long ((fR_X0_numberOfStreet C i j).toInt64)]) (rest := []) hx hb hml hown hts hl.1 hK (c_X6_mix l D (fun H => Sn D r C J G n Y X U Z F H) hh ((fR_X0_numberOfStreet C i j).toInt64)) (gaS qM_X6_206 qT_X6_mix qK_X6 qC_X6_mix) hds_X6_mix ⟨Nat.le_of_ble_eq_true rfl, Nat.le_of_ble_eq_true rfl⟩ hG rfl (Nat.le_of_ble_eq_true rfl) ⟨Nat.zero_le _, Nat.zero_le _⟩ dX6_mixStreet_26 hS (fun _ (h : noA _) => False.elim h) (fun H locs hG _ _ hS => ?_)
        have hG : Sn D r C J G n Y X U Z F H := hG
        refine lv_topl (fun y1 ey1 => ?_)
        refine lv_lstore (lv' := [(4, .long y1), (0, .ref r), (1, .long h0), (3, .ref (r + 1 + 4 + i)), (6, .int (nI j))]) hx hb dX6_mixStreet_29 hl (by decide) rfl (fun ls hl => ?_)
        refine lv_iinc (v := nI (j + 1)) (lv' := [(6, .int (nI (j + 1))), (4, .long y1), (0, .ref r), (1, .long h0), (3, .ref (r + 1 + 4 + i))]) hx hb dX6_mixStreet_31 hl (k := 4) rfl (nI_add j 1) (by decide) rfl (fun ls hl => ?_)
        refine lv_goto (tgt := 6) hx hb dX6_mixStreet_34 (by decide) ?_
        subst ey1
        exact ih _ (j + 1) _ _ _ (by first | assumption | omega) (by rw [hfR, fR_X6_mixStreet_L6]; (try dsimp only); (try rfl)) hG hS (lv_sub hl [2, 3, 4, 1, 0] rfl)
  refine lv_lload_n hx hb dX6_mixStreet_0 rfl (lv_at hl 1 rfl) ?_
  refine lv_lstore (lv' := [(4, .long h0), (0, .ref r), (1, .long h0), (3, .ref (r + 1 + 4 + i))]) hx hb dX6_mixStreet_1 hl (by decide) rfl (fun ls hl => ?_)
  refine lv_iconst (v := 0) hx hb dX6_mixStreet_3 (by decide) ?_
  refine lv_istore (lv' := [(6, .int 0), (4, .long h0), (0, .ref r), (1, .long h0), (3, .ref (r + 1 + 4 + i))]) hx hb dX6_mixStreet_4 hl (by decide) rfl (fun ls hl => ?_)
  exact L6 9 _ 0 _ _ _ (by first | assumption | omega) (by unfold fR_X6_mixStreet; (try dsimp only); (try rfl)) hG hS (lv_sub hl [2, 3, 4, 1, 0] rfl)
theorem hdv_X6_digest : yX6_digest.cls = RX6 ∧ yX6_digest.cls ≠ "java/lang/invoke/MethodHandle" ∧ yX6_digest.cls ≠ "java/lang/invoke/VarHandle" ∧ (parseMethodDescriptor yX6_digest.desc).map (fun d => d.parameters.length) = some 0 := by decide +kernel
def fR_X6_digest_L112 (C : Nat → Int32) (n : Nat) (F : Nat → Int32) : Nat → Int64 → Nat → Int64
  | 0, hh, j =>
    fR_X6_mix hh ((nI n).toInt64)
  | k + 1, hh, j =>
    let y2 := fR_X6_mixTerms C hh j
    fR_X6_digest_L112 C n F k y2 (j + 1)
def fR_X6_digest_L79 (C : Nat → Int32) (n : Nat) (F : Nat → Int32) : Nat → Int64 → Nat → Int64
  | 0, hh, j =>
    fR_X6_digest_L112 C n F 3 hh 0
  | k + 1, hh, j =>
    let y3 := fR_X6_mixPlow C hh j
    fR_X6_digest_L79 C n F k y3 (j + 1)
def fR_X6_digest_L45 (C : Nat → Int32) (n : Nat) (F : Nat → Int32) : Nat → Int64 → Nat → Int64
  | 0, hh, j =>
    fR_X6_digest_L79 C n F (np C) hh 0
  | k + 1, hh, j =>
    let y4 := fR_X6_mixStreet C hh j
    fR_X6_digest_L45 C n F k y4 (j + 1)
def fR_X6_digest_L17 (C : Nat → Int32) (n : Nat) (F : Nat → Int32) : Nat → Int64 → Nat → Int64
  | 0, hh, j =>
    fR_X6_digest_L45 C n F (ns C) hh 0
  | k + 1, hh, j =>
    let y5 := fR_X6_mix hh ((fR_X0_number C j).toInt64)
    fR_X6_digest_L17 C n F k y5 (j + 1)
def fR_X6_digest (C : Nat → Int32) (n : Nat) (F : Nat → Int32) : Int64 :=
  let y1 := fR_X6_mix 3307 ((F 1).toInt64)
  fR_X6_digest_L17 C n F 10 y1 0
set_option maxHeartbeats 4000000 in
set_option maxRecDepth 100000 in
theorem c_X6_digest (l : Launch) (D : va_G) (r : Nat) (C J : Nat → Int32) (G : Nat → Nat → Int32) (n : Nat) (Y X U Z F : Nat → Int32) (hw : WF C) (hQ : ∀ q, q < np C → okQ C q) : Met l yX6_digest (wA yX6_digest cX6_digest 4 (some .long)) (rmL 3) (gPc D [.ref r] (fun H => Sn D r C J G n Y X U Z F H)) (gQl (inS r) (fR_X6_digest C n F) (fun H => Sn D r C J G n Y X U Z F H)) 0 0 (inS r) := by
  refine Met.ofW (cc := cX6_digest) (maxL := 4) (ret := (some .long)) (by decide) rfl ?_
  intro p e s m args below meth c s₁ B hml hv
  obtain ⟨hav, hG, hK⟩ := hv
  have hx := B.exec
  have hb := B.bytes
  have hr := B.returns
  have hts0 := atoms_spec (ws := wA yX6_digest cX6_digest 4 (some .long)) B.pre
  have hts : ∀ w ∈ AW, w.before _ s = true := fun w h => hts0 w (List.mem_cons_of_mem _ h)
  have hown : s.vm.findClass RX6 = some m.cls := findClass_of_methodNamed B.named
  have hlocks := B.notSynchronized
  have hA : ∀ q, (inS r) q → (inS r) q := fun _ h => h
  have hS : va_S (inS r) s.heap s.heap [] := va_S.rf
  have hG : Sn D r C J G n Y X U Z F s.heap := hG
  have hl := lv_entry ([.ref r]) (n := 4) (Nat.le_of_ble_eq_true rfl)
  refine W.eq (g2 := entryFrame m ([.ref r] : List Value).toArray 4) (by rw [hav]) ?_
  rw [lg_entry_eq]
  generalize (lg_sl ([.ref r]) ++ List.replicate (4 - (lg_sl ([.ref r])).length) Slot.unset).toArray = ls at hl ⊢
  have hl : lv_has ls 4 [(0, .ref r)] := hl
  have hN := hw.1
  have hn20 := hw.1.2.1
  have hn3 := hw.1.2.2.2
  have L112 : ∀ (k : Nat) (hh : Int64) (j : Nat) (H : Heap) (locs : List Loc) (ls : Array Slot) (hik : j + k = 3) (hfR : fR_X6_digest C n F = fR_X6_digest_L112 C n F k hh j) (hG : Sn D r C J G n Y X U Z F H) (hS : va_S (inS r) s.heap H locs) (hl : lv_has ls 4 [(0, .ref r), (1, .long hh), (3, .int (nI j))]), W p l e (headSpec (wA yX6_digest cX6_digest 4 (some .long)) (rmL 3)).room s m args below meth c H locs 0 0 (MQ below (gQl (inS r) (fR_X6_digest C n F) (fun H => Sn D r C J G n Y X U Z F H)) args s 0 0 (inS r)) (F0 m 112 ls []) := by
    intro k
    induction k with
    | zero =>
      intro hh j H locs ls hik hfR hG hS hl
      refine lv_iload_n hx hb dX6_digest_112 rfl (lv_at hl 2 rfl) ?_
      refine lv_iconst (v := 3) hx hb dX6_digest_113 (by decide) ?_
      refine lv_icmp_ge (tgt := 137) hx hb dX6_digest_114 (by decide) (fun c114 => ?_) (fun c114 => ?_)
      · have c114 : 3 ≤ j := (nI_leI (a := 3) (b := j) (by omega) (by omega)).mp c114
        refine lv_lload_n hx hb dX6_digest_137 rfl (lv_at hl 1 rfl) ?_
        refine lv_aload_n hx hb dX6_digest_138 rfl (lv_at hl 0 rfl) ?_
        refine getQv hx hb hts hown hK hG qF_X6_22 dX6_digest_139 ?_
        refine getVn hx hb hts hown hK hG qF_X6_196 dX6_digest_142 ?_
        refine lv_i2l (v := (nI n).toInt64) hx hb dX6_digest_145 rfl ?_
        refine gcSl (As := [.long hh, .long ((nI n).toInt64)]) (rest := []) hx hb hml hown hts hl.1 hK (c_X6_mix l D (fun H => Sn D r C J G n Y X U Z F H) hh ((nI n).toInt64)) (gaS qM_X6_206 qT_X6_mix qK_X6 qC_X6_mix) hds_X6_mix ⟨Nat.le_of_ble_eq_true rfl, Nat.le_of_ble_eq_true rfl⟩ hG rfl (Nat.le_of_ble_eq_true rfl) ⟨Nat.zero_le _, Nat.zero_le _⟩ dX6_digest_146 hS (fun _ (h : noA _) => False.elim h) (fun H locs hG _ _ hS => ?_)
        have hG : Sn D r C J G n Y X U Z F H := hG
        have hG9 := hG
        exact W.lret hx hb hr (fun t ht hW => gQl_of (by rw [hfR, fR_X6_digest_L112]; (try dsimp only); (try rfl)) hG9 hS ht) hS.2.2 dX6_digest_149
      · have c114 : ¬ 3 ≤ j := fun h => c114 ((nI_leI (a := 3) (b := j) (by omega) (by omega)).mpr h)
        exfalso; omega
    | succ k ih =>
      intro hh j H locs ls hik hfR hG hS hl
      refine lv_iload_n hx hb dX6_digest_112 rfl (lv_at hl 2 rfl) ?_
      refine lv_iconst (v := 3) hx hb dX6_digest_113 (by decide) ?_
      refine lv_icmp_ge (tgt := 137) hx hb dX6_digest_114 (by decide) (fun c114 => ?_) (fun c114 => ?_)
      · have c114 : 3 ≤ j := (nI_leI (a := 3) (b := j) (by omega) (by omega)).mp c114
        exfalso; omega
      · have c114 : ¬ 3 ≤ j := fun h => c114 ((nI_leI (a := 3) (b := j) (by omega) (by omega)).mpr h)
        refine lv_lload_n hx hb dX6_digest_117 rfl (lv_at hl 1 rfl) ?_
        refine lv_aload_n hx hb dX6_digest_118 rfl (lv_at hl 0 rfl) ?_
        refine getQc hx hb hts hown hK hG qF_X6_10 dX6_digest_119 ?_
        refine getCt hx hb hts hown hK hG.gc qF_X6_106 dX6_digest_122 ?_
        refine lv_iload_n hx hb dX6_digest_125 rfl (lv_at hl 2 rfl) ?_
        refine aldT (i := j) hx hb hK hG.gc (by omega) dX6_digest_126 ?_
        refine gcSl (As := [.long hh, .ref (r + 1 + 30 + j)]) (rest := []) hx hb hml hown hts hl.1 hK (c_X6_mixTerms l D (r + 1) C hh j (by first | assumption | omega)) (gaS qM_X6_218 qT_X6_mixTerms qK_X6 qC_X6_mixTerms) hds_X6_mixTerms ⟨Nat.le_of_ble_eq_true rfl, Nat.le_of_ble_eq_true rfl⟩ hG.gc rfl (Nat.le_of_ble_eq_true rfl) ⟨Nat.le_of_ble_eq_true rfl, Nat.le_of_ble_eq_true rfl⟩ dX6_digest_127 hS (fun q h => by unfold inG at h; unfold inS; omega) (fun H locs hG1 hz hq hS => ?_)
        have hG : Sn D r C J G n Y X U Z F H := Sn.setC hG hG1 hq
        refine lv_topl (fun y2 ey2 => ?_)
        refine lv_lstore_n (lv' := [(1, .long y2), (0, .ref r), (3, .int (nI j))]) hx hb dX6_digest_130 rfl hl (by decide) rfl (fun ls hl => ?_)
        refine lv_iinc (v := nI (j + 1)) (lv' := [(3, .int (nI (j + 1))), (1, .long y2), (0, .ref r)]) hx hb dX6_digest_131 hl (k := 2) rfl (nI_add j 1) (by decide) rfl (fun ls hl => ?_)
        refine lv_goto (tgt := 112) hx hb dX6_digest_134 (by decide) ?_
        subst ey2
        exact ih _ (j + 1) _ _ _ (by first | assumption | omega) (by rw [hfR, fR_X6_digest_L112]; (try dsimp only); (try rfl)) hG hS (lv_sub hl [2, 1, 0] rfl)
  have L79 : ∀ (k : Nat) (hh : Int64) (j : Nat) (H : Heap) (locs : List Loc) (ls : Array Slot) (hik : j + k = np C) (hfR : fR_X6_digest C n F = fR_X6_digest_L79 C n F k hh j) (hG : Sn D r C J G n Y X U Z F H) (hS : va_S (inS r) s.heap H locs) (hl : lv_has ls 4 [(0, .ref r), (1, .long hh), (3, .int (nI j))]), W p l e (headSpec (wA yX6_digest cX6_digest 4 (some .long)) (rmL 3)).room s m args below meth c H locs 0 0 (MQ below (gQl (inS r) (fR_X6_digest C n F) (fun H => Sn D r C J G n Y X U Z F H)) args s 0 0 (inS r)) (F0 m 79 ls []) := by
    intro k
    induction k with
    | zero =>
      intro hh j H locs ls hik hfR hG hS hl
      refine lv_iload_n hx hb dX6_digest_79 rfl (lv_at hl 2 rfl) ?_
      refine lv_aload_n hx hb dX6_digest_80 rfl (lv_at hl 0 rfl) ?_
      refine getQc hx hb hts hown hK hG qF_X6_10 dX6_digest_81 ?_
      refine getC 3 2 rfl hx hb hts hown hK hG.gc (by decide) (by decide) (by decide) (by decide) qF_X6_62 rfl dX6_digest_84 ?_
      refine topN (n := (np C)) hN.2.2.1 ?_
      refine lv_icmp_ge (tgt := 110) hx hb dX6_digest_87 (by decide) (fun c87 => ?_) (fun c87 => ?_)
      · have c87 : (np C) ≤ j := (nI_leI (a := (np C)) (b := j) (by omega) (by omega)).mp c87
        refine lv_iconst (v := 0) hx hb dX6_digest_110 (by decide) ?_
        refine lv_istore_n (lv' := [(3, .int 0), (0, .ref r), (1, .long hh)]) hx hb dX6_digest_111 rfl hl (by decide) rfl (fun ls hl => ?_)
        exact L112 3 _ 0 _ _ _ (by first | assumption | omega) (by rw [hfR, fR_X6_digest_L79]; (try dsimp only); (try rfl)) hG hS (lv_sub hl [1, 2, 0] rfl)
      · have c87 : ¬ (np C) ≤ j := fun h => c87 ((nI_leI (a := (np C)) (b := j) (by omega) (by omega)).mpr h)
        exfalso; omega
    | succ k ih =>
      intro hh j H locs ls hik hfR hG hS hl
      refine lv_iload_n hx hb dX6_digest_79 rfl (lv_at hl 2 rfl) ?_
      refine lv_aload_n hx hb dX6_digest_80 rfl (lv_at hl 0 rfl) ?_
      refine getQc hx hb hts hown hK hG qF_X6_10 dX6_digest_81 ?_
      refine getC 3 2 rfl hx hb hts hown hK hG.gc (by decide) (by decide) (by decide) (by decide) qF_X6_62 rfl dX6_digest_84 ?_
      refine topN (n := (np C)) hN.2.2.1 ?_
      refine lv_icmp_ge (tgt := 110) hx hb dX6_digest_87 (by decide) (fun c87 => ?_) (fun c87 => ?_)
      · have c87 : (np C) ≤ j := (nI_leI (a := (np C)) (b := j) (by omega) (by omega)).mp c87
        exfalso; omega
      · have c87 : ¬ (np C) ≤ j := fun h => c87 ((nI_leI (a := (np C)) (b := j) (by omega) (by omega)).mpr h)
        refine lv_lload_n hx hb dX6_digest_90 rfl (lv_at hl 1 rfl) ?_
        refine lv_aload_n hx hb dX6_digest_91 rfl (lv_at hl 0 rfl) ?_
        refine getQc hx hb hts hown hK hG qF_X6_10 dX6_digest_92 ?_
        refine getCp hx hb hts hown hK hG.gc qF_X6_67 dX6_digest_95 ?_
        refine lv_iload_n hx hb dX6_digest_98 rfl (lv_at hl 2 rfl) ?_
        refine aldP (i := j) hx hb hK hG.gc (by omega) dX6_digest_99 ?_
        refine gcSl (As := [.long hh, .ref (r + 1 + 24 + 2 * j)]) (rest := []) hx hb hml hown hts hl.1 hK (c_X6_mixPlow l D (r + 1) C hh j (by omega) (hQ _ (by omega))) (gaS qM_X6_214 qT_X6_mixPlow qK_X6 qC_X6_mixPlow) hds_X6_mixPlow ⟨Nat.le_of_ble_eq_true rfl, Nat.le_of_ble_eq_true rfl⟩ hG.gc rfl (Nat.le_of_ble_eq_true rfl) ⟨Nat.le_of_ble_eq_true rfl, Nat.le_of_ble_eq_true rfl⟩ dX6_digest_100 hS (fun q h => by unfold inG at h; unfold inS; omega) (fun H locs hG1 hz hq hS => ?_)
        have hG : Sn D r C J G n Y X U Z F H := Sn.setC hG hG1 hq
        refine lv_topl (fun y3 ey3 => ?_)
        refine lv_lstore_n (lv' := [(1, .long y3), (0, .ref r), (3, .int (nI j))]) hx hb dX6_digest_103 rfl hl (by decide) rfl (fun ls hl => ?_)
        refine lv_iinc (v := nI (j + 1)) (lv' := [(3, .int (nI (j + 1))), (1, .long y3), (0, .ref r)]) hx hb dX6_digest_104 hl (k := 2) rfl (nI_add j 1) (by decide) rfl (fun ls hl => ?_)
        refine lv_goto (tgt := 79) hx hb dX6_digest_107 (by decide) ?_
        subst ey3
        exact ih _ (j + 1) _ _ _ (by first | assumption | omega) (by rw [hfR, fR_X6_digest_L79]; (try dsimp only); (try rfl)) hG hS (lv_sub hl [2, 1, 0] rfl)
  have L45 : ∀ (k : Nat) (hh : Int64) (j : Nat) (H : Heap) (locs : List Loc) (ls : Array Slot) (hik : j + k = ns C) (hfR : fR_X6_digest C n F = fR_X6_digest_L45 C n F k hh j) (hG : Sn D r C J G n Y X U Z F H) (hS : va_S (inS r) s.heap H locs) (hl : lv_has ls 4 [(0, .ref r), (1, .long hh), (3, .int (nI j))]), W p l e (headSpec (wA yX6_digest cX6_digest 4 (some .long)) (rmL 3)).room s m args below meth c H locs 0 0 (MQ below (gQl (inS r) (fR_X6_digest C n F) (fun H => Sn D r C J G n Y X U Z F H)) args s 0 0 (inS r)) (F0 m 45 ls []) := by
    intro k
    induction k with
    | zero =>
      intro hh j H locs ls hik hfR hG hS hl
      refine lv_iload_n hx hb dX6_digest_45 rfl (lv_at hl 2 rfl) ?_
      refine lv_aload_n hx hb dX6_digest_46 rfl (lv_at hl 0 rfl) ?_
      refine getQc hx hb hts hown hK hG qF_X6_10 dX6_digest_47 ?_
      refine getC 1 1 rfl hx hb hts hown hK hG.gc (by decide) (by decide) (by decide) (by decide) qF_X6_37 rfl dX6_digest_50 ?_
      refine topN (n := (ns C)) hN.1 ?_
      refine lv_icmp_ge (tgt := 77) hx hb dX6_digest_53 (by decide) (fun c53 => ?_) (fun c53 => ?_)
      · have c53 : (ns C) ≤ j := (nI_leI (a := (ns C)) (b := j) (by omega) (by omega)).mp c53
        refine lv_iconst (v := 0) hx hb dX6_digest_77 (by decide) ?_
        refine lv_istore_n (lv' := [(3, .int 0), (0, .ref r), (1, .long hh)]) hx hb dX6_digest_78 rfl hl (by decide) rfl (fun ls hl => ?_)
        exact L79 (np C) _ 0 _ _ _ (by first | assumption | omega) (by rw [hfR, fR_X6_digest_L45]; (try dsimp only); (try rfl)) hG hS (lv_sub hl [1, 2, 0] rfl)
      · have c53 : ¬ (ns C) ≤ j := fun h => c53 ((nI_leI (a := (ns C)) (b := j) (by omega) (by omega)).mpr h)
        exfalso; omega
    | succ k ih =>
      intro hh j H locs ls hik hfR hG hS hl
      refine lv_iload_n hx hb dX6_digest_45 rfl (lv_at hl 2 rfl) ?_
      refine lv_aload_n hx hb dX6_digest_46 rfl (lv_at hl 0 rfl) ?_
      refine getQc hx hb hts hown hK hG qF_X6_10 dX6_digest_47 ?_
      refine getC 1 1 rfl hx hb hts hown hK hG.gc (by decide) (by decide) (by decide) (by decide) qF_X6_37 rfl dX6_digest_50 ?_
      refine topN (n := (ns C)) hN.1 ?_
      refine lv_icmp_ge (tgt := 77) hx hb dX6_digest_53 (by decide) (fun c53 => ?_) (fun c53 => ?_)
      · have c53 : (ns C) ≤ j := (nI_leI (a := (ns C)) (b := j) (by omega) (by omega)).mp c53
        exfalso; omega
      · have c53 : ¬ (ns C) ≤ j := fun h => c53 ((nI_leI (a := (ns C)) (b := j) (by omega) (by omega)).mpr h)
        refine lv_aload_n hx hb dX6_digest_56 rfl (lv_at hl 0 rfl) ?_
        refine lv_lload_n hx hb dX6_digest_57 rfl (lv_at hl 1 rfl) ?_
        refine lv_aload_n hx hb dX6_digest_58 rfl (lv_at hl 0 rfl) ?_
        refine getQc hx hb hts hown hK hG qF_X6_10 dX6_digest_59 ?_
        refine getCs hx hb hts hown hK hG.gc qF_X6_52 dX6_digest_62 ?_
        refine lv_iload_n hx hb dX6_digest_65 rfl (lv_at hl 2 rfl) ?_
        refine aldS (i := j) hx hb hK hG.gc (by omega) dX6_digest_66 ?_
        refine gcVl (As := [.long hh, .ref (r + 1 + 4 + j)]) (rest := []) hx hb hml hown hts hl.1 hK (c_X6_mixStreet l D r C J G n Y X U Z F hh j (by first | assumption | omega) (hw.2.1 _ (by omega))) (gaV qM_X6_210 qI_X6_mixStreet qS_X6_mixStreet qK_X6 qC_X6_mixStreet) hdv_X6_mixStreet ⟨Nat.le_of_ble_eq_true rfl, Nat.le_of_ble_eq_true rfl⟩ hG (Sn.recv hK hG) rfl (Nat.le_of_ble_eq_true rfl) ⟨Nat.le_of_ble_eq_true rfl, Nat.le_of_ble_eq_true rfl⟩ dX6_digest_67 hS hA (fun H locs hG hz hq hS => ?_)
        have hG : Sn D r C J G n Y X U Z F H := hG
        refine lv_topl (fun y4 ey4 => ?_)
        refine lv_lstore_n (lv' := [(1, .long y4), (0, .ref r), (3, .int (nI j))]) hx hb dX6_digest_70 rfl hl (by decide) rfl (fun ls hl => ?_)
        refine lv_iinc (v := nI (j + 1)) (lv' := [(3, .int (nI (j + 1))), (1, .long y4), (0, .ref r)]) hx hb dX6_digest_71 hl (k := 2) rfl (nI_add j 1) (by decide) rfl (fun ls hl => ?_)
        refine lv_goto (tgt := 45) hx hb dX6_digest_74 (by decide) ?_
        subst ey4
        exact ih _ (j + 1) _ _ _ (by first | assumption | omega) (by rw [hfR, fR_X6_digest_L45]; (try dsimp only); (try rfl)) hG hS (lv_sub hl [2, 1, 0] rfl)
  have L17 : ∀ (k : Nat) (hh : Int64) (j : Nat) (H : Heap) (locs : List Loc) (ls : Array Slot) (hik : j + k = 10) (hfR : fR_X6_digest C n F = fR_X6_digest_L17 C n F k hh j) (hG : Sn D r C J G n Y X U Z F H) (hS : va_S (inS r) s.heap H locs) (hl : lv_has ls 4 [(0, .ref r), (1, .long hh), (3, .int (nI j))]), W p l e (headSpec (wA yX6_digest cX6_digest 4 (some .long)) (rmL 3)).room s m args below meth c H locs 0 0 (MQ below (gQl (inS r) (fR_X6_digest C n F) (fun H => Sn D r C J G n Y X U Z F H)) args s 0 0 (inS r)) (F0 m 17 ls []) := by
    intro k
    induction k with
    | zero =>
      intro hh j H locs ls hik hfR hG hS hl
      refine lv_iload_n hx hb dX6_digest_17 rfl (lv_at hl 2 rfl) ?_
      refine lv_bipush (v := 9) hx hb dX6_digest_18 (by decide) ?_
      refine lv_icmp_gt (tgt := 43) hx hb dX6_digest_20 (by decide) (fun c20 => ?_) (fun c20 => ?_)
      · have c20 : 9 < j := (nI_ltI (a := 9) (b := j) (by omega) (by omega)).mp c20
        refine lv_iconst (v := 0) hx hb dX6_digest_43 (by decide) ?_
        refine lv_istore_n (lv' := [(3, .int 0), (0, .ref r), (1, .long hh)]) hx hb dX6_digest_44 rfl hl (by decide) rfl (fun ls hl => ?_)
        exact L45 (ns C) _ 0 _ _ _ (by first | assumption | omega) (by rw [hfR, fR_X6_digest_L17]; (try dsimp only); (try rfl)) hG hS (lv_sub hl [1, 2, 0] rfl)
      · have c20 : ¬ 9 < j := fun h => c20 ((nI_ltI (a := 9) (b := j) (by omega) (by omega)).mpr h)
        exfalso; omega
    | succ k ih =>
      intro hh j H locs ls hik hfR hG hS hl
      refine lv_iload_n hx hb dX6_digest_17 rfl (lv_at hl 2 rfl) ?_
      refine lv_bipush (v := 9) hx hb dX6_digest_18 (by decide) ?_
      refine lv_icmp_gt (tgt := 43) hx hb dX6_digest_20 (by decide) (fun c20 => ?_) (fun c20 => ?_)
      · have c20 : 9 < j := (nI_ltI (a := 9) (b := j) (by omega) (by omega)).mp c20
        exfalso; omega
      · have c20 : ¬ 9 < j := fun h => c20 ((nI_ltI (a := 9) (b := j) (by omega) (by omega)).mpr h)
        refine lv_lload_n hx hb dX6_digest_23 rfl (lv_at hl 1 rfl) ?_
        refine lv_aload_n hx hb dX6_digest_24 rfl (lv_at hl 0 rfl) ?_
        refine getQc hx hb hts hown hK hG qF_X6_10 dX6_digest_25 ?_
        refine lv_iload_n hx hb dX6_digest_28 rfl (lv_at hl 2 rfl) ?_
        refine gcVi (As := [.int (nI j)]) (rest := [.long hh]) hx hb hml hown hts hl.1 hK (c_X0_number l D (r + 1) C j (by first | assumption | omega) hw) (gaV qM_X6_143 qI_X0_number qS_X0_number qK_X0 qC_X0_number) hdv_X0_number ⟨Nat.le_of_ble_eq_true rfl, Nat.le_of_ble_eq_true rfl⟩ hG.gc (hG.gc.recvC hK) rfl (Nat.le_of_ble_eq_true rfl) ⟨Nat.le_of_ble_eq_true rfl, Nat.le_of_ble_eq_true rfl⟩ dX6_digest_29 hS (fun q h => by unfold inG at h; unfold inS; omega) (fun H locs hG1 hz hq hS => ?_)
        have hG : Sn D r C J G n Y X U Z F H := Sn.setC hG hG1 hq
        refine lv_i2l (v := (fR_X0_number C j).toInt64) hx hb dX6_digest_32 rfl ?_
        refine gcSl (As := [.long hh, .long ((fR_X0_number C j).toInt64)]) (rest := []) hx hb hml hown hts hl.1 hK (c_X6_mix l D (fun H => Sn D r C J G n Y X U Z F H) hh ((fR_X0_number C j).toInt64)) (gaS qM_X6_206 qT_X6_mix qK_X6 qC_X6_mix) hds_X6_mix ⟨Nat.le_of_ble_eq_true rfl, Nat.le_of_ble_eq_true rfl⟩ hG rfl (Nat.le_of_ble_eq_true rfl) ⟨Nat.zero_le _, Nat.zero_le _⟩ dX6_digest_33 hS (fun _ (h : noA _) => False.elim h) (fun H locs hG _ _ hS => ?_)
        have hG : Sn D r C J G n Y X U Z F H := hG
        refine lv_topl (fun y5 ey5 => ?_)
        refine lv_lstore_n (lv' := [(1, .long y5), (0, .ref r), (3, .int (nI j))]) hx hb dX6_digest_36 rfl hl (by decide) rfl (fun ls hl => ?_)
        refine lv_iinc (v := nI (j + 1)) (lv' := [(3, .int (nI (j + 1))), (1, .long y5), (0, .ref r)]) hx hb dX6_digest_37 hl (k := 2) rfl (nI_add j 1) (by decide) rfl (fun ls hl => ?_)
        refine lv_goto (tgt := 17) hx hb dX6_digest_40 (by decide) ?_
        subst ey5
        exact ih _ (j + 1) _ _ _ (by first | assumption | omega) (by rw [hfR, fR_X6_digest_L17]; (try dsimp only); (try rfl)) hG hS (lv_sub hl [2, 1, 0] rfl)
  refine lv_ldc2 hx hb hown (hts _ qV_X6_204) dX6_digest_0 ?_
  refine lv_aload_n hx hb dX6_digest_3 rfl (lv_at hl 0 rfl) ?_
  refine getQx hx hb hts hown hK hG qF_X6_29 dX6_digest_4 ?_
  refine getX 1 hx hb hts hown hK hG.x (by decide) qF_X6_172 rfl dX6_digest_7 ?_
  refine lv_i2l (v := (F 1).toInt64) hx hb dX6_digest_10 rfl ?_
  refine gcSl (As := [.long 3307, .long ((F 1).toInt64)]) (rest := []) hx hb hml hown hts hl.1 hK (c_X6_mix l D (fun H => Sn D r C J G n Y X U Z F H) 3307 ((F 1).toInt64)) (gaS qM_X6_206 qT_X6_mix qK_X6 qC_X6_mix) hds_X6_mix ⟨Nat.le_of_ble_eq_true rfl, Nat.le_of_ble_eq_true rfl⟩ hG rfl (Nat.le_of_ble_eq_true rfl) ⟨Nat.zero_le _, Nat.zero_le _⟩ dX6_digest_11 hS (fun _ (h : noA _) => False.elim h) (fun H locs hG _ _ hS => ?_)
  have hG : Sn D r C J G n Y X U Z F H := hG
  refine lv_topl (fun y1 ey1 => ?_)
  refine lv_lstore_n (lv' := [(1, .long y1), (0, .ref r)]) hx hb dX6_digest_14 rfl hl (by decide) rfl (fun ls hl => ?_)
  refine lv_iconst (v := 0) hx hb dX6_digest_15 (by decide) ?_
  refine lv_istore_n (lv' := [(3, .int 0), (1, .long y1), (0, .ref r)]) hx hb dX6_digest_16 rfl hl (by decide) rfl (fun ls hl => ?_)
  subst ey1
  exact L17 10 _ 0 _ _ _ (by first | assumption | omega) (by unfold fR_X6_digest; (try dsimp only); (try rfl)) hG hS (lv_sub hl [2, 1, 0] rfl)
