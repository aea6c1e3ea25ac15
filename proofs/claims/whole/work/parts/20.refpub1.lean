theorem hds_X7_bring_mv : yX7_bring.cls ≠ "java/lang/invoke/MethodHandle" ∧ yX7_bring.cls ≠ "java/lang/invoke/VarHandle" ∧ (parseMethodDescriptor yX7_bring.desc).map (fun d => d.parameters.length) = some 4 := by decide +kernel
def fV_X7_bring_mv_L3 (P : Nat → Int32) (fa : Nat) (ta : Nat) : Nat → Nat → (Nat → Int32) → Nat → Int32
  | 0, j, Vl =>
    Vl
  | k + 1, j, Vl =>
    let x1 := P (fa + j)
    let V2 := upd Vl (ta + j) x1
    fV_X7_bring_mv_L3 P fa ta k (j + 1) V2
def fV_X7_bring_mv (P : Nat → Int32) (V : Nat → Int32) (fa : Nat) (ta : Nat) : Nat → Int32 :=
  fV_X7_bring_mv_L3 P fa ta 241 0 V
set_option maxHeartbeats 4000000 in
set_option maxRecDepth 100000 in
theorem c_X7_bring_mv (l : Launch) (D : va_G) (o : Nat) (P S V T F : Nat → Int32) (h : Int64) (fa : Nat) (ta : Nat) (ha : fa + 241 ≤ 241) (hp : ta + 241 ≤ 964) : Met l yX7_bring (wA yX7_bring cX7_bring 5 none) (rmL 0) (gPc D [.ref (o + 1), .int (nI fa), .ref (o + 3), .int (nI ta)] (fun H => Md D o P S V T F h H)) (gQv (inM o) (fun H => Md D o P S (fV_X7_bring_mv P V fa ta) T F h H)) 0 0 (inM o) := by
  refine Met.ofW (cc := cX7_bring) (maxL := 5) (ret := none) (by decide) rfl ?_
  intro p e s m args below meth c s₁ B hml hv
  obtain ⟨hav, hG, hK⟩ := hv
  have hx := B.exec
  have hb := B.bytes
  have hr := B.returns
  have hts0 := atoms_spec (ws := wA yX7_bring cX7_bring 5 none) B.pre
  have hts : ∀ w ∈ AW, w.before _ s = true := fun w h => hts0 w (List.mem_cons_of_mem _ h)
  have hown : s.vm.findClass RX7 = some m.cls := findClass_of_methodNamed B.named
  have hlocks := B.notSynchronized
  have hA : ∀ q, (inM o) q → (inM o) q := fun _ h => h
  have hS : va_S (inM o) s.heap s.heap [] := va_S.rf
  have hG : Md D o P S V T F h s.heap := hG
  have hl := lv_entry ([.ref (o + 1), .int (nI fa), .ref (o + 3), .int (nI ta)]) (n := 5) (Nat.le_of_ble_eq_true rfl)
  refine W.eq (g2 := entryFrame m ([.ref (o + 1), .int (nI fa), .ref (o + 3), .int (nI ta)] : List Value).toArray 5) (by rw [hav]) ?_
  rw [lg_entry_eq]
  generalize (lg_sl ([.ref (o + 1), .int (nI fa), .ref (o + 3), .int (nI ta)]) ++ List.replicate (5 - (lg_sl ([.ref (o + 1), .int (nI fa), .ref (o + 3), .int (nI ta)])).length) Slot.unset).toArray = ls at hl ⊢
  have hl : lv_has ls 5 [(0, .ref (o + 1)), (1, .int (nI fa)), (2, .ref (o + 3)), (3, .int (nI ta))] := hl
  have L3 : ∀ (k : Nat) (j : Nat) (Vl : Nat → Int32) (H : Heap) (locs : List Loc) (ls : Array Slot) (hik : j + k = 241) (hfV : fV_X7_bring_mv P V fa ta = fV_X7_bring_mv_L3 P fa ta k j Vl) (hG : Md D o P S Vl T F h H) (hS : va_S (inM o) s.heap H locs) (hl : lv_has ls 5 [(0, .ref (o + 1)), (1, .int (nI fa)), (2, .ref (o + 3)), (3, .int (nI ta)), (4, .int (nI j))]), W p l e (headSpec (wA yX7_bring cX7_bring 5 none) (rmL 0)).room s m args below meth c H locs 0 0 (MQ below (gQv (inM o) (fun H => Md D o P S (fV_X7_bring_mv P V fa ta) T F h H)) args s 0 0 (inM o)) (F0 m 3 ls []) := by
    intro k
    induction k with
    | zero =>
      intro j Vl H locs ls hik hfV hG hS hl
      refine lv_iload hx hb dX7_bring_3 (lv_at hl 4 rfl) ?_
      refine lv_sipush (v := 241) hx hb dX7_bring_5 (by decide) ?_
      refine lv_icmp_ge (tgt := 29) hx hb dX7_bring_8 (by decide) (fun c8 => ?_) (fun c8 => ?_)
      · have c8 : 241 ≤ j := (nI_leI (a := 241) (b := j) (by omega) (by omega)).mp c8
        have hG9 : Md D o P S (fV_X7_bring_mv P V fa ta) T F h H := by
          rw [hfV, fV_X7_bring_mv_L3]; (try dsimp only)
          exact hG
        exact W.vret hx hb hr (fun t ht hW => gQv_of hG9 hS ht) hS.2.2 dX7_bring_29
      · have c8 : ¬ 241 ≤ j := fun h => c8 ((nI_leI (a := 241) (b := j) (by omega) (by omega)).mpr h)
        exfalso; omega
    | succ k ih =>
      intro j Vl H locs ls hik hfV hG hS hl
      refine lv_iload hx hb dX7_bring_3 (lv_at hl 4 rfl) ?_
      refine lv_sipush (v := 241) hx hb dX7_bring_5 (by decide) ?_
      refine lv_icmp_ge (tgt := 29) hx hb dX7_bring_8 (by decide) (fun c8 => ?_) (fun c8 => ?_)
      · have c8 : 241 ≤ j := (nI_leI (a := 241) (b := j) (by omega) (by omega)).mp c8
        exfalso; omega
      · have c8 : ¬ 241 ≤ j := fun h => c8 ((nI_leI (a := 241) (b := j) (by omega) (by omega)).mpr h)
        refine lv_aload_n hx hb dX7_bring_11 rfl (lv_at hl 2 rfl) ?_
        refine lv_iload_n hx hb dX7_bring_12 rfl (lv_at hl 3 rfl) ?_
        refine lv_iload hx hb dX7_bring_13 (lv_at hl 4 rfl) ?_
        refine iaddN (a := ta) (b := j) hx hb dX7_bring_15 ?_
        refine lv_aload_n hx hb dX7_bring_16 rfl (lv_at hl 0 rfl) ?_
        refine lv_iload_n hx hb dX7_bring_17 rfl (lv_at hl 1 rfl) ?_
        refine lv_iload hx hb dX7_bring_18 (lv_at hl 4 rfl) ?_
        refine iaddN (a := fa) (b := j) hx hb dX7_bring_20 ?_
        refine aldMm (k := fa + j) hx hb hK hG (by omega) dX7_bring_21 ?_
        refine lv_topi (fun x1 ex1 => ?_)
        refine astMv (k := ta + j) hx hb hK hG hS hA (by omega) dX7_bring_22 (fun H locs hG hS => ?_)
        generalize eV2 : upd Vl (ta + j) x1 = V2 at hG
        refine lv_iinc (v := nI (j + 1)) (lv' := [(4, .int (nI (j + 1))), (0, .ref (o + 1)), (1, .int (nI fa)), (2, .ref (o + 3)), (3, .int (nI ta))]) hx hb dX7_bring_23 hl (k := 4) rfl (nI_add j 1) (by decide) rfl (fun ls hl => ?_)
        refine lv_goto (tgt := 3) hx hb dX7_bring_26 (by decide) ?_
        subst eV2
        subst ex1
        exact ih (j + 1) _ _ _ _ (by first | assumption | omega) (by rw [hfV, fV_X7_bring_mv_L3]; (try dsimp only); (try rfl)) hG hS (lv_sub hl [1, 2, 3, 4, 0] rfl)
  refine lv_iconst (v := 0) hx hb dX7_bring_0 (by decide) ?_
  refine lv_istore (lv' := [(4, .int 0), (0, .ref (o + 1)), (1, .int (nI fa)), (2, .ref (o + 3)), (3, .int (nI ta))]) hx hb dX7_bring_1 hl (by decide) rfl (fun ls hl => ?_)
  exact L3 241 0 _ _ _ _ (by first | assumption | omega) (by unfold fV_X7_bring_mv; (try dsimp only); (try rfl)) hG hS (lv_sub hl [1, 2, 3, 4, 0] rfl)
theorem hds_X7_bring_ms : yX7_bring.cls ≠ "java/lang/invoke/MethodHandle" ∧ yX7_bring.cls ≠ "java/lang/invoke/VarHandle" ∧ (parseMethodDescriptor yX7_bring.desc).map (fun d => d.parameters.length) = some 4 := by decide +kernel
def fS_X7_bring_ms_L3 (P : Nat → Int32) (fa : Nat) (ta : Nat) : Nat → Nat → (Nat → Int32) → Nat → Int32
  | 0, j, Sl =>
    Sl
  | k + 1, j, Sl =>
    let x1 := P (fa + j)
    let S2 := upd Sl (ta + j) x1
    fS_X7_bring_ms_L3 P fa ta k (j + 1) S2
def fS_X7_bring_ms (P : Nat → Int32) (S : Nat → Int32) (fa : Nat) (ta : Nat) : Nat → Int32 :=
  fS_X7_bring_ms_L3 P fa ta 241 0 S
set_option maxHeartbeats 4000000 in
set_option maxRecDepth 100000 in
theorem c_X7_bring_ms (l : Launch) (D : va_G) (o : Nat) (P S V T F : Nat → Int32) (h : Int64) (fa : Nat) (ta : Nat) (ha : fa + 241 ≤ 241) (hp : ta + 241 ≤ 241) : Met l yX7_bring (wA yX7_bring cX7_bring 5 none) (rmL 0) (gPc D [.ref (o + 1), .int (nI fa), .ref (o + 2), .int (nI ta)] (fun H => Md D o P S V T F h H)) (gQv (inM o) (fun H => Md D o P (fS_X7_bring_ms P S fa ta) V T F h H)) 0 0 (inM o) := by
  refine Met.ofW (cc := cX7_bring) (maxL := 5) (ret := none) (by decide) rfl ?_
  intro p e s m args below meth c s₁ B hml hv
  obtain ⟨hav, hG, hK⟩ := hv
  have hx := B.exec
  have hb := B.bytes
  have hr := B.returns
  have hts0 := atoms_spec (ws := wA yX7_bring cX7_bring 5 none) B.pre
  have hts : ∀ w ∈ AW, w.before _ s = true := fun w h => hts0 w (List.mem_cons_of_mem _ h)
  have hown : s.vm.findClass RX7 = some m.cls := findClass_of_methodNamed B.named
  have hlocks := B.notSynchronized
  have hA : ∀ q, (inM o) q → (inM o) q := fun _ h => h
  have hS : va_S (inM o) s.heap s.heap [] := va_S.rf
  have hG : Md D o P S V T F h s.heap := hG
  have hl := lv_entry ([.ref (o + 1), .int (nI fa), .ref (o + 2), .int (nI ta)]) (n := 5) (Nat.le_of_ble_eq_true rfl)
  refine W.eq (g2 := entryFrame m ([.ref (o + 1), .int (nI fa), .ref (o + 2), .int (nI ta)] : List Value).toArray 5) (by rw [hav]) ?_
  rw [lg_entry_eq]
  generalize (lg_sl ([.ref (o + 1), .int (nI fa), .ref (o + 2), .int (nI ta)]) ++ List.replicate (5 - (lg_sl ([.ref (o + 1), .int (nI fa), .ref (o + 2), .int (nI ta)])).length) Slot.unset).toArray = ls at hl ⊢
  have hl : lv_has ls 5 [(0, .ref (o + 1)), (1, .int (nI fa)), (2, .ref (o + 2)), (3, .int (nI ta))] := hl
  have L3 : ∀ (k : Nat) (j : Nat) (Sl : Nat → Int32) (H : Heap) (locs : List Loc) (ls : Array Slot) (hik : j + k = 241) (hfS : fS_X7_bring_ms P S fa ta = fS_X7_bring_ms_L3 P fa ta k j Sl) (hG : Md D o P Sl V T F h H) (hS : va_S (inM o) s.heap H locs) (hl : lv_has ls 5 [(0, .ref (o + 1)), (1, .int (nI fa)), (2, .ref (o + 2)), (3, .int (nI ta)), (4, .int (nI j))]), W p l e (headSpec (wA yX7_bring cX7_bring 5 none) (rmL 0)).room s m args below meth c H locs 0 0 (MQ below (gQv (inM o) (fun H => Md D o P (fS_X7_bring_ms P S fa ta) V T F h H)) args s 0 0 (inM o)) (F0 m 3 ls []) := by
    intro k
    induction k with
    | zero =>
      intro j Sl H locs ls hik hfS hG hS hl
      refine lv_iload hx hb dX7_bring_3 (lv_at hl 4 rfl) ?_
      refine lv_sipush (v := 241) hx hb dX7_bring_5 (by decide) ?_
      refine lv_icmp_ge (tgt := 29) hx hb dX7_bring_8 (by decide) (fun c8 => ?_) (fun c8 => ?_)
      · have c8 : 241 ≤ j := (nI_leI (a := 241) (b := j) (by omega) (by omega)).mp c8
        have hG9 : Md D o P (fS_X7_bring_ms P S fa ta) V T F h H := by
          rw [hfS, fS_X7_bring_ms_L3]; (try dsimp only)
          exact hG
        exact W.vret hx hb hr (fun t ht hW => gQv_of hG9 hS ht) hS.2.2 dX7_bring_29
      · have c8 : ¬ 241 ≤ j := fun h => c8 ((nI_leI (a := 241) (b := j) (by omega) (by omega)).mpr h)
        exfalso; omega
    | succ k ih =>
      intro j Sl H locs ls hik hfS hG hS hl
      refine lv_iload hx hb dX7_bring_3 (lv_at hl 4 rfl) ?_
      refine lv_sipush (v := 241) hx hb dX7_bring_5 (by decide) ?_
      refine lv_icmp_ge (tgt := 29) hx hb dX7_bring_8 (by decide) (fun c8 => ?_) (fun c8 => ?_)
      · have c8 : 241 ≤ j := (nI_leI (a := 241) (b := j) (by omega) (by omega)).mp c8
        exfalso; omega
      · have c8 : ¬ 241 ≤ j := fun h => c8 ((nI_leI (a := 241) (b := j) (by omega) (by omega)).mpr h)
        refine lv_aload_n hx hb dX7_bring_11 rfl (lv_at hl 2 rfl) ?_
        refine lv_iload_n hx hb dX7_bring_12 rfl (lv_at hl 3 rfl) ?_
        refine lv_iload hx hb dX7_bring_13 (lv_at hl 4 rfl) ?_
        refine iaddN (a := ta) (b := j) hx hb dX7_bring_15 ?_
        refine lv_aload_n hx hb dX7_bring_16 rfl (lv_at hl 0 rfl) ?_
        refine lv_iload_n hx hb dX7_bring_17 rfl (lv_at hl 1 rfl) ?_
        refine lv_iload hx hb dX7_bring_18 (lv_at hl 4 rfl) ?_
        refine iaddN (a := fa) (b := j) hx hb dX7_bring_20 ?_
        refine aldMm (k := fa + j) hx hb hK hG (by omega) dX7_bring_21 ?_
        refine lv_topi (fun x1 ex1 => ?_)
        refine astMs (k := ta + j) hx hb hK hG hS hA (by omega) dX7_bring_22 (fun H locs hG hS => ?_)
        generalize eS2 : upd Sl (ta + j) x1 = S2 at hG
        refine lv_iinc (v := nI (j + 1)) (lv' := [(4, .int (nI (j + 1))), (0, .ref (o + 1)), (1, .int (nI fa)), (2, .ref (o + 2)), (3, .int (nI ta))]) hx hb dX7_bring_23 hl (k := 4) rfl (nI_add j 1) (by decide) rfl (fun ls hl => ?_)
        refine lv_goto (tgt := 3) hx hb dX7_bring_26 (by decide) ?_
        subst eS2
        subst ex1
        exact ih (j + 1) _ _ _ _ (by first | assumption | omega) (by rw [hfS, fS_X7_bring_ms_L3]; (try dsimp only); (try rfl)) hG hS (lv_sub hl [1, 2, 3, 4, 0] rfl)
  refine lv_iconst (v := 0) hx hb dX7_bring_0 (by decide) ?_
  refine lv_istore (lv' := [(4, .int 0), (0, .ref (o + 1)), (1, .int (nI fa)), (2, .ref (o + 2)), (3, .int (nI ta))]) hx hb dX7_bring_1 hl (by decide) rfl (fun ls hl => ?_)
  exact L3 241 0 _ _ _ _ (by first | assumption | omega) (by unfold fS_X7_bring_ms; (try dsimp only); (try rfl)) hG hS (lv_sub hl [1, 2, 3, 4, 0] rfl)
theorem hds_X7_bring_sm : yX7_bring.cls ≠ "java/lang/invoke/MethodHandle" ∧ yX7_bring.cls ≠ "java/lang/invoke/VarHandle" ∧ (parseMethodDescriptor yX7_bring.desc).map (fun d => d.parameters.length) = some 4 := by decide +kernel
def fP_X7_bring_sm_L3 (S : Nat → Int32) (fa : Nat) (ta : Nat) : Nat → Nat → (Nat → Int32) → Nat → Int32
  | 0, j, Pl =>
    Pl
  | k + 1, j, Pl =>
    let x1 := S (fa + j)
    let P2 := upd Pl (ta + j) x1
    fP_X7_bring_sm_L3 S fa ta k (j + 1) P2
def fP_X7_bring_sm (P : Nat → Int32) (S : Nat → Int32) (fa : Nat) (ta : Nat) : Nat → Int32 :=
  fP_X7_bring_sm_L3 S fa ta 241 0 P
set_option maxHeartbeats 4000000 in
set_option maxRecDepth 100000 in
theorem c_X7_bring_sm (l : Launch) (D : va_G) (o : Nat) (P S V T F : Nat → Int32) (h : Int64) (fa : Nat) (ta : Nat) (ha : fa + 241 ≤ 241) (hp : ta + 241 ≤ 241) : Met l yX7_bring (wA yX7_bring cX7_bring 5 none) (rmL 0) (gPc D [.ref (o + 2), .int (nI fa), .ref (o + 1), .int (nI ta)] (fun H => Md D o P S V T F h H)) (gQv (inM o) (fun H => Md D o (fP_X7_bring_sm P S fa ta) S V T F h H)) 0 0 (inM o) := by
  refine Met.ofW (cc := cX7_bring) (maxL := 5) (ret := none) (by decide) rfl ?_
  intro p e s m args below meth c s₁ B hml hv
  obtain ⟨hav, hG, hK⟩ := hv
  have hx := B.exec
  have hb := B.bytes
  have hr := B.returns
  have hts0 := atoms_spec (ws := wA yX7_bring cX7_bring 5 none) B.pre
  have hts : ∀ w ∈ AW, w.before _ s = true := fun w h => hts0 w (List.mem_cons_of_mem _ h)
  have hown : s.vm.findClass RX7 = some m.cls := findClass_of_methodNamed B.named
  have hlocks := B.notSynchronized
  have hA : ∀ q, (inM o) q → (inM o) q := fun _ h => h
  have hS : va_S (inM o) s.heap s.heap [] := va_S.rf
  have hG : Md D o P S V T F h s.heap := hG
  have hl := lv_entry ([.ref (o + 2), .int (nI fa), .ref (o + 1), .int (nI ta)]) (n := 5) (Nat.le_of_ble_eq_true rfl)
  refine W.eq (g2 := entryFrame m ([.ref (o + 2), .int (nI fa), .ref (o + 1), .int (nI ta)] : List Value).toArray 5) (by rw [hav]) ?_
  rw [lg_entry_eq]
  generalize (lg_sl ([.ref (o + 2), .int (nI fa), .ref (o + 1), .int (nI ta)]) ++ List.replicate (5 - (lg_sl ([.ref (o + 2), .int (nI fa), .ref (o + 1), .int (nI ta)])).length) Slot.unset).toArray = ls at hl ⊢
  have hl : lv_has ls 5 [(0, .ref (o + 2)), (1, .int (nI fa)), (2, .ref (o + 1)), (3, .int (nI ta))] := hl
  have L3 : ∀ (k : Nat) (j : Nat) (Pl : Nat → Int32) (H : Heap) (locs : List Loc) (ls : Array Slot) (hik : j + k = 241) (hfP : fP_X7_bring_sm P S fa ta = fP_X7_bring_sm_L3 S fa ta k j Pl) (hG : Md D o Pl S V T F h H) (hS : va_S (inM o) s.heap H locs) (hl : lv_has ls 5 [(0, .ref (o + 2)), (1, .int (nI fa)), (2, .ref (o + 1)), (3, .int (nI ta)), (4, .int (nI j))]), W p l e (headSpec (wA yX7_bring cX7_bring 5 none) (rmL 0)).room s m args below meth c H locs 0 0 (MQ below (gQv (inM o) (fun H => Md D o (fP_X7_bring_sm P S fa ta) S V T F h H)) args s 0 0 (inM o)) (F0 m 3 ls []) := by
    intro k
    induction k with
    | zero =>
      intro j Pl H locs ls hik hfP hG hS hl
      refine lv_iload hx hb dX7_bring_3 (lv_at hl 4 rfl) ?_
      refine lv_sipush (v := 241) hx hb dX7_bring_5 (by decide) ?_
      refine lv_icmp_ge (tgt := 29) hx hb dX7_bring_8 (by decide) (fun c8 => ?_) (fun c8 => ?_)
      · have c8 : 241 ≤ j := (nI_leI (a := 241) (b := j) (by omega) (by omega)).mp c8
        have hG9 : Md D o (fP_X7_bring_sm P S fa ta) S V T F h H := by
          rw [hfP, fP_X7_bring_sm_L3]; (try dsimp only)
          exact hG
        exact W.vret hx hb hr (fun t ht hW => gQv_of hG9 hS ht) hS.2.2 dX7_bring_29
      · have c8 : ¬ 241 ≤ j := fun h => c8 ((nI_leI (a := 241) (b := j) (by omega) (by omega)).mpr h)
        exfalso; omega
    | succ k ih =>
      intro j Pl H locs ls hik hfP hG hS hl
      refine lv_iload hx hb dX7_bring_3 (lv_at hl 4 rfl) ?_
      refine lv_sipush (v := 241) hx hb dX7_bring_5 (by decide) ?_
      refine lv_icmp_ge (tgt := 29) hx hb dX7_bring_8 (by decide) (fun c8 => ?_) (fun c8 => ?_)
      · have c8 : 241 ≤ j := (nI_leI (a := 241) (b := j) (by omega) (by omega)).mp c8
        exfalso; omega
      · have c8 : ¬ 241 ≤ j := fun h => c8 ((nI_leI (a := 241) (b := j) (by omega) (by omega)).mpr h)
        refine lv_aload_n hx hb dX7_bring_11 rfl (lv_at hl 2 rfl) ?_
        refine lv_iload_n hx hb dX7_bring_12 rfl (lv_at hl 3 rfl) ?_
        refine lv_iload hx hb dX7_bring_13 (lv_at hl 4 rfl) ?_
        refine iaddN (a := ta) (b := j) hx hb dX7_bring_15 ?_
        refine lv_aload_n hx hb dX7_bring_16 rfl (lv_at hl 0 rfl) ?_
        refine lv_iload_n hx hb dX7_bring_17 rfl (lv_at hl 1 rfl) ?_
        refine lv_iload hx hb dX7_bring_18 (lv_at hl 4 rfl) ?_
        refine iaddN (a := fa) (b := j) hx hb dX7_bring_20 ?_
        refine aldMs (k := fa + j) hx hb hK hG (by omega) dX7_bring_21 ?_
        refine lv_topi (fun x1 ex1 => ?_)
        refine astMm (k := ta + j) hx hb hK hG hS hA (by omega) dX7_bring_22 (fun H locs hG hS => ?_)
        generalize eP2 : upd Pl (ta + j) x1 = P2 at hG
        refine lv_iinc (v := nI (j + 1)) (lv' := [(4, .int (nI (j + 1))), (0, .ref (o + 2)), (1, .int (nI fa)), (2, .ref (o + 1)), (3, .int (nI ta))]) hx hb dX7_bring_23 hl (k := 4) rfl (nI_add j 1) (by decide) rfl (fun ls hl => ?_)
        refine lv_goto (tgt := 3) hx hb dX7_bring_26 (by decide) ?_
        subst eP2
        subst ex1
        exact ih (j + 1) _ _ _ _ (by first | assumption | omega) (by rw [hfP, fP_X7_bring_sm_L3]; (try dsimp only); (try rfl)) hG hS (lv_sub hl [1, 2, 3, 4, 0] rfl)
  refine lv_iconst (v := 0) hx hb dX7_bring_0 (by decide) ?_
  refine lv_istore (lv' := [(4, .int 0), (0, .ref (o + 2)), (1, .int (nI fa)), (2, .ref (o + 1)), (3, .int (nI ta))]) hx hb dX7_bring_1 hl (by decide) rfl (fun ls hl => ?_)
  exact L3 241 0 _ _ _ _ (by first | assumption | omega) (by unfold fP_X7_bring_sm; (try dsimp only); (try rfl)) hG hS (lv_sub hl [1, 2, 3, 4, 0] rfl)
theorem hds_X7_bring_vm : yX7_bring.cls ≠ "java/lang/invoke/MethodHandle" ∧ yX7_bring.cls ≠ "java/lang/invoke/VarHandle" ∧ (parseMethodDescriptor yX7_bring.desc).map (fun d => d.parameters.length) = some 4 := by decide +kernel
def fP_X7_bring_vm_L3 (V : Nat → Int32) (fa : Nat) (ta : Nat) : Nat → Nat → (Nat → Int32) → Nat → Int32
  | 0, j, Pl =>
    Pl
  | k + 1, j, Pl =>
    let x1 := V (fa + j)
    let P2 := upd Pl (ta + j) x1
    fP_X7_bring_vm_L3 V fa ta k (j + 1) P2
def fP_X7_bring_vm (P : Nat → Int32) (V : Nat → Int32) (fa : Nat) (ta : Nat) : Nat → Int32 :=
  fP_X7_bring_vm_L3 V fa ta 241 0 P
set_option maxHeartbeats 4000000 in
set_option maxRecDepth 100000 in
theorem c_X7_bring_vm (l : Launch) (D : va_G) (o : Nat) (P S V T F : Nat → Int32) (h : Int64) (fa : Nat) (ta : Nat) (ha : fa + 241 ≤ 964) (hp : ta + 241 ≤ 241) : Met l yX7_bring (wA yX7_bring cX7_bring 5 none) (rmL 0) (gPc D [.ref (o + 3), .int (nI fa), .ref (o + 1), .int (nI ta)] (fun H => Md D o P S V T F h H)) (gQv (inM o) (fun H => Md D o (fP_X7_bring_vm P V fa ta) S V T F h H)) 0 0 (inM o) := by
  refine Met.ofW (cc := cX7_bring) (maxL := 5) (ret := none) (by decide) rfl ?_
  intro p e s m args below meth c s₁ B hml hv
  obtain ⟨hav, hG, hK⟩ := hv
  have hx := B.exec
  have hb := B.bytes
  have hr := B.returns
  have hts0 := atoms_spec (ws := wA yX7_bring cX7_bring 5 none) B.pre
  have hts : ∀ w ∈ AW, w.before _ s = true := fun w h => hts0 w (List.mem_cons_of_mem _ h)
  have hown : s.vm.findClass RX7 = some m.cls := findClass_of_methodNamed B.named
  have hlocks := B.notSynchronized
  have hA : ∀ q, (inM o) q → (inM o) q := fun _ h => h
  have hS : va_S (inM o) s.heap s.heap [] := va_S.rf
  have hG : Md D o P S V T F h s.heap := hG
  have hl := lv_entry ([.ref (o + 3), .int (nI fa), .ref (o + 1), .int (nI ta)]) (n := 5) (Nat.le_of_ble_eq_true rfl)
  refine W.eq (g2 := entryFrame m ([.ref (o + 3), .int (nI fa), .ref (o + 1), .int (nI ta)] : List Value).toArray 5) (by rw [hav]) ?_
  rw [lg_entry_eq]
  generalize (lg_sl ([.ref (o + 3), .int (nI fa), .ref (o + 1), .int (nI ta)]) ++ List.replicate (5 - (lg_sl ([.ref (o + 3), .int (nI fa), .ref (o + 1), .int (nI ta)])).length) Slot.unset).toArray = ls at hl ⊢
  have hl : lv_has ls 5 [(0, .ref (o + 3)), (1, .int (nI fa)), (2, .ref (o + 1)), (3, .int (nI ta))] := hl
  have L3 : ∀ (k : Nat) (j : Nat) (Pl : Nat → Int32) (H : Heap) (locs : List Loc) (ls : Array Slot) (hik : j + k = 241) (hfP : fP_X7_bring_vm P V fa ta = fP_X7_bring_vm_L3 V fa ta k j Pl) (hG : Md D o Pl S V T F h H) (hS : va_S (inM o) s.heap H locs) (hl : lv_has ls 5 [(0, .ref (o + 3)), (1, .int (nI fa)), (2, .ref (o + 1)), (3, .int (nI ta)), (4, .int (nI j))]), W p l e (headSpec (wA yX7_bring cX7_bring 5 none) (rmL 0)).room s m args below meth c H locs 0 0 (MQ below (gQv (inM o) (fun H => Md D o (fP_X7_bring_vm P V fa ta) S V T F h H)) args s 0 0 (inM o)) (F0 m 3 ls []) := by
    intro k
    induction k with
    | zero =>
      intro j Pl H locs ls hik hfP hG hS hl
      refine lv_iload hx hb dX7_bring_3 (lv_at hl 4 rfl) ?_
      refine lv_sipush (v := 241) hx hb dX7_bring_5 (by decide) ?_
      refine lv_icmp_ge (tgt := 29) hx hb dX7_bring_8 (by decide) (fun c8 => ?_) (fun c8 => ?_)
      · have c8 : 241 ≤ j := (nI_leI (a := 241) (b := j) (by omega) (by omega)).mp c8
        have hG9 : Md D o (fP_X7_bring_vm P V fa ta) S V T F h H := by
          rw [hfP, fP_X7_bring_vm_L3]; (try dsimp only)
          exact hG
        exact W.vret hx hb hr (fun t ht hW => gQv_of hG9 hS ht) hS.2.2 dX7_bring_29
      · have c8 : ¬ 241 ≤ j := fun h => c8 ((nI_leI (a := 241) (b := j) (by omega) (by omega)).mpr h)
        exfalso; omega
    | succ k ih =>
      intro j Pl H locs ls hik hfP hG hS hl
      refine lv_iload hx hb dX7_bring_3 (lv_at hl 4 rfl) ?_
      refine lv_sipush (v := 241) hx hb dX7_bring_5 (by decide) ?_
      refine lv_icmp_ge (tgt := 29) hx hb dX7_bring_8 (by decide) (fun c8 => ?_) (fun c8 => ?_)
      · have c8 : 241 ≤ j := (nI_leI (a := 241) (b := j) (by omega) (by omega)).mp c8
        exfalso; omega
      · have c8 : ¬ 241 ≤ j := fun h => c8 ((nI_leI (a := 241) (b := j) (by omega) (by omega)).mpr h)
        refine lv_aload_n hx hb dX7_bring_11 rfl (lv_at hl 2 rfl) ?_
        refine lv_iload_n hx hb dX7_bring_12 rfl (lv_at hl 3 rfl) ?_
        refine lv_iload hx hb dX7_bring_13 (lv_at hl 4 rfl) ?_
        refine iaddN (a := ta) (b := j) hx hb dX7_bring_15 ?_
        refine lv_aload_n hx hb dX7_bring_16 rfl (lv_at hl 0 rfl) ?_
        refine lv_iload_n hx hb dX7_bring_17 rfl (lv_at hl 1 rfl) ?_
        refine lv_iload hx hb dX7_bring_18 (lv_at hl 4 rfl) ?_
        refine iaddN (a := fa) (b := j) hx hb dX7_bring_20 ?_
        refine aldMv (k := fa + j) hx hb hK hG (by omega) dX7_bring_21 ?_
        refine lv_topi (fun x1 ex1 => ?_)
        refine astMm (k := ta + j) hx hb hK hG hS hA (by omega) dX7_bring_22 (fun H locs hG hS => ?_)
        generalize eP2 : upd Pl (ta + j) x1 = P2 at hG
        refine lv_iinc (v := nI (j + 1)) (lv' := [(4, .int (nI (j + 1))), (0, .ref (o + 3)), (1, .int (nI fa)), (2, .ref (o + 1)), (3, .int (nI ta))]) hx hb dX7_bring_23 hl (k := 4) rfl (nI_add j 1) (by decide) rfl (fun ls hl => ?_)
        refine lv_goto (tgt := 3) hx hb dX7_bring_26 (by decide) ?_
        subst eP2
        subst ex1
        exact ih (j + 1) _ _ _ _ (by first | assumption | omega) (by rw [hfP, fP_X7_bring_vm_L3]; (try dsimp only); (try rfl)) hG hS (lv_sub hl [1, 2, 3, 4, 0] rfl)
  refine lv_iconst (v := 0) hx hb dX7_bring_0 (by decide) ?_
  refine lv_istore (lv' := [(4, .int 0), (0, .ref (o + 3)), (1, .int (nI fa)), (2, .ref (o + 1)), (3, .int (nI ta))]) hx hb dX7_bring_1 hl (by decide) rfl (fun ls hl => ?_)
  exact L3 241 0 _ _ _ _ (by first | assumption | omega) (by unfold fP_X7_bring_vm; (try dsimp only); (try rfl)) hG hS (lv_sub hl [1, 2, 3, 4, 0] rfl)
theorem hdv_X7_thrown : yX7_thrown.cls = RX7 ∧ yX7_thrown.cls ≠ "java/lang/invoke/MethodHandle" ∧ yX7_thrown.cls ≠ "java/lang/invoke/VarHandle" ∧ (parseMethodDescriptor yX7_thrown.desc).map (fun d => d.parameters.length) = some 0 := by decide +kernel
def fR_X7_thrown (F : Nat → Int32) : Int32 :=
  F 6
set_option maxHeartbeats 4000000 in
set_option maxRecDepth 100000 in
theorem c_X7_thrown (l : Launch) (D : va_G) (o : Nat) (P S V T F : Nat → Int32) (h : Int64) : Met l yX7_thrown (wA yX7_thrown cX7_thrown 1 (some .int)) (rmL 0) (gPc D [.ref o] (fun H => Md D o P S V T F h H)) (gQi (inM o) (fR_X7_thrown F) (fun H => Md D o P S V T F h H)) 0 0 (inM o) := by
  refine Met.ofW (cc := cX7_thrown) (maxL := 1) (ret := (some .int)) (by decide) rfl ?_
  intro p e s m args below meth c s₁ B hml hv
  obtain ⟨hav, hG, hK⟩ := hv
  have hx := B.exec
  have hb := B.bytes
  have hr := B.returns
  have hts0 := atoms_spec (ws := wA yX7_thrown cX7_thrown 1 (some .int)) B.pre
  have hts : ∀ w ∈ AW, w.before _ s = true := fun w h => hts0 w (List.mem_cons_of_mem _ h)
  have hown : s.vm.findClass RX7 = some m.cls := findClass_of_methodNamed B.named
  have hlocks := B.notSynchronized
  have hA : ∀ q, (inM o) q → (inM o) q := fun _ h => h
  have hS : va_S (inM o) s.heap s.heap [] := va_S.rf
  have hG : Md D o P S V T F h s.heap := hG
  have hl := lv_entry ([.ref o]) (n := 1) (Nat.le_of_ble_eq_true rfl)
  refine W.eq (g2 := entryFrame m ([.ref o] : List Value).toArray 1) (by rw [hav]) ?_
  rw [lg_entry_eq]
  generalize (lg_sl ([.ref o]) ++ List.replicate (1 - (lg_sl ([.ref o])).length) Slot.unset).toArray = ls at hl ⊢
  have hl : lv_has ls 1 [(0, .ref o)] := hl
  refine lv_aload_n hx hb dX7_thrown_0 rfl (lv_at hl 0 rfl) ?_
  refine getM 6 hx hb hts hown hK hG (by decide) qF_X7_26 rfl dX7_thrown_1 ?_
  have hG9 := hG
  exact W.iret hx hb hr (fun t ht hW => gQi_of (by unfold fR_X7_thrown; (try dsimp only); (try rfl)) hG9 hS ht) hS.2.2 dX7_thrown_4
theorem hdv_X7_keep : yX7_keep.cls = RX7 ∧ yX7_keep.cls ≠ "java/lang/invoke/MethodHandle" ∧ yX7_keep.cls ≠ "java/lang/invoke/VarHandle" ∧ (parseMethodDescriptor yX7_keep.desc).map (fun d => d.parameters.length) = some 0 := by decide +kernel
def fV_X7_keep_L10 (P : Nat → Int32) : Nat → Nat → (Nat → Int32) → (Nat → Int32) → Nat → Int32
  | 0, j, Vl, Fl =>
    let V4 := fV_X7_bring_mv P Vl 0 (241 * (4 - 1))
    V4
  | k + 1, j, Vl, Fl =>
    let x6 := Vl (j + 241)
    let V7 := upd Vl j x6
    fV_X7_keep_L10 P k (j + 1) V7 Fl
def fF_X7_keep_L10 (P : Nat → Int32) : Nat → Nat → (Nat → Int32) → (Nat → Int32) → Nat → Int32
  | 0, j, Vl, Fl =>
    let F3 := upd Fl 3 (nI (4 - 1))
    let F5 := upd F3 3 (nI (4 - 1 + 1))
    F5
  | k + 1, j, Vl, Fl =>
    let x6 := Vl (j + 241)
    let V7 := upd Vl j x6
    fF_X7_keep_L10 P k (j + 1) V7 Fl
def fV_X7_keep (P : Nat → Int32) (V : Nat → Int32) (F : Nat → Int32) : Nat → Int32 :=
  if (sc F) = 4 then
    fV_X7_keep_L10 P 723 0 V F
  else
    let V1 := fV_X7_bring_mv P V 0 (241 * (sc F))
    V1
def fF_X7_keep (P : Nat → Int32) (V : Nat → Int32) (F : Nat → Int32) : Nat → Int32 :=
  if (sc F) = 4 then
    fF_X7_keep_L10 P 723 0 V F
  else
    let F2 := upd F 3 (nI ((sc F) + 1))
    F2
set_option maxHeartbeats 4000000 in
set_option maxRecDepth 100000 in
theorem c_X7_keep (l : Launch) (D : va_G) (o : Nat) (P S V T F : Nat → Int32) (h : Int64) (hc : okC F) : Met l yX7_keep (wA yX7_keep cX7_keep 2 none) (rmL 1) (gPc D [.ref o] (fun H => Md D o P S V T F h H)) (gQv (inM o) (fun H => Md D o P S (fV_X7_keep P V F) T (fF_X7_keep P V F) h H)) 0 0 (inM o) := by
  refine Met.ofW (cc := cX7_keep) (maxL := 2) (ret := none) (by decide) rfl ?_
  intro p e s m args below meth c s₁ B hml hv
  obtain ⟨hav, hG, hK⟩ := hv
  have hx := B.exec
  have hb := B.bytes
  have hr := B.returns
  have hts0 := atoms_spec (ws := wA yX7_keep cX7_keep 2 none) B.pre
  have hts : ∀ w ∈ AW, w.before _ s = true := fun w h => hts0 w (List.mem_cons_of_mem _ h)
  have hown : s.vm.findClass RX7 = some m.cls := findClass_of_methodNamed B.named
  have hlocks := B.notSynchronized
  have hA : ∀ q, (inM o) q → (inM o) q := fun _ h => h
  have hS : va_S (inM o) s.heap s.heap [] := va_S.rf
  have hG : Md D o P S V T F h s.heap := hG
  have hl := lv_entry ([.ref o]) (n := 2) (Nat.le_of_ble_eq_true rfl)
  refine W.eq (g2 := entryFrame m ([.ref o] : List Value).toArray 2) (by rw [hav]) ?_
  rw [lg_entry_eq]
  generalize (lg_sl ([.ref o]) ++ List.replicate (2 - (lg_sl ([.ref o])).length) Slot.unset).toArray = ls at hl ⊢
  have hl : lv_has ls 2 [(0, .ref o)] := hl
  have hc4 := hc.2
  have L10 : ∀ (k : Nat) (j : Nat) (Vl : Nat → Int32) (Fl : Nat → Int32) (H : Heap) (locs : List Loc) (ls : Array Slot) (hF : Fl = F) (h4 : sc F = 4) (hik : j + k = 723) (hfV : fV_X7_keep P V F = fV_X7_keep_L10 P k j Vl Fl) (hfF : fF_X7_keep P V F = fF_X7_keep_L10 P k j Vl Fl) (hG : Md D o P S Vl T Fl h H) (hS : va_S (inM o) s.heap H locs) (hl : lv_has ls 2 [(0, .ref o), (1, .int (nI j))]), W p l e (headSpec (wA yX7_keep cX7_keep 2 none) (rmL 1)).room s m args below meth c H locs 0 0 (MQ below (gQv (inM o) (fun H => Md D o P S (fV_X7_keep P V F) T (fF_X7_keep P V F) h H)) args s 0 0 (inM o)) (F0 m 10 ls []) := by
    intro k
    induction k with
    | zero =>
      intro j Vl Fl H locs ls hF h4 hik hfV hfF hG hS hl
      refine lv_iload_n hx hb dX7_keep_10 rfl (lv_at hl 1 rfl) ?_
      refine lv_sipush (v := 723) hx hb dX7_keep_11 (by decide) ?_
      refine lv_icmp_ge (tgt := 39) hx hb dX7_keep_14 (by decide) (fun c14 => ?_) (fun c14 => ?_)
      · have c14 : 723 ≤ j := (nI_leI (a := 723) (b := j) (by omega) (by omega)).mp c14
        refine lv_aload_n hx hb dX7_keep_39 rfl (lv_at hl 0 rfl) ?_
        refine lv_dup hx hb dX7_keep_40 rfl ?_
        refine getM 3 hx hb hts hown hK hG (by decide) qF_X7_30 rfl dX7_keep_41 ?_
        refine topN (n := 4) (by rw [hF, hc.1, h4]) ?_
        refine lv_iconst (v := 1) hx hb dX7_keep_44 (by decide) ?_
        refine isubN (a := 4) (b := 1) (by decide) hx hb dX7_keep_45 ?_
        refine putM 3 hx hb hts hown hK hG hS hA (by decide) qF_X7_30 rfl dX7_keep_46 (fun H locs hG hS => ?_)
        generalize eF3 : upd Fl 3 (nI (4 - 1)) = F3 at hG
        refine lv_aload_n hx hb dX7_keep_49 rfl (lv_at hl 0 rfl) ?_
        refine getMm hx hb hts hown hK hG qF_X7_7 dX7_keep_50 ?_
        refine lv_iconst (v := 0) hx hb dX7_keep_53 (by decide) ?_
        refine lv_aload_n hx hb dX7_keep_54 rfl (lv_at hl 0 rfl) ?_
        refine getMv hx hb hts hown hK hG qF_X7_16 dX7_keep_55 ?_
        refine lv_sipush (v := 241) hx hb dX7_keep_58 (by decide) ?_
        refine lv_aload_n hx hb dX7_keep_61 rfl (lv_at hl 0 rfl) ?_
        refine getM 3 hx hb hts hown hK hG (by decide) qF_X7_30 rfl dX7_keep_62 ?_
        refine topE (y := nI (4 - 1)) (by rw [← eF3, upd_s]) ?_
        refine imulN (a := 241) (b := 4 - 1) hx hb dX7_keep_65 ?_
        refine gcSv (As := [.ref (o + 1), .int 0, .ref (o + 3), .int (nI (241 * (4 - 1)))]) (rest := []) hx hb hml hown hts hl.1 hK (c_X7_bring_mv l D o P S Vl T F3 h 0 (241 * (4 - 1)) (by first | assumption | omega) (by first | assumption | omega)) (gaS qM_X7_33 qT_X7_bring qK_X7 qC_X7_bring) hds_X7_bring_mv ⟨Nat.le_of_ble_eq_true rfl, Nat.le_of_ble_eq_true rfl⟩ hG rfl (Nat.le_of_ble_eq_true rfl) ⟨Nat.zero_le _, Nat.zero_le _⟩ dX7_keep_66 hS hA (fun H locs hG _ _ hS => ?_)
        have hG : Md D o P S (fV_X7_bring_mv P Vl 0 (241 * (4 - 1))) T F3 h H := hG
        generalize eV4 : fV_X7_bring_mv P Vl 0 (241 * (4 - 1)) = V4 at hG
        refine lv_aload_n hx hb dX7_keep_69 rfl (lv_at hl 0 rfl) ?_
        refine lv_dup hx hb dX7_keep_70 rfl ?_
        refine getM 3 hx hb hts hown hK hG (by decide) qF_X7_30 rfl dX7_keep_71 ?_
        refine topE (y := nI (4 - 1)) (by rw [← eF3, upd_s]) ?_
        refine lv_iconst (v := 1) hx hb dX7_keep_74 (by decide) ?_
        refine iaddN (a := 4 - 1) (b := 1) hx hb dX7_keep_75 ?_
        refine putM 3 hx hb hts hown hK hG hS hA (by decide) qF_X7_30 rfl dX7_keep_76 (fun H locs hG hS => ?_)
        generalize eF5 : upd F3 3 (nI (4 - 1 + 1)) = F5 at hG
        subst eF5
        subst eV4
        subst eF3
        have hG9 : Md D o P S (fV_X7_keep P V F) T (fF_X7_keep P V F) h H := by
          rw [hfV, fV_X7_keep_L10]; (try dsimp only)
          rw [hfF, fF_X7_keep_L10]; (try dsimp only)
          exact hG
        exact W.vret hx hb hr (fun t ht hW => gQv_of hG9 hS ht) hS.2.2 dX7_keep_79
      · have c14 : ¬ 723 ≤ j := fun h => c14 ((nI_leI (a := 723) (b := j) (by omega) (by omega)).mpr h)
        exfalso; omega
    | succ k ih =>
      intro j Vl Fl H locs ls hF h4 hik hfV hfF hG hS hl
      refine lv_iload_n hx hb dX7_keep_10 rfl (lv_at hl 1 rfl) ?_
      refine lv_sipush (v := 723) hx hb dX7_keep_11 (by decide) ?_
      refine lv_icmp_ge (tgt := 39) hx hb dX7_keep_14 (by decide) (fun c14 => ?_) (fun c14 => ?_)
      · have c14 : 723 ≤ j := (nI_leI (a := 723) (b := j) (by omega) (by omega)).mp c14
        exfalso; omega
      · have c14 : ¬ 723 ≤ j := fun h => c14 ((nI_leI (a := 723) (b := j) (by omega) (by omega)).mpr h)
        refine lv_aload_n hx hb dX7_keep_17 rfl (lv_at hl 0 rfl) ?_
        refine getMv hx hb hts hown hK hG qF_X7_16 dX7_keep_18 ?_
        refine lv_iload_n hx hb dX7_keep_21 rfl (lv_at hl 1 rfl) ?_
        refine lv_aload_n hx hb dX7_keep_22 rfl (lv_at hl 0 rfl) ?_
        refine getMv hx hb hts hown hK hG qF_X7_16 dX7_keep_23 ?_
        refine lv_iload_n hx hb dX7_keep_26 rfl (lv_at hl 1 rfl) ?_
        refine lv_sipush (v := 241) hx hb dX7_keep_27 (by decide) ?_
        refine iaddN (a := j) (b := 241) hx hb dX7_keep_30 ?_
        refine aldMv (k := j + 241) hx hb hK hG (by omega) dX7_keep_31 ?_
        refine lv_topi (fun x6 ex6 => ?_)
        refine astMv (k := j) hx hb hK hG hS hA (by omega) dX7_keep_32 (fun H locs hG hS => ?_)
        generalize eV7 : upd Vl j x6 = V7 at hG
        refine lv_iinc (v := nI (j + 1)) (lv' := [(1, .int (nI (j + 1))), (0, .ref o)]) hx hb dX7_keep_33 hl (k := 1) rfl (nI_add j 1) (by decide) rfl (fun ls hl => ?_)
        refine lv_goto (tgt := 10) hx hb dX7_keep_36 (by decide) ?_
        subst eV7
        subst ex6
        exact ih (j + 1) _ _ _ _ _ hF h4 (by first | assumption | omega) (by rw [hfV, fV_X7_keep_L10]; (try dsimp only); (try rfl)) (by rw [hfF, fF_X7_keep_L10]; (try dsimp only); (try rfl)) hG hS (lv_sub hl [1, 0] rfl)
  refine lv_aload_n hx hb dX7_keep_0 rfl (lv_at hl 0 rfl) ?_
  refine getM 3 hx hb hts hown hK hG (by decide) qF_X7_30 rfl dX7_keep_1 ?_
  refine topN (n := (sc F)) hc.1 ?_
  refine lv_iconst (v := 4) hx hb dX7_keep_4 (by decide) ?_
  refine lv_icmp_ne (tgt := 49) hx hb dX7_keep_5 (by decide) (fun c5 => ?_) (fun c5 => ?_)
  · have c5 : ¬ (sc F) = 4 := fun h => c5 ((nI_eq (a := (sc F)) (b := 4) (by omega) (by omega)).mpr h)
    refine lv_aload_n hx hb dX7_keep_49 rfl (lv_at hl 0 rfl) ?_
    refine getMm hx hb hts hown hK hG qF_X7_7 dX7_keep_50 ?_
    refine lv_iconst (v := 0) hx hb dX7_keep_53 (by decide) ?_
    refine lv_aload_n hx hb dX7_keep_54 rfl (lv_at hl 0 rfl) ?_
    refine getMv hx hb hts hown hK hG qF_X7_16 dX7_keep_55 ?_
    refine lv_sipush (v := 241) hx hb dX7_keep_58 (by decide) ?_
    refine lv_aload_n hx hb dX7_keep_61 rfl (lv_at hl 0 rfl) ?_
    refine getM 3 hx hb hts hown hK hG (by decide) qF_X7_30 rfl dX7_keep_62 ?_
    refine topN (n := (sc F)) hc.1 ?_
    refine imulN (a := 241) (b := (sc F)) hx hb dX7_keep_65 ?_
    refine gcSv (As := [.ref (o + 1), .int 0, .ref (o + 3), .int (nI (241 * (sc F)))]) (rest := []) hx hb hml hown hts hl.1 hK (c_X7_bring_mv l D o P S V T F h 0 (241 * (sc F)) (by first | assumption | omega) (by first | assumption | omega)) (gaS qM_X7_33 qT_X7_bring qK_X7 qC_X7_bring) hds_X7_bring_mv ⟨Nat.le_of_ble_eq_true rfl, Nat.le_of_ble_eq_true rfl⟩ hG rfl (Nat.le_of_ble_eq_true rfl) ⟨Nat.zero_le _, Nat.zero_le _⟩ dX7_keep_66 hS hA (fun H locs hG _ _ hS => ?_)
    have hG : Md D o P S (fV_X7_bring_mv P V 0 (241 * (sc F))) T F h H := hG
    generalize eV1 : fV_X7_bring_mv P V 0 (241 * (sc F)) = V1 at hG
    refine lv_aload_n hx hb dX7_keep_69 rfl (lv_at hl 0 rfl) ?_
    refine lv_dup hx hb dX7_keep_70 rfl ?_
    refine getM 3 hx hb hts hown hK hG (by decide) qF_X7_30 rfl dX7_keep_71 ?_
    refine topN (n := (sc F)) hc.1 ?_
    refine lv_iconst (v := 1) hx hb dX7_keep_74 (by decide) ?_
    refine iaddN (a := (sc F)) (b := 1) hx hb dX7_keep_75 ?_
    refine putM 3 hx hb hts hown hK hG hS hA (by decide) qF_X7_30 rfl dX7_keep_76 (fun H locs hG hS => ?_)
    generalize eF2 : upd F 3 (nI ((sc F) + 1)) = F2 at hG
    subst eF2
    subst eV1
    have hG9 : Md D o P S (fV_X7_keep P V F) T (fF_X7_keep P V F) h H := by
      unfold fV_X7_keep; (try dsimp only); (try rw [if_neg c5])
      unfold fF_X7_keep; (try dsimp only); (try rw [if_neg c5])
      exact hG
    exact W.vret hx hb hr (fun t ht hW => gQv_of hG9 hS ht) hS.2.2 dX7_keep_79
  · have c5 : (sc F) = 4 := (nI_eq (a := (sc F)) (b := 4) (by omega) (by omega)).mp c5
    refine lv_iconst (v := 0) hx hb dX7_keep_8 (by decide) ?_
    refine lv_istore_n (lv' := [(1, .int 0), (0, .ref o)]) hx hb dX7_keep_9 rfl hl (by decide) rfl (fun ls hl => ?_)
    exact L10 723 0 _ _ _ _ _ rfl c5 (by first | assumption | omega) (by unfold fV_X7_keep; (try dsimp only); (try rw [if_pos c5]); (try rfl)) (by unfold fF_X7_keep; (try dsimp only); (try rw [if_pos c5]); (try rfl)) hG hS (lv_sub hl [1, 0] rfl)
theorem hdv_X7_isStreet : yX7_isStreet.cls = RX7 ∧ yX7_isStreet.cls ≠ "java/lang/invoke/MethodHandle" ∧ yX7_isStreet.cls ≠ "java/lang/invoke/VarHandle" ∧ (parseMethodDescriptor yX7_isStreet.desc).map (fun d => d.parameters.length) = some 1 := by decide +kernel
def fR_X7_isStreet (P : Nat → Int32) (x : Int32) : Int32 :=
  fR_X7_in x 0 ((P 1) - 1)
set_option maxHeartbeats 4000000 in
set_option maxRecDepth 100000 in
theorem c_X7_isStreet (l : Launch) (D : va_G) (o : Nat) (P S V T F : Nat → Int32) (h : Int64) (x : Int32) : Met l yX7_isStreet (wA yX7_isStreet cX7_isStreet 2 (some .boolean)) (rmL 1) (gPc D [.ref o, .int x] (fun H => Md D o P S V T F h H)) (gQi (inM o) (fR_X7_isStreet P x) (fun H => Md D o P S V T F h H)) 0 0 (inM o) := by
  refine Met.ofW (cc := cX7_isStreet) (maxL := 2) (ret := (some .boolean)) (by decide) rfl ?_
  intro p e s m args below meth c s₁ B hml hv
  obtain ⟨hav, hG, hK⟩ := hv
  have hx := B.exec
  have hb := B.bytes
  have hr := B.returns
  have hts0 := atoms_spec (ws := wA yX7_isStreet cX7_isStreet 2 (some .boolean)) B.pre
  have hts : ∀ w ∈ AW, w.before _ s = true := fun w h => hts0 w (List.mem_cons_of_mem _ h)
  have hown : s.vm.findClass RX7 = some m.cls := findClass_of_methodNamed B.named
  have hlocks := B.notSynchronized
  have hA : ∀ q, (inM o) q → (inM o) q := fun _ h => h
  have hS : va_S (inM o) s.heap s.heap [] := va_S.rf
  have hG : Md D o P S V T F h s.heap := hG
  have hl := lv_entry ([.ref o, .int x]) (n := 2) (Nat.le_of_ble_eq_true rfl)
  refine W.eq (g2 := entryFrame m ([.ref o, .int x] : List Value).toArray 2) (by rw [hav]) ?_
  rw [lg_entry_eq]
  generalize (lg_sl ([.ref o, .int x]) ++ List.replicate (2 - (lg_sl ([.ref o, .int x])).length) Slot.unset).toArray = ls at hl ⊢
  have hl : lv_has ls 2 [(0, .ref o), (1, .int x)] := hl
  refine lv_iload_n hx hb dX7_isStreet_0 rfl (lv_at hl 1 rfl) ?_
  refine lv_iconst (v := 0) hx hb dX7_isStreet_1 (by decide) ?_
  refine lv_aload_n hx hb dX7_isStreet_2 rfl (lv_at hl 0 rfl) ?_
  refine getMm hx hb hts hown hK hG qF_X7_7 dX7_isStreet_3 ?_
  refine lv_iconst (v := 1) hx hb dX7_isStreet_6 (by decide) ?_
  refine aldMm (k := 1) hx hb hK hG (by omega) dX7_isStreet_7 ?_
  refine lv_iconst (v := 1) hx hb dX7_isStreet_8 (by decide) ?_
  refine lv_isub hx hb dX7_isStreet_9 ?_
  refine gcSi (As := [.int x, .int 0, .int ((P 1) - 1)]) (rest := []) hx hb hml hown hts hl.1 hK (c_X7_in l D (fun H => Md D o P S V T F h H) x 0 ((P 1) - 1)) (gaS qM_X7_37 qT_X7_in qK_X7 qC_X7_in) hds_X7_in ⟨Nat.le_of_ble_eq_true rfl, Nat.le_of_ble_eq_true rfl⟩ hG rfl (Nat.le_of_ble_eq_true rfl) ⟨Nat.zero_le _, Nat.zero_le _⟩ dX7_isStreet_10 hS (fun _ (h : noA _) => False.elim h) (fun H locs hG _ _ hS => ?_)
  have hG : Md D o P S V T F h H := hG
  have hG9 := hG
  exact W.zret hx hb hr (by first | rfl | exact nb_of in_b) (fun t ht hW => gQi_of (by unfold fR_X7_isStreet; (try dsimp only); (try rfl)) hG9 hS ht) hS.2.2 dX7_isStreet_13
theorem hdv_X7_isPlow : yX7_isPlow.cls = RX7 ∧ yX7_isPlow.cls ≠ "java/lang/invoke/MethodHandle" ∧ yX7_isPlow.cls ≠ "java/lang/invoke/VarHandle" ∧ (parseMethodDescriptor yX7_isPlow.desc).map (fun d => d.parameters.length) = some 1 := by decide +kernel
def fR_X7_isPlow (P : Nat → Int32) (x : Int32) : Int32 :=
  fR_X7_in x 0 ((P 2) - 1)
set_option maxHeartbeats 4000000 in
set_option maxRecDepth 100000 in
theorem c_X7_isPlow (l : Launch) (D : va_G) (o : Nat) (P S V T F : Nat → Int32) (h : Int64) (x : Int32) : Met l yX7_isPlow (wA yX7_isPlow cX7_isPlow 2 (some .boolean)) (rmL 1) (gPc D [.ref o, .int x] (fun H => Md D o P S V T F h H)) (gQi (inM o) (fR_X7_isPlow P x) (fun H => Md D o P S V T F h H)) 0 0 (inM o) := by
  refine Met.ofW (cc := cX7_isPlow) (maxL := 2) (ret := (some .boolean)) (by decide) rfl ?_
  intro p e s m args below meth c s₁ B hml hv
  obtain ⟨hav, hG, hK⟩ := hv
  have hx := B.exec
  have hb := B.bytes
  have hr := B.returns
  have hts0 := atoms_spec (ws := wA yX7_isPlow cX7_isPlow 2 (some .boolean)) B.pre
  have hts : ∀ w ∈ AW, w.before _ s = true := fun w h => hts0 w (List.mem_cons_of_mem _ h)
  have hown : s.vm.findClass RX7 = some m.cls := findClass_of_methodNamed B.named
  have hlocks := B.notSynchronized
  have hA : ∀ q, (inM o) q → (inM o) q := fun _ h => h
  have hS : va_S (inM o) s.heap s.heap [] := va_S.rf
  have hG : Md D o P S V T F h s.heap := hG
  have hl := lv_entry ([.ref o, .int x]) (n := 2) (Nat.le_of_ble_eq_true rfl)
  refine W.eq (g2 := entryFrame m ([.ref o, .int x] : List Value).toArray 2) (by rw [hav]) ?_
  rw [lg_entry_eq]
  generalize (lg_sl ([.ref o, .int x]) ++ List.replicate (2 - (lg_sl ([.ref o, .int x])).length) Slot.unset).toArray = ls at hl ⊢
  have hl : lv_has ls 2 [(0, .ref o), (1, .int x)] := hl
  refine lv_iload_n hx hb dX7_isPlow_0 rfl (lv_at hl 1 rfl) ?_
  refine lv_iconst (v := 0) hx hb dX7_isPlow_1 (by decide) ?_
  refine lv_aload_n hx hb dX7_isPlow_2 rfl (lv_at hl 0 rfl) ?_
  refine getMm hx hb hts hown hK hG qF_X7_7 dX7_isPlow_3 ?_
  refine lv_iconst (v := 2) hx hb dX7_isPlow_6 (by decide) ?_
  refine aldMm (k := 2) hx hb hK hG (by omega) dX7_isPlow_7 ?_
  refine lv_iconst (v := 1) hx hb dX7_isPlow_8 (by decide) ?_
  refine lv_isub hx hb dX7_isPlow_9 ?_
  refine gcSi (As := [.int x, .int 0, .int ((P 2) - 1)]) (rest := []) hx hb hml hown hts hl.1 hK (c_X7_in l D (fun H => Md D o P S V T F h H) x 0 ((P 2) - 1)) (gaS qM_X7_37 qT_X7_in qK_X7 qC_X7_in) hds_X7_in ⟨Nat.le_of_ble_eq_true rfl, Nat.le_of_ble_eq_true rfl⟩ hG rfl (Nat.le_of_ble_eq_true rfl) ⟨Nat.zero_le _, Nat.zero_le _⟩ dX7_isPlow_10 hS (fun _ (h : noA _) => False.elim h) (fun H locs hG _ _ hS => ?_)
  have hG : Md D o P S V T F h H := hG
  have hG9 := hG
  exact W.zret hx hb hr (by first | rfl | exact nb_of in_b) (fun t ht hW => gQi_of (by unfold fR_X7_isPlow; (try dsimp only); (try rfl)) hG9 hS ht) hS.2.2 dX7_isPlow_13
theorem hdv_X7_layTerms : yX7_layTerms.cls = RX7 ∧ yX7_layTerms.cls ≠ "java/lang/invoke/MethodHandle" ∧ yX7_layTerms.cls ≠ "java/lang/invoke/VarHandle" ∧ (parseMethodDescriptor yX7_layTerms.desc).map (fun d => d.parameters.length) = some 4 := by decide +kernel
def fP_X7_layTerms (P : Nat → Int32) (r : Nat) (tr : Int32) (li : Int32) (cr : Int32) : Nat → Int32 :=
  let P1 := upd P (229 + 4 * r + 0) tr
  let P2 := upd P1 (229 + 4 * r + 1) li
  let P3 := upd P2 (229 + 4 * r + 2) cr
  P3
set_option maxHeartbeats 4000000 in
set_option maxRecDepth 100000 in
theorem c_X7_layTerms (l : Launch) (D : va_G) (o : Nat) (P S V T F : Nat → Int32) (h : Int64) (r : Nat) (tr : Int32) (li : Int32) (cr : Int32) (hr3 : r < 3) : Met l yX7_layTerms (wA yX7_layTerms cX7_layTerms 5 none) (rmL 0) (gPc D [.ref o, .int (nI r), .int tr, .int li, .int cr] (fun H => Md D o P S V T F h H)) (gQv (inM o) (fun H => Md D o (fP_X7_layTerms P r tr li cr) S V T F h H)) 0 0 (inM o) := by
  refine Met.ofW (cc := cX7_layTerms) (maxL := 5) (ret := none) (by decide) rfl ?_
  intro p e s m args below meth c s₁ B hml hv
  obtain ⟨hav, hG, hK⟩ := hv
  have hx := B.exec
  have hb := B.bytes
  have hr := B.returns
  have hts0 := atoms_spec (ws := wA yX7_layTerms cX7_layTerms 5 none) B.pre
  have hts : ∀ w ∈ AW, w.before _ s = true := fun w h => hts0 w (List.mem_cons_of_mem _ h)
  have hown : s.vm.findClass RX7 = some m.cls := findClass_of_methodNamed B.named
  have hlocks := B.notSynchronized
  have hA : ∀ q, (inM o) q → (inM o) q := fun _ h => h
  have hS : va_S (inM o) s.heap s.heap [] := va_S.rf
  have hG : Md D o P S V T F h s.heap := hG
  have hl := lv_entry ([.ref o, .int (nI r), .int tr, .int li, .int cr]) (n := 5) (Nat.le_of_ble_eq_true rfl)
  refine W.eq (g2 := entryFrame m ([.ref o, .int (nI r), .int tr, .int li, .int cr] : List Value).toArray 5) (by rw [hav]) ?_
  rw [lg_entry_eq]
  generalize (lg_sl ([.ref o, .int (nI r), .int tr, .int li, .int cr]) ++ List.replicate (5 - (lg_sl ([.ref o, .int (nI r), .int tr, .int li, .int cr])).length) Slot.unset).toArray = ls at hl ⊢
  have hl : lv_has ls 5 [(0, .ref o), (1, .int (nI r)), (2, .int tr), (3, .int li), (4, .int cr)] := hl
  refine lv_aload_n hx hb dX7_layTerms_0 rfl (lv_at hl 0 rfl) ?_
  refine getMm hx hb hts hown hK hG qF_X7_7 dX7_layTerms_1 ?_
  refine lv_sipush (v := 229) hx hb dX7_layTerms_4 (by decide) ?_
  refine lv_iconst (v := 4) hx hb dX7_layTerms_7 (by decide) ?_
  refine lv_iload_n hx hb dX7_layTerms_8 rfl (lv_at hl 1 rfl) ?_
  refine imulN (a := 4) (b := r) hx hb dX7_layTerms_9 ?_
  refine iaddN (a := 229) (b := 4 * r) hx hb dX7_layTerms_10 ?_
  refine lv_iconst (v := 0) hx hb dX7_layTerms_11 (by decide) ?_
  refine iaddN (a := 229 + 4 * r) (b := 0) hx hb dX7_layTerms_12 ?_
  refine lv_iload_n hx hb dX7_layTerms_13 rfl (lv_at hl 2 rfl) ?_
  refine astMm (k := 229 + 4 * r + 0) hx hb hK hG hS hA (by omega) dX7_layTerms_14 (fun H locs hG hS => ?_)
  generalize eP1 : upd P (229 + 4 * r + 0) tr = P1 at hG
  refine lv_aload_n hx hb dX7_layTerms_15 rfl (lv_at hl 0 rfl) ?_
  refine getMm hx hb hts hown hK hG qF_X7_7 dX7_layTerms_16 ?_
  refine lv_sipush (v := 229) hx hb dX7_layTerms_19 (by decide) ?_
  refine lv_iconst (v := 4) hx hb dX7_layTerms_22 (by decide) ?_
  refine lv_iload_n hx hb dX7_layTerms_23 rfl (lv_at hl 1 rfl) ?_
  refine imulN (a := 4) (b := r) hx hb dX7_layTerms_24 ?_
  refine iaddN (a := 229) (b := 4 * r) hx hb dX7_layTerms_25 ?_
  refine lv_iconst (v := 1) hx hb dX7_layTerms_26 (by decide) ?_
  refine iaddN (a := 229 + 4 * r) (b := 1) hx hb dX7_layTerms_27 ?_
  refine lv_iload_n hx hb dX7_layTerms_28 rfl (lv_at hl 3 rfl) ?_
  refine astMm (k := 229 + 4 * r + 1) hx hb hK hG hS hA (by omega) dX7_layTerms_29 (fun H locs hG hS => ?_)
  generalize eP2 : upd P1 (229 + 4 * r + 1) li = P2 at hG
  refine lv_aload_n hx hb dX7_layTerms_30 rfl (lv_at hl 0 rfl) ?_
  refine getMm hx hb hts hown hK hG qF_X7_7 dX7_layTerms_31 ?_
  refine lv_sipush (v := 229) hx hb dX7_layTerms_34 (by decide) ?_
  refine lv_iconst (v := 4) hx hb dX7_layTerms_37 (by decide) ?_
  refine lv_iload_n hx hb dX7_layTerms_38 rfl (lv_at hl 1 rfl) ?_
  refine imulN (a := 4) (b := r) hx hb dX7_layTerms_39 ?_
  refine iaddN (a := 229) (b := 4 * r) hx hb dX7_layTerms_40 ?_
  refine lv_iconst (v := 2) hx hb dX7_layTerms_41 (by decide) ?_
  refine iaddN (a := 229 + 4 * r) (b := 2) hx hb dX7_layTerms_42 ?_
  refine lv_iload hx hb dX7_layTerms_43 (lv_at hl 4 rfl) ?_
  refine astMm (k := 229 + 4 * r + 2) hx hb hK hG hS hA (by omega) dX7_layTerms_45 (fun H locs hG hS => ?_)
  generalize eP3 : upd P2 (229 + 4 * r + 2) cr = P3 at hG
  subst eP3
  subst eP2
  subst eP1
  have hG9 : Md D o (fP_X7_layTerms P r tr li cr) S V T F h H := by
    unfold fP_X7_layTerms; (try dsimp only)
    exact hG
  exact W.vret hx hb hr (fun t ht hW => gQv_of hG9 hS ht) hS.2.2 dX7_layTerms_46
theorem hdv_X7_isPair : yX7_isPair.cls = RX7 ∧ yX7_isPair.cls ≠ "java/lang/invoke/MethodHandle" ∧ yX7_isPair.cls ≠ "java/lang/invoke/VarHandle" ∧ (parseMethodDescriptor yX7_isPair.desc).map (fun d => d.parameters.length) = some 2 := by decide +kernel
def fR_X7_isPair (P : Nat → Int32) (q : Nat) (x : Int32) : Int32 :=
  fR_X7_in x 0 ((fR_X7_ofPlow P q 3) - 2)
set_option maxHeartbeats 4000000 in
set_option maxRecDepth 100000 in
theorem c_X7_isPair (l : Launch) (D : va_G) (o : Nat) (P S V T F : Nat → Int32) (h : Int64) (q : Nat) (x : Int32) (hq : q < 3) : Met l yX7_isPair (wA yX7_isPair cX7_isPair 3 (some .boolean)) (rmL 1) (gPc D [.ref o, .int (nI q), .int x] (fun H => Md D o P S V T F h H)) (gQi (inM o) (fR_X7_isPair P q x) (fun H => Md D o P S V T F h H)) 0 0 (inM o) := by
  refine Met.ofW (cc := cX7_isPair) (maxL := 3) (ret := (some .boolean)) (by decide) rfl ?_
  intro p e s m args below meth c s₁ B hml hv
  obtain ⟨hav, hG, hK⟩ := hv
  have hx := B.exec
  have hb := B.bytes
  have hr := B.returns
  have hts0 := atoms_spec (ws := wA yX7_isPair cX7_isPair 3 (some .boolean)) B.pre
  have hts : ∀ w ∈ AW, w.before _ s = true := fun w h => hts0 w (List.mem_cons_of_mem _ h)
  have hown : s.vm.findClass RX7 = some m.cls := findClass_of_methodNamed B.named
  have hlocks := B.notSynchronized
  have hA : ∀ q, (inM o) q → (inM o) q := fun _ h => h
  have hS : va_S (inM o) s.heap s.heap [] := va_S.rf
  have hG : Md D o P S V T F h s.heap := hG
  have hl := lv_entry ([.ref o, .int (nI q), .int x]) (n := 3) (Nat.le_of_ble_eq_true rfl)
  refine W.eq (g2 := entryFrame m ([.ref o, .int (nI q), .int x] : List Value).toArray 3) (by rw [hav]) ?_
  rw [lg_entry_eq]
  generalize (lg_sl ([.ref o, .int (nI q), .int x]) ++ List.replicate (3 - (lg_sl ([.ref o, .int (nI q), .int x])).length) Slot.unset).toArray = ls at hl ⊢
  have hl : lv_has ls 3 [(0, .ref o), (1, .int (nI q)), (2, .int x)] := hl
  refine lv_iload_n hx hb dX7_isPair_0 rfl (lv_at hl 2 rfl) ?_
  refine lv_iconst (v := 0) hx hb dX7_isPair_1 (by decide) ?_
  refine lv_aload_n hx hb dX7_isPair_2 rfl (lv_at hl 0 rfl) ?_
  refine lv_iload_n hx hb dX7_isPair_3 rfl (lv_at hl 1 rfl) ?_
  refine lv_iconst (v := 3) hx hb dX7_isPair_4 (by decide) ?_
  refine gcVi (As := [.int (nI q), .int 3]) (rest := [.int 0, .int x]) hx hb hml hown hts hl.1 hK (c_X7_ofPlow l D o P S V T F h q 3 (by first | assumption | omega) (by first | assumption | omega)) (gaV qM_X7_58 qI_X7_ofPlow qS_X7_ofPlow qK_X7 qC_X7_ofPlow) hdv_X7_ofPlow ⟨Nat.le_of_ble_eq_true rfl, Nat.le_of_ble_eq_true rfl⟩ hG (hG.recv hK) rfl (Nat.le_of_ble_eq_true rfl) ⟨Nat.zero_le _, Nat.zero_le _⟩ dX7_isPair_5 hS hA (fun H locs hG _ _ hS => ?_)
  have hG : Md D o P S V T F h H := hG
  refine lv_iconst (v := 2) hx hb dX7_isPair_8 (by decide) ?_
  refine lv_isub hx hb dX7_isPair_9 ?_
  refine gcSi (As := [.int x, .int 0, .int ((fR_X7_ofPlow P q 3) - 2)]) (rest := []) hx hb hml hown hts hl.1 hK (c_X7_in l D (fun H => Md D o P S V T F h H) x 0 ((fR_X7_ofPlow P q 3) - 2)) (gaS qM_X7_37 qT_X7_in qK_X7 qC_X7_in) hds_X7_in ⟨Nat.le_of_ble_eq_true rfl, Nat.le_of_ble_eq_true rfl⟩ hG rfl (Nat.le_of_ble_eq_true rfl) ⟨Nat.zero_le _, Nat.zero_le _⟩ dX7_isPair_10 hS (fun _ (h : noA _) => False.elim h) (fun H locs hG _ _ hS => ?_)
  have hG : Md D o P S V T F h H := hG
  have hG9 := hG
  exact W.zret hx hb hr (by first | rfl | exact nb_of in_b) (fun t ht hW => gQi_of (by unfold fR_X7_isPair; (try dsimp only); (try rfl)) hG9 hS ht) hS.2.2 dX7_isPair_13
theorem hdv_X7_isBusy : yX7_isBusy.cls = RX7 ∧ yX7_isBusy.cls ≠ "java/lang/invoke/MethodHandle" ∧ yX7_isBusy.cls ≠ "java/lang/invoke/VarHandle" ∧ (parseMethodDescriptor yX7_isBusy.desc).map (fun d => d.parameters.length) = some 2 := by decide +kernel
def fR_X7_isBusy (P : Nat → Int32) (q : Nat) (x : Int32) : Int32 :=
  if fR_X7_ofPlow P q 5 ≤ 0 then
    0
  else
    if fR_X7_in (fR_X7_ofPlow P q 4) x (x + 1) = 0 then
      0
    else
      1
set_option maxHeartbeats 4000000 in
set_option maxRecDepth 100000 in
theorem c_X7_isBusy (l : Launch) (D : va_G) (o : Nat) (P S V T F : Nat → Int32) (h : Int64) (q : Nat) (x : Int32) (hq : q < 3) : Met l yX7_isBusy (wA yX7_isBusy cX7_isBusy 3 (some .boolean)) (rmL 1) (gPc D [.ref o, .int (nI q), .int x] (fun H => Md D o P S V T F h H)) (gQi (inM o) (fR_X7_isBusy P q x) (fun H => Md D o P S V T F h H)) 0 0 (inM o) := by
  refine Met.ofW (cc := cX7_isBusy) (maxL := 3) (ret := (some .boolean)) (by decide) rfl ?_
  intro p e s m args below meth c s₁ B hml hv
  obtain ⟨hav, hG, hK⟩ := hv
  have hx := B.exec
  have hb := B.bytes
  have hr := B.returns
  have hts0 := atoms_spec (ws := wA yX7_isBusy cX7_isBusy 3 (some .boolean)) B.pre
  have hts : ∀ w ∈ AW, w.before _ s = true := fun w h => hts0 w (List.mem_cons_of_mem _ h)
  have hown : s.vm.findClass RX7 = some m.cls := findClass_of_methodNamed B.named
  have hlocks := B.notSynchronized
  have hA : ∀ q, (inM o) q → (inM o) q := fun _ h => h
  have hS : va_S (inM o) s.heap s.heap [] := va_S.rf
  have hG : Md D o P S V T F h s.heap := hG
  have hl := lv_entry ([.ref o, .int (nI q), .int x]) (n := 3) (Nat.le_of_ble_eq_true rfl)
  refine W.eq (g2 := entryFrame m ([.ref o, .int (nI q), .int x] : List Value).toArray 3) (by rw [hav]) ?_
  rw [lg_entry_eq]
  generalize (lg_sl ([.ref o, .int (nI q), .int x]) ++ List.replicate (3 - (lg_sl ([.ref o, .int (nI q), .int x])).length) Slot.unset).toArray = ls at hl ⊢
  have hl : lv_has ls 3 [(0, .ref o), (1, .int (nI q)), (2, .int x)] := hl
  refine lv_aload_n hx hb dX7_isBusy_0 rfl (lv_at hl 0 rfl) ?_
  refine lv_iload_n hx hb dX7_isBusy_1 rfl (lv_at hl 1 rfl) ?_
  refine lv_iconst (v := 5) hx hb dX7_isBusy_2 (by decide) ?_
  refine gcVi (As := [.int (nI q), .int 5]) (rest := []) hx hb hml hown hts hl.1 hK (c_X7_ofPlow l D o P S V T F h q 5 (by first | assumption | omega) (by first | assumption | omega)) (gaV qM_X7_58 qI_X7_ofPlow qS_X7_ofPlow qK_X7 qC_X7_ofPlow) hdv_X7_ofPlow ⟨Nat.le_of_ble_eq_true rfl, Nat.le_of_ble_eq_true rfl⟩ hG (hG.recv hK) rfl (Nat.le_of_ble_eq_true rfl) ⟨Nat.zero_le _, Nat.zero_le _⟩ dX7_isBusy_3 hS hA (fun H locs hG _ _ hS => ?_)
  have hG : Md D o P S V T F h H := hG
  refine lv_if_le (tgt := 29) hx hb dX7_isBusy_6 (by decide) (fun c6 => ?_) (fun c6 => ?_)
  · refine lv_iconst (v := 0) hx hb dX7_isBusy_29 (by decide) ?_
    have hG9 := hG
    exact W.zret hx hb hr (by first | rfl | exact nb_of in_b) (fun t ht hW => gQi_of (by unfold fR_X7_isBusy; (try dsimp only); (try rw [if_pos c6]); (try rfl)) hG9 hS ht) hS.2.2 dX7_isBusy_30
  · refine lv_aload_n hx hb dX7_isBusy_9 rfl (lv_at hl 0 rfl) ?_
    refine lv_iload_n hx hb dX7_isBusy_10 rfl (lv_at hl 1 rfl) ?_
    refine lv_iconst (v := 4) hx hb dX7_isBusy_11 (by decide) ?_
    refine gcVi (As := [.int (nI q), .int 4]) (rest := []) hx hb hml hown hts hl.1 hK (c_X7_ofPlow l D o P S V T F h q 4 (by first | assumption | omega) (by first | assumption | omega)) (gaV qM_X7_58 qI_X7_ofPlow qS_X7_ofPlow qK_X7 qC_X7_ofPlow) hdv_X7_ofPlow ⟨Nat.le_of_ble_eq_true rfl, Nat.le_of_ble_eq_true rfl⟩ hG (hG.recv hK) rfl (Nat.le_of_ble_eq_true rfl) ⟨Nat.zero_le _, Nat.zero_le _⟩ dX7_isBusy_12 hS hA (fun H locs hG _ _ hS => ?_)
    have hG : Md D o P S V T F h H := hG
    refine lv_iload_n hx hb dX7_isBusy_15 rfl (lv_at hl 2 rfl) ?_
    refine lv_iload_n hx hb dX7_isBusy_16 rfl (lv_at hl 2 rfl) ?_
    refine lv_iconst (v := 1) hx hb dX7_isBusy_17 (by decide) ?_
    refine lv_iadd hx hb dX7_isBusy_18 ?_
    refine gcSi (As := [.int (fR_X7_ofPlow P q 4), .int x, .int (x + 1)]) (rest := []) hx hb hml hown hts hl.1 hK (c_X7_in l D (fun H => Md D o P S V T F h H) (fR_X7_ofPlow P q 4) x (x + 1)) (gaS qM_X7_37 qT_X7_in qK_X7 qC_X7_in) hds_X7_in ⟨Nat.le_of_ble_eq_true rfl, Nat.le_of_ble_eq_true rfl⟩ hG rfl (Nat.le_of_ble_eq_true rfl) ⟨Nat.zero_le _, Nat.zero_le _⟩ dX7_isBusy_19 hS (fun _ (h : noA _) => False.elim h) (fun H locs hG _ _ hS => ?_)
    have hG : Md D o P S V T F h H := hG
    refine lv_if_eq (tgt := 29) hx hb dX7_isBusy_22 (by decide) (fun c22 => ?_) (fun c22 => ?_)
    · refine lv_iconst (v := 0) hx hb dX7_isBusy_29 (by decide) ?_
      have hG9 := hG
      exact W.zret hx hb hr (by first | rfl | exact nb_of in_b) (fun t ht hW => gQi_of (by unfold fR_X7_isBusy; (try dsimp only); (try rw [if_neg c6, if_pos c22]); (try rfl)) hG9 hS ht) hS.2.2 dX7_isBusy_30
    · refine lv_iconst (v := 1) hx hb dX7_isBusy_25 (by decide) ?_
      refine lv_goto (tgt := 30) hx hb dX7_isBusy_26 (by decide) ?_
      have hG9 := hG
      exact W.zret hx hb hr (by first | rfl | exact nb_of in_b) (fun t ht hW => gQi_of (by unfold fR_X7_isBusy; (try dsimp only); (try rw [if_neg c6, if_neg c22]); (try rfl)) hG9 hS ht) hS.2.2 dX7_isBusy_30
theorem hdv_X7_exchanges : yX7_exchanges.cls = RX7 ∧ yX7_exchanges.cls ≠ "java/lang/invoke/MethodHandle" ∧ yX7_exchanges.cls ≠ "java/lang/invoke/VarHandle" ∧ (parseMethodDescriptor yX7_exchanges.desc).map (fun d => d.parameters.length) = some 2 := by decide +kernel
def fP_X7_exchanges (P : Nat → Int32) (q : Nat) (k : Nat) : Nat → Int32 :=
  let x1 := P (169 + 20 * q + 8 + k)
  let x2 := P (169 + 20 * q + 8 + k + 1)
  let P3 := upd P (169 + 20 * q + 8 + k) x2
  let P4 := upd P3 (169 + 20 * q + 8 + k + 1) x1
  P4
def fR_X7_exchanges (P : Nat → Int32) (q : Nat) (k : Nat) : Int32 :=
  let x1 := P (169 + 20 * q + 8 + k)
  let x2 := P (169 + 20 * q + 8 + k + 1)
  let P3 := upd P (169 + 20 * q + 8 + k) x2
  let P4 := upd P3 (169 + 20 * q + 8 + k + 1) x1
  P4 (169 + 20 * q + 8 + k)
set_option maxHeartbeats 4000000 in
set_option maxRecDepth 100000 in
theorem c_X7_exchanges (l : Launch) (D : va_G) (o : Nat) (P S V T F : Nat → Int32) (h : Int64) (q : Nat) (k : Nat) (hq : q < 3) (hk : k + 1 < 12) : Met l yX7_exchanges (wA yX7_exchanges cX7_exchanges 5 (some .int)) (rmL 0) (gPc D [.ref o, .int (nI q), .int (nI k)] (fun H => Md D o P S V T F h H)) (gQi (inM o) (fR_X7_exchanges P q k) (fun H => Md D o (fP_X7_exchanges P q k) S V T F h H)) 0 0 (inM o) := by
  refine Met.ofW (cc := cX7_exchanges) (maxL := 5) (ret := (some .int)) (by decide) rfl ?_
  intro p e s m args below meth c s₁ B hml hv
  obtain ⟨hav, hG, hK⟩ := hv
  have hx := B.exec
  have hb := B.bytes
  have hr := B.returns
  have hts0 := atoms_spec (ws := wA yX7_exchanges cX7_exchanges 5 (some .int)) B.pre
  have hts : ∀ w ∈ AW, w.before _ s = true := fun w h => hts0 w (List.mem_cons_of_mem _ h)
  have hown : s.vm.findClass RX7 = some m.cls := findClass_of_methodNamed B.named
  have hlocks := B.notSynchronized
  have hA : ∀ q, (inM o) q → (inM o) q := fun _ h => h
  have hS : va_S (inM o) s.heap s.heap [] := va_S.rf
  have hG : Md D o P S V T F h s.heap := hG
  have hl := lv_entry ([.ref o, .int (nI q), .int (nI k)]) (n := 5) (Nat.le_of_ble_eq_true rfl)
  refine W.eq (g2 := entryFrame m ([.ref o, .int (nI q), .int (nI k)] : List Value).toArray 5) (by rw [hav]) ?_
  rw [lg_entry_eq]
  generalize (lg_sl ([.ref o, .int (nI q), .int (nI k)]) ++ List.replicate (5 - (lg_sl ([.ref o, .int (nI q), .int (nI k)])).length) Slot.unset).toArray = ls at hl ⊢
  have hl : lv_has ls 5 [(0, .ref o), (1, .int (nI q)), (2, .int (nI k))] := hl
  refine lv_sipush (v := 169) hx hb dX7_exchanges_0 (by decide) ?_
  refine lv_bipush (v := 20) hx hb dX7_exchanges_3 (by decide) ?_
  refine lv_iload_n hx hb dX7_exchanges_5 rfl (lv_at hl 1 rfl) ?_
  refine imulN (a := 20) (b := q) hx hb dX7_exchanges_6 ?_
  refine iaddN (a := 169) (b := 20 * q) hx hb dX7_exchanges_7 ?_
  refine lv_bipush (v := 8) hx hb dX7_exchanges_8 (by decide) ?_
  refine iaddN (a := 169 + 20 * q) (b := 8) hx hb dX7_exchanges_10 ?_
  refine lv_iload_n hx hb dX7_exchanges_11 rfl (lv_at hl 2 rfl) ?_
  refine iaddN (a := 169 + 20 * q + 8) (b := k) hx hb dX7_exchanges_12 ?_
  refine lv_istore_n (lv' := [(3, .int (nI (169 + 20 * q + 8 + k))), (0, .ref o), (1, .int (nI q)), (2, .int (nI k))]) hx hb dX7_exchanges_13 rfl hl (by decide) rfl (fun ls hl => ?_)
  refine lv_aload_n hx hb dX7_exchanges_14 rfl (lv_at hl 1 rfl) ?_
  refine getMm hx hb hts hown hK hG qF_X7_7 dX7_exchanges_15 ?_
  refine lv_iload_n hx hb dX7_exchanges_18 rfl (lv_at hl 0 rfl) ?_
  refine aldMm (k := 169 + 20 * q + 8 + k) hx hb hK hG (by omega) dX7_exchanges_19 ?_
  refine lv_topi (fun x1 ex1 => ?_)
  refine lv_istore (lv' := [(4, .int x1), (3, .int (nI (169 + 20 * q + 8 + k))), (0, .ref o), (1, .int (nI q)), (2, .int (nI k))]) hx hb dX7_exchanges_20 hl (by decide) rfl (fun ls hl => ?_)
  refine lv_aload_n hx hb dX7_exchanges_22 rfl (lv_at hl 2 rfl) ?_
  refine getMm hx hb hts hown hK hG qF_X7_7 dX7_exchanges_23 ?_
  refine lv_iload_n hx hb dX7_exchanges_26 rfl (lv_at hl 1 rfl) ?_
  refine lv_aload_n hx hb dX7_exchanges_27 rfl (lv_at hl 2 rfl) ?_
  refine getMm hx hb hts hown hK hG qF_X7_7 dX7_exchanges_28 ?_
  refine lv_iload_n hx hb dX7_exchanges_31 rfl (lv_at hl 1 rfl) ?_
  refine lv_iconst (v := 1) hx hb dX7_exchanges_32 (by decide) ?_
  refine iaddN (a := 169 + 20 * q + 8 + k) (b := 1) hx hb dX7_exchanges_33 ?_
  refine aldMm (k := 169 + 20 * q + 8 + k + 1) hx hb hK hG (by omega) dX7_exchanges_34 ?_
  refine lv_topi (fun x2 ex2 => ?_)
  refine astMm (k := 169 + 20 * q + 8 + k) hx hb hK hG hS hA (by omega) dX7_exchanges_35 (fun H locs hG hS => ?_)
  generalize eP3 : upd P (169 + 20 * q + 8 + k) x2 = P3 at hG
  refine lv_aload_n hx hb dX7_exchanges_36 rfl (lv_at hl 2 rfl) ?_
  refine getMm hx hb hts hown hK hG qF_X7_7 dX7_exchanges_37 ?_
  refine lv_iload_n hx hb dX7_exchanges_40 rfl (lv_at hl 1 rfl) ?_
  refine lv_iconst (v := 1) hx hb dX7_exchanges_41 (by decide) ?_
  refine iaddN (a := 169 + 20 * q + 8 + k) (b := 1) hx hb dX7_exchanges_42 ?_
  refine lv_iload hx hb dX7_exchanges_43 (lv_at hl 0 rfl) ?_
  refine astMm (k := 169 + 20 * q + 8 + k + 1) hx hb hK hG hS hA (by omega) dX7_exchanges_45 (fun H locs hG hS => ?_)
  generalize eP4 : upd P3 (169 + 20 * q + 8 + k + 1) x1 = P4 at hG
  refine lv_aload_n hx hb dX7_exchanges_46 rfl (lv_at hl 2 rfl) ?_
  refine getMm hx hb hts hown hK hG qF_X7_7 dX7_exchanges_47 ?_
  refine lv_iload_n hx hb dX7_exchanges_50 rfl (lv_at hl 1 rfl) ?_
  refine aldMm (k := 169 + 20 * q + 8 + k) hx hb hK hG (by omega) dX7_exchanges_51 ?_
  subst eP4
  subst eP3
  subst ex2
  subst ex1
  have hG9 : Md D o (fP_X7_exchanges P q k) S V T F h H := by
    unfold fP_X7_exchanges; (try dsimp only)
    exact hG
  exact W.iret hx hb hr (fun t ht hW => gQi_of (by unfold fR_X7_exchanges; (try dsimp only); (try rfl)) hG9 hS ht) hS.2.2 dX7_exchanges_52
