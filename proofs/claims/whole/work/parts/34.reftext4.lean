theorem hdv_X7_allHours : yX7_allHours.cls = RX7 ∧ yX7_allHours.cls ≠ "java/lang/invoke/MethodHandle" ∧ yX7_allHours.cls ≠ "java/lang/invoke/VarHandle" ∧ (parseMethodDescriptor yX7_allHours.desc).map (fun d => d.parameters.length) = some 0 := by decide +kernel
def fF_X7_allHours_L7 (T : Nat → Int32) : Nat → Int32 → (Nat → Int32) → Nat → Int32
  | 0, acc, Fl =>
    Fl
  | k + 1, acc, Fl =>
    if (tl Fl) ≤ (ta Fl) then
      Fl
    else
      let F2 := fF_X7_readItem T Fl
      if fR_X7_readItem T Fl = 0 then
        F2
      else
        let x3 := acc + (F2 11)
        fF_X7_allHours_L7 T k x3 F2
def fR_X7_allHours_L7 (T : Nat → Int32) : Nat → Int32 → (Nat → Int32) → Int32
  | 0, acc, Fl =>
    acc
  | k + 1, acc, Fl =>
    if (tl Fl) ≤ (ta Fl) then
      acc
    else
      let F2 := fF_X7_readItem T Fl
      if fR_X7_readItem T Fl = 0 then
        (-1)
      else
        let x3 := acc + (F2 11)
        fR_X7_allHours_L7 T k x3 F2
def fF_X7_allHours (T : Nat → Int32) (F : Nat → Int32) : Nat → Int32 :=
  let F1 := upd F 7 0
  fF_X7_allHours_L7 T 150 0 F1
def fR_X7_allHours (T : Nat → Int32) (F : Nat → Int32) : Int32 :=
  let F1 := upd F 7 0
  fR_X7_allHours_L7 T 150 0 F1
set_option maxHeartbeats 4000000 in
set_option maxRecDepth 100000 in
theorem c_X7_allHours (l : Launch) (D : va_G) (o : Nat) (P S V T F : Nat → Int32) (h : Int64) (hT : okT F) : Met l yX7_allHours (wA yX7_allHours cX7_allHours 2 (some .int)) (rmL 4) (gPc D [.ref o] (fun H => Md D o P S V T F h H)) (gQi (inM o) (fR_X7_allHours T F) (fun H => Md D o P S V T (fF_X7_allHours T F) h H)) 0 0 (inM o) := by
  refine Met.ofW (cc := cX7_allHours) (maxL := 2) (ret := (some .int)) (by decide) rfl ?_
  intro p e s m args below meth c s₁ B hml hv
  obtain ⟨hav, hG, hK⟩ := hv
  have hx := B.exec
  have hb := B.bytes
  have hr := B.returns
  have hts0 := atoms_spec (ws := wA yX7_allHours cX7_allHours 2 (some .int)) B.pre
  have hts : ∀ w ∈ AW, w.before _ s = true := fun w h => hts0 w (List.mem_cons_of_mem _ h)
  have hown : s.vm.findClass RX7 = some m.cls := findClass_of_methodNamed B.named
  have hlocks := B.notSynchronized
  have hA : ∀ q, (inM o) q → (inM o) q := fun _ h => h
  have hS : va_S (inM o) s.heap s.heap [] := va_S.rf
  have hG : Md D o P S V T F h s.heap := hG
  have hl := lv_entry ([.ref o]) (n := 2) (Nat.le_of_ble_eq_true rfl)
  refine W.eq (g2 := entryFrame m ([.ref o] : List Value).toArray 2) (by rw [hav]) ?_
  rw [lg_entry_eq]
  generalize (lg_sl ([.ref o]) ++ List.replicate (2 - (lg_sl ([.ref o])).length) Slot.unset).toArray = ls at hl ⊢
  have hl : lv_has ls 2 [(0, .ref o)] := hl
  have L7 : ∀ (k : Nat) (acc : Int32) (Fl : Nat → Int32) (H : Heap) (locs : List Loc) (ls : Array Slot) (hX : okX Fl) (hk : tl Fl - ta Fl ≤ k) (hfF : fF_X7_allHours T F = fF_X7_allHours_L7 T k acc Fl) (hfR : fR_X7_allHours T F = fR_X7_allHours_L7 T k acc Fl) (hG : Md D o P S V T Fl h H) (hS : va_S (inM o) s.heap H locs) (hl : lv_has ls 2 [(0, .ref o), (1, .int acc)]), W p l e (headSpec (wA yX7_allHours cX7_allHours 2 (some .int)) (rmL 4)).room s m args below meth c H locs 0 0 (MQ below (gQi (inM o) (fR_X7_allHours T F) (fun H => Md D o P S V T (fF_X7_allHours T F) h H)) args s 0 0 (inM o)) (F0 m 7 ls []) := by
    intro k
    induction k with
    | zero =>
      intro acc Fl H locs ls hX hk hfF hfR hG hS hl
      have hX2 := hX.1.2
      have hX3 := hX.2.2
      refine lv_aload_n hx hb dX7_allHours_7 rfl (lv_at hl 0 rfl) ?_
      refine getM 7 hx hb hts hown hK hG (by decide) qF_X7_127 rfl dX7_allHours_8 ?_
      refine topN (n := (ta Fl)) hX.2.1 ?_
      refine lv_aload_n hx hb dX7_allHours_11 rfl (lv_at hl 0 rfl) ?_
      refine getM 5 hx hb hts hown hK hG (by decide) qF_X7_124 rfl dX7_allHours_12 ?_
      refine topN (n := (tl Fl)) hX.1.1 ?_
      refine lv_icmp_ge (tgt := 37) hx hb dX7_allHours_15 (by decide) (fun c15 => ?_) (fun c15 => ?_)
      · have c15 : (tl Fl) ≤ (ta Fl) := (nI_leI (a := (tl Fl)) (b := (ta Fl)) (by omega) (by omega)).mp c15
        refine lv_iload_n hx hb dX7_allHours_37 rfl (lv_at hl 1 rfl) ?_
        have hG9 : Md D o P S V T (fF_X7_allHours T F) h H := by
          rw [hfF, fF_X7_allHours_L7]; (try dsimp only)
          exact hG
        exact W.iret hx hb hr (fun t ht hW => gQi_of (by rw [hfR, fR_X7_allHours_L7]; (try dsimp only); (try rfl)) hG9 hS ht) hS.2.2 dX7_allHours_38
      · have c15 : ¬ (tl Fl) ≤ (ta Fl) := fun h => c15 ((nI_leI (a := (tl Fl)) (b := (ta Fl)) (by omega) (by omega)).mpr h)
        exfalso; omega
    | succ k ih =>
      intro acc Fl H locs ls hX hk hfF hfR hG hS hl
      have hX2 := hX.1.2
      have hX3 := hX.2.2
      refine lv_aload_n hx hb dX7_allHours_7 rfl (lv_at hl 0 rfl) ?_
      refine getM 7 hx hb hts hown hK hG (by decide) qF_X7_127 rfl dX7_allHours_8 ?_
      refine topN (n := (ta Fl)) hX.2.1 ?_
      refine lv_aload_n hx hb dX7_allHours_11 rfl (lv_at hl 0 rfl) ?_
      refine getM 5 hx hb hts hown hK hG (by decide) qF_X7_124 rfl dX7_allHours_12 ?_
      refine topN (n := (tl Fl)) hX.1.1 ?_
      refine lv_icmp_ge (tgt := 37) hx hb dX7_allHours_15 (by decide) (fun c15 => ?_) (fun c15 => ?_)
      · have c15 : (tl Fl) ≤ (ta Fl) := (nI_leI (a := (tl Fl)) (b := (ta Fl)) (by omega) (by omega)).mp c15
        refine lv_iload_n hx hb dX7_allHours_37 rfl (lv_at hl 1 rfl) ?_
        have hG9 : Md D o P S V T (fF_X7_allHours T F) h H := by
          rw [hfF, fF_X7_allHours_L7]; (try dsimp only); (try rw [if_pos c15])
          exact hG
        exact W.iret hx hb hr (fun t ht hW => gQi_of (by rw [hfR, fR_X7_allHours_L7]; (try dsimp only); (try rw [if_pos c15]); (try rfl)) hG9 hS ht) hS.2.2 dX7_allHours_38
      · have c15 : ¬ (tl Fl) ≤ (ta Fl) := fun h => c15 ((nI_leI (a := (tl Fl)) (b := (ta Fl)) (by omega) (by omega)).mpr h)
        refine lv_aload_n hx hb dX7_allHours_18 rfl (lv_at hl 0 rfl) ?_
        refine gcVi (As := []) (rest := []) hx hb hml hown hts hl.1 hK (c_X7_readItem l D o P S V T Fl h hX) (gaV qM_X7_155 qI_X7_readItem qS_X7_readItem qK_X7 qC_X7_readItem) hdv_X7_readItem ⟨Nat.le_of_ble_eq_true rfl, Nat.le_of_ble_eq_true rfl⟩ hG (hG.recv hK) rfl (Nat.le_of_ble_eq_true rfl) ⟨Nat.zero_le _, Nat.zero_le _⟩ dX7_allHours_19 hS hA (fun H locs hG _ _ hS => ?_)
        have hG : Md D o P S V T (fF_X7_readItem T Fl) h H := hG
        generalize eF2 : fF_X7_readItem T Fl = F2 at hG
        refine lv_if_ne (tgt := 27) hx hb dX7_allHours_22 (by decide) (fun c22 => ?_) (fun c22 => ?_)
        · refine lv_iload_n hx hb dX7_allHours_27 rfl (lv_at hl 1 rfl) ?_
          refine lv_aload_n hx hb dX7_allHours_28 rfl (lv_at hl 0 rfl) ?_
          refine getM 11 hx hb hts hown hK hG (by decide) qF_X7_152 rfl dX7_allHours_29 ?_
          refine lv_iadd hx hb dX7_allHours_32 ?_
          refine lv_topi (fun x3 ex3 => ?_)
          refine lv_istore_n (lv' := [(1, .int x3), (0, .ref o)]) hx hb dX7_allHours_33 rfl hl (by decide) rfl (fun ls hl => ?_)
          refine lv_goto (tgt := 7) hx hb dX7_allHours_34 (by decide) ?_
          subst ex3
          subst eF2
          exact ih _ _ _ _ _ (item_K hX).1.1 (item_k hX c22 hk) (by rw [hfF, fF_X7_allHours_L7]; (try dsimp only); (try rw [if_neg c15, if_neg c22]); (try rfl)) (by rw [hfR, fR_X7_allHours_L7]; (try dsimp only); (try rw [if_neg c15, if_neg c22]); (try rfl)) hG hS (lv_sub hl [1, 0] rfl)
        · refine lv_iconst (v := (-1)) hx hb dX7_allHours_25 (by decide) ?_
          subst eF2
          have hG9 : Md D o P S V T (fF_X7_allHours T F) h H := by
            rw [hfF, fF_X7_allHours_L7]; (try dsimp only); (try rw [if_neg c15, if_pos c22])
            exact hG
          exact W.iret hx hb hr (fun t ht hW => gQi_of (by rw [hfR, fR_X7_allHours_L7]; (try dsimp only); (try rw [if_neg c15, if_pos c22]); (try rfl)) hG9 hS ht) hS.2.2 dX7_allHours_26
  refine lv_iconst (v := 0) hx hb dX7_allHours_0 (by decide) ?_
  refine lv_istore_n (lv' := [(1, .int 0), (0, .ref o)]) hx hb dX7_allHours_1 rfl hl (by decide) rfl (fun ls hl => ?_)
  refine lv_aload_n hx hb dX7_allHours_2 rfl (lv_at hl 1 rfl) ?_
  refine lv_iconst (v := 0) hx hb dX7_allHours_3 (by decide) ?_
  refine putM 7 hx hb hts hown hK hG hS hA (by decide) qF_X7_127 rfl dX7_allHours_4 (fun H locs hG hS => ?_)
  generalize eF1 : upd F 7 0 = F1 at hG
  subst eF1
  exact L7 150 _ _ _ _ _ (okX_7 (n := 0) hT (Nat.zero_le _)) (k150 (okX_7 (n := 0) hT (Nat.zero_le _))) (by unfold fF_X7_allHours; (try dsimp only); (try rfl)) (by unfold fR_X7_allHours; (try dsimp only); (try rfl)) hG hS (lv_sub hl [1, 0] rfl)
