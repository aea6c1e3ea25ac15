theorem hdv_X7_hours : yX7_hours.cls = RX7 ∧ yX7_hours.cls ≠ "java/lang/invoke/MethodHandle" ∧ yX7_hours.cls ≠ "java/lang/invoke/VarHandle" ∧ (parseMethodDescriptor yX7_hours.desc).map (fun d => d.parameters.length) = some 3 := by decide +kernel
def fP_X7_hours_L6 (tmp : Int32) (sn : Int32) (many : Nat) : Nat → Int32 → Nat → (Nat → Int32) → Nat → Int32
  | 0, acc, j, Pl =>
    Pl
  | k + 1, acc, j, Pl =>
    let P1 := fP_X7_hour Pl tmp sn
    let x2 := acc + (fR_X7_hour Pl tmp sn)
    fP_X7_hours_L6 tmp sn many k x2 (j + 1) P1
def fR_X7_hours_L6 (tmp : Int32) (sn : Int32) (many : Nat) : Nat → Int32 → Nat → (Nat → Int32) → Int32
  | 0, acc, j, Pl =>
    acc
  | k + 1, acc, j, Pl =>
    let P1 := fP_X7_hour Pl tmp sn
    let x2 := acc + (fR_X7_hour Pl tmp sn)
    fR_X7_hours_L6 tmp sn many k x2 (j + 1) P1
def fP_X7_hours (P : Nat → Int32) (tmp : Int32) (sn : Int32) (many : Nat) : Nat → Int32 :=
  fP_X7_hours_L6 tmp sn many many 0 0 P
def fR_X7_hours (P : Nat → Int32) (tmp : Int32) (sn : Int32) (many : Nat) : Int32 :=
  fR_X7_hours_L6 tmp sn many many 0 0 P
set_option maxHeartbeats 4000000 in
set_option maxRecDepth 100000 in
theorem c_X7_hours (l : Launch) (D : va_G) (o : Nat) (P S V T F : Nat → Int32) (h : Int64) (tmp : Int32) (sn : Int32) (many : Nat) (hw0 : WF P) (hm : many < 1000) : Met l yX7_hours (wA yX7_hours cX7_hours 6 (some .int)) (rmL 5) (gPc D [.ref o, .int tmp, .int sn, .int (nI many)] (fun H => Md D o P S V T F h H)) (gQi (inM o) (fR_X7_hours P tmp sn many) (fun H => Md D o (fP_X7_hours P tmp sn many) S V T F h H)) 0 0 (inM o) := by
  refine Met.ofW (cc := cX7_hours) (maxL := 6) (ret := (some .int)) (by decide) rfl ?_
  intro p e s m args below meth c s₁ B hml hv
  obtain ⟨hav, hG, hK⟩ := hv
  have hx := B.exec
  have hb := B.bytes
  have hr := B.returns
  have hts0 := atoms_spec (ws := wA yX7_hours cX7_hours 6 (some .int)) B.pre
  have hts : ∀ w ∈ AW, w.before _ s = true := fun w h => hts0 w (List.mem_cons_of_mem _ h)
  have hown : s.vm.findClass RX7 = some m.cls := findClass_of_methodNamed B.named
  have hlocks := B.notSynchronized
  have hA : ∀ q, (inM o) q → (inM o) q := fun _ h => h
  have hS : va_S (inM o) s.heap s.heap [] := va_S.rf
  have hG : Md D o P S V T F h s.heap := hG
  have hl := lv_entry ([.ref o, .int tmp, .int sn, .int (nI many)]) (n := 6) (Nat.le_of_ble_eq_true rfl)
  refine W.eq (g2 := entryFrame m ([.ref o, .int tmp, .int sn, .int (nI many)] : List Value).toArray 6) (by rw [hav]) ?_
  rw [lg_entry_eq]
  generalize (lg_sl ([.ref o, .int tmp, .int sn, .int (nI many)]) ++ List.replicate (6 - (lg_sl ([.ref o, .int tmp, .int sn, .int (nI many)])).length) Slot.unset).toArray = ls at hl ⊢
  have hl : lv_has ls 6 [(0, .ref o), (1, .int tmp), (2, .int sn), (3, .int (nI many))] := hl
  have L6 : ∀ (k : Nat) (acc : Int32) (j : Nat) (Pl : Nat → Int32) (H : Heap) (locs : List Loc) (ls : Array Slot) (hw : WF Pl) (hik : j + k = many) (hfP : fP_X7_hours P tmp sn many = fP_X7_hours_L6 tmp sn many k acc j Pl) (hfR : fR_X7_hours P tmp sn many = fR_X7_hours_L6 tmp sn many k acc j Pl) (hG : Md D o Pl S V T F h H) (hS : va_S (inM o) s.heap H locs) (hl : lv_has ls 6 [(0, .ref o), (1, .int tmp), (2, .int sn), (3, .int (nI many)), (4, .int acc), (5, .int (nI j))]), W p l e (headSpec (wA yX7_hours cX7_hours 6 (some .int)) (rmL 5)).room s m args below meth c H locs 0 0 (MQ below (gQi (inM o) (fR_X7_hours P tmp sn many) (fun H => Md D o (fP_X7_hours P tmp sn many) S V T F h H)) args s 0 0 (inM o)) (F0 m 6 ls []) := by
    intro k
    induction k with
    | zero =>
      intro acc j Pl H locs ls hw hik hfP hfR hG hS hl
      refine lv_iload hx hb dX7_hours_6 (lv_at hl 5 rfl) ?_
      refine lv_iload_n hx hb dX7_hours_8 rfl (lv_at hl 3 rfl) ?_
      refine lv_icmp_ge (tgt := 29) hx hb dX7_hours_9 (by decide) (fun c9 => ?_) (fun c9 => ?_)
      · have c9 : many ≤ j := (nI_leI (a := many) (b := j) (by omega) (by omega)).mp c9
        refine lv_iload hx hb dX7_hours_29 (lv_at hl 4 rfl) ?_
        have hG9 : Md D o (fP_X7_hours P tmp sn many) S V T F h H := by
          rw [hfP, fP_X7_hours_L6]; (try dsimp only)
          exact hG
        exact W.iret hx hb hr (fun t ht hW => gQi_of (by rw [hfR, fR_X7_hours_L6]; (try dsimp only); (try rfl)) hG9 hS ht) hS.2.2 dX7_hours_31
      · have c9 : ¬ many ≤ j := fun h => c9 ((nI_leI (a := many) (b := j) (by omega) (by omega)).mpr h)
        exfalso; omega
    | succ k ih =>
      intro acc j Pl H locs ls hw hik hfP hfR hG hS hl
      refine lv_iload hx hb dX7_hours_6 (lv_at hl 5 rfl) ?_
      refine lv_iload_n hx hb dX7_hours_8 rfl (lv_at hl 3 rfl) ?_
      refine lv_icmp_ge (tgt := 29) hx hb dX7_hours_9 (by decide) (fun c9 => ?_) (fun c9 => ?_)
      · have c9 : many ≤ j := (nI_leI (a := many) (b := j) (by omega) (by omega)).mp c9
        exfalso; omega
      · have c9 : ¬ many ≤ j := fun h => c9 ((nI_leI (a := many) (b := j) (by omega) (by omega)).mpr h)
        refine lv_iload hx hb dX7_hours_12 (lv_at hl 4 rfl) ?_
        refine lv_aload_n hx hb dX7_hours_14 rfl (lv_at hl 0 rfl) ?_
        refine lv_iload_n hx hb dX7_hours_15 rfl (lv_at hl 1 rfl) ?_
        refine lv_iload_n hx hb dX7_hours_16 rfl (lv_at hl 2 rfl) ?_
        refine gcVi (As := [.int tmp, .int sn]) (rest := [.int acc]) hx hb hml hown hts hl.1 hK (c_X7_hour l D o Pl S V T F h tmp sn hw) (gaV qM_X7_97 qI_X7_hour qS_X7_hour qK_X7 qC_X7_hour) hdv_X7_hour ⟨Nat.le_of_ble_eq_true rfl, Nat.le_of_ble_eq_true rfl⟩ hG (hG.recv hK) rfl (Nat.le_of_ble_eq_true rfl) ⟨Nat.zero_le _, Nat.zero_le _⟩ dX7_hours_17 hS hA (fun H locs hG _ _ hS => ?_)
        have hG : Md D o (fP_X7_hour Pl tmp sn) S V T F h H := hG
        generalize eP1 : fP_X7_hour Pl tmp sn = P1 at hG
        refine lv_iadd hx hb dX7_hours_20 ?_
        refine lv_topi (fun x2 ex2 => ?_)
        refine lv_istore (lv' := [(4, .int x2), (0, .ref o), (1, .int tmp), (2, .int sn), (3, .int (nI many)), (5, .int (nI j))]) hx hb dX7_hours_21 hl (by decide) rfl (fun ls hl => ?_)
        refine lv_iinc (v := nI (j + 1)) (lv' := [(5, .int (nI (j + 1))), (4, .int x2), (0, .ref o), (1, .int tmp), (2, .int sn), (3, .int (nI many))]) hx hb dX7_hours_23 hl (k := 5) rfl (nI_add j 1) (by decide) rfl (fun ls hl => ?_)
        refine lv_goto (tgt := 6) hx hb dX7_hours_26 (by decide) ?_
        subst ex2
        subst eP1
        exact ih _ (j + 1) _ _ _ _ (WF_hour hw) (by first | assumption | omega) (by rw [hfP, fP_X7_hours_L6]; (try dsimp only); (try rfl)) (by rw [hfR, fR_X7_hours_L6]; (try dsimp only); (try rfl)) hG hS (lv_sub hl [2, 3, 4, 5, 1, 0] rfl)
  refine lv_iconst (v := 0) hx hb dX7_hours_0 (by decide) ?_
  refine lv_istore (lv' := [(4, .int 0), (0, .ref o), (1, .int tmp), (2, .int sn), (3, .int (nI many))]) hx hb dX7_hours_1 hl (by decide) rfl (fun ls hl => ?_)
  refine lv_iconst (v := 0) hx hb dX7_hours_3 (by decide) ?_
  refine lv_istore (lv' := [(5, .int 0), (4, .int 0), (0, .ref o), (1, .int tmp), (2, .int sn), (3, .int (nI many))]) hx hb dX7_hours_4 hl (by decide) rfl (fun ls hl => ?_)
  exact L6 many _ 0 _ _ _ _ hw0 (by first | assumption | omega) (by unfold fP_X7_hours; (try dsimp only); (try rfl)) (by unfold fR_X7_hours; (try dsimp only); (try rfl)) hG hS (lv_sub hl [2, 3, 4, 5, 1, 0] rfl)
