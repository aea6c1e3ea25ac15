theorem hds_L_sound : yL_sound.cls ≠ "java/lang/invoke/MethodHandle" ∧ yL_sound.cls ≠ "java/lang/invoke/VarHandle" ∧ (parseMethodDescriptor yL_sound.desc).map (fun d => d.parameters.length) = some 1 := by decide +kernel
set_option maxHeartbeats 4000000 in
set_option maxRecDepth 100000 in
theorem c_L_sound (l : Launch) (hl0 : l.stackTraces = false) (D : va_G) (r : Nat) (P : Nat → Int32) (Q : Nat → Nat → Int32) (n h : Nat) (hI : Iv h P) : Met l yL_sound (wA yL_sound cL_sound 14 (some .boolean)) (rmX 10 720 4320) (xPc D r [.ref r] (fun H => St D r P Q n H)) (gQi (fun q => r ≤ q) 1 (fun H => St D r P Q n H)) 720 4320 (fun q => r ≤ q) := by
  refine Met.ofW (cc := cL_sound) (maxL := 14) (ret := (some .boolean)) (by decide) rfl ?_
  intro p e s m args below meth c s₁ B hml hv
  obtain ⟨hav, hG, hK, hKx⟩ := hv
  have hx := B.exec
  have hb := B.bytes
  have hr := B.returns
  have hts0 := atoms_spec (ws := wA yL_sound cL_sound 14 (some .boolean)) B.pre
  have hts : ∀ w ∈ AW, w.before _ s = true := fun w h => hts0 w (List.mem_cons_of_mem _ h)
  have hown : s.vm.findClass RL = some m.cls := findClass_of_methodNamed B.named
  have hlocks := B.notSynchronized
  have hAr : ∀ q, inS r q → r ≤ q := fun q h => h.1
  have hS : va_S (fun q => r ≤ q) s.heap s.heap [] := va_S.rf
  have hG : St D r P Q n s.heap := hG
  have hl := lv_entry ([.ref r]) (n := 14) (Nat.le_of_ble_eq_true rfl)
  refine W.eq (g2 := entryFrame m ([.ref r] : List Value).toArray 14) (by rw [hav]) ?_
  rw [lg_entry_eq]
  generalize (lg_sl ([.ref r]) ++ List.replicate (14 - (lg_sl ([.ref r])).length) Slot.unset).toArray = ls at hl ⊢
  have hl : lv_has ls 14 [(0, .ref r)] := hl
  obtain ⟨z0, z00, z1, z2, hN1, hN2, z5, z7, ⟨S9, S91, z3⟩, k9, k91, z6⟩ := snd_rest hI
  refine lv_aload_n hx hb dL_sound_0 rfl (lv_at hl 0 rfl) ?_
  refine lv_iconst (v := 1) hx hb dL_sound_1 (by decide) ?_
  refine lwS (As := [.ref r, .int 1]) (rest := []) hx hb hml hown hts hl.1 hK hKx (fun _ h => h) (c_L_value l hl0 D r P Q n (P 1) 1 (fun C h => (R_value (k := 1) h rfl (by decide)).trans rfl)) (gHS qM_L_88 qT_L_value qK_L qC_L_value) hds_L_value ⟨(Nat.le_of_ble_eq_true rfl), (Nat.le_of_ble_eq_true rfl)⟩ hG rfl (Nat.le_of_ble_eq_true rfl) ⟨(by show 0 + 1 ≤ 720; omega), (by show 0 + 6 ≤ 4320; omega)⟩ dL_sound_2 hS hAr (fun H locs hG hz hq hS => ?_)
  have hG : St D r P Q n H := hG
  clear hz hq
  refine topN (n := ns P) hN1 ?_
  refine lv_istore_n (lv' := [(1, .int (nI (ns P))), (0, .ref r)]) hx hb dL_sound_5 rfl hl (by decide) rfl (fun ls hl => ?_)
  refine lv_aload_n hx hb dL_sound_6 rfl (lv_at hl 1 rfl) ?_
  refine lv_iconst (v := 2) hx hb dL_sound_7 (by decide) ?_
  refine lwS (As := [.ref r, .int 2]) (rest := []) hx hb hml hown hts hl.1 hK hKx (fun _ h => h) (c_L_value l hl0 D r P Q n (P 2) 2 (fun C h => (R_value (k := 2) h rfl (by decide)).trans rfl)) (gHS qM_L_88 qT_L_value qK_L qC_L_value) hds_L_value ⟨(Nat.le_of_ble_eq_true rfl), (Nat.le_of_ble_eq_true rfl)⟩ hG rfl (Nat.le_of_ble_eq_true rfl) ⟨(by show 0 + 1 + 1 ≤ 720; omega), (by show 0 + 6 + 6 ≤ 4320; omega)⟩ dL_sound_8 hS hAr (fun H locs hG hz hq hS => ?_)
  have hG : St D r P Q n H := hG
  clear hz hq
  refine topN (n := np P) hN2 ?_
  refine lv_istore_n (lv' := [(2, .int (nI (np P))), (1, .int (nI (ns P))), (0, .ref r)]) hx hb dL_sound_11 rfl hl (by decide) rfl (fun ls hl => ?_)
  refine lv_iconst (v := 0) hx hb dL_sound_12 (by decide) ?_
  refine topE (y := duS P 0) rfl ?_
  refine lv_istore_n (lv' := [(3, .int (duS P 0)), (2, .int (nI (np P))), (1, .int (nI (ns P))), (0, .ref r)]) hx hb dL_sound_13 rfl hl (by decide) rfl (fun ls hl => ?_)
  refine lv_iconst (v := 0) hx hb dL_sound_14 (by decide) ?_
  refine topE (y := ldS P 0) rfl ?_
  refine lv_istore (lv' := [(4, .int (ldS P 0)), (3, .int (duS P 0)), (2, .int (nI (np P))), (1, .int (nI (ns P))), (0, .ref r)]) hx hb dL_sound_15 hl (by decide) rfl (fun ls hl => ?_)
  refine lv_iconst (v := 0) hx hb dL_sound_17 (by decide) ?_
  refine topE (y := coS P 0) rfl ?_
  refine lv_istore (lv' := [(5, .int (coS P 0)), (4, .int (ldS P 0)), (3, .int (duS P 0)), (2, .int (nI (np P))), (1, .int (nI (ns P))), (0, .ref r)]) hx hb dL_sound_18 hl (by decide) rfl (fun ls hl => ?_)
  refine lv_ldc2d hx hb hown (hts _ qV_L_93) dL_sound_20 ?_
  refine topDE (y := FP.i2d (nI 1000000)) big_d ?_
  refine lv_dstore (lv' := [(6, .double (FP.i2d (nI 1000000))), (5, .int (coS P 0)), (4, .int (ldS P 0)), (3, .int (duS P 0)), (2, .int (nI (np P))), (1, .int (nI (ns P))), (0, .ref r)]) hx hb dL_sound_23 hl (by decide) rfl (fun ls hl => ?_)
  refine lv_dconst0 hx hb dL_sound_25 ?_
  refine topDE (y := FP.i2d (nI 0)) zero_d ?_
  refine lv_dstore (lv' := [(8, .double (FP.i2d (nI 0))), (6, .double (FP.i2d (nI 1000000))), (5, .int (coS P 0)), (4, .int (ldS P 0)), (3, .int (duS P 0)), (2, .int (nI (np P))), (1, .int (nI (ns P))), (0, .ref r)]) hx hb dL_sound_26 hl (by decide) rfl (fun ls hl => ?_)
  refine lv_iconst (v := 0) hx hb dL_sound_28 (by decide) ?_
  refine topN (n := 0) rfl ?_
  refine lv_istore (lv' := [(10, .int (nI 0)), (8, .double (FP.i2d (nI 0))), (6, .double (FP.i2d (nI 1000000))), (5, .int (coS P 0)), (4, .int (ldS P 0)), (3, .int (duS P 0)), (2, .int (nI (np P))), (1, .int (nI (ns P))), (0, .ref r)]) hx hb dL_sound_29 hl (by decide) rfl (fun ls hl => ?_)
  have K275 : ∀ (mn : Nat) (mx : Nat) (H : Heap) (locs : List Loc) (ls : Array Slot) (hbd : ∀ i, i < ns P → ∀ d, d < 2 ^ 31 → P (9 + 8 * i + 2) = nI d → mn ≤ d ∧ d ≤ mx) (hm : mn ≤ 1000000 ∧ mx ≤ 1000000) (hG : St D r P Q n H) (hS : va_S (fun q => r ≤ q) s.heap H locs) (hl : lv_has ls 14 [(0, .ref r), (1, .int (nI (ns P))), (2, .int (nI (np P))), (3, .int (duS P (ns P))), (4, .int (ldS P 0)), (5, .int (coS P 0)), (6, .double (FP.i2d (nI mn))), (8, .double (FP.i2d (nI mx)))]), W p l e (headSpec (wA yL_sound cL_sound 14 (some .boolean)) (rmX 10 720 4320)).room s m args below meth c H locs (602) (3612) (MQ below (gQi (fun q => r ≤ q) 1 (fun H => St D r P Q n H)) args s 720 4320 (fun q => r ≤ q)) (F0 m 275 ls []) := by
    intro mn mx H locs ls hbd hm hG hS hl
    refine lv_iconst (v := 0) hx hb dL_sound_275 (by decide) ?_
    refine topN (n := 0) rfl ?_
    refine lv_istore (lv' := [(10, .int (nI 0)), (0, .ref r), (1, .int (nI (ns P))), (2, .int (nI (np P))), (3, .int (duS P (ns P))), (4, .int (ldS P 0)), (5, .int (coS P 0)), (6, .double (FP.i2d (nI mn))), (8, .double (FP.i2d (nI mx)))]) hx hb dL_sound_276 hl (by decide) rfl (fun ls hl => ?_)
    have K468 : ∀ (H : Heap) (locs : List Loc) (ls : Array Slot) (hG : St D r P Q n H) (hS : va_S (fun q => r ≤ q) s.heap H locs) (hl : lv_has ls 14 [(0, .ref r), (1, .int (nI (ns P))), (2, .int (nI (np P))), (3, .int (duS P (ns P))), (4, .int (ldS P (np P))), (5, .int (coS P 0)), (6, .double (FP.i2d (nI mn))), (8, .double (FP.i2d (nI mx)))]), W p l e (headSpec (wA yL_sound cL_sound 14 (some .boolean)) (rmX 10 720 4320)).room s m args below meth c H locs (686) (4116) (MQ below (gQi (fun q => r ≤ q) 1 (fun H => St D r P Q n H)) args s 720 4320 (fun q => r ≤ q)) (F0 m 468 ls []) := by
      intro H locs ls hG hS hl
      refine lv_iconst (v := 0) hx hb dL_sound_468 (by decide) ?_
      refine topN (n := 0) rfl ?_
      refine lv_istore (lv' := [(10, .int (nI 0)), (0, .ref r), (1, .int (nI (ns P))), (2, .int (nI (np P))), (3, .int (duS P (ns P))), (4, .int (ldS P (np P))), (5, .int (coS P 0)), (6, .double (FP.i2d (nI mn))), (8, .double (FP.i2d (nI mx)))]) hx hb dL_sound_469 hl (by decide) rfl (fun ls hl => ?_)
      have K495 : ∀ (H : Heap) (locs : List Loc) (ls : Array Slot) (hG : St D r P Q n H) (hS : va_S (fun q => r ≤ q) s.heap H locs) (hl : lv_has ls 14 [(0, .ref r), (1, .int (nI (ns P))), (2, .int (nI (np P))), (3, .int (duS P (ns P))), (4, .int (ldS P (np P))), (5, .int (coS P 3)), (6, .double (FP.i2d (nI mn))), (8, .double (FP.i2d (nI mx)))]), W p l e (headSpec (wA yL_sound cL_sound 14 (some .boolean)) (rmX 10 720 4320)).room s m args below meth c H locs (692) (4152) (MQ below (gQi (fun q => r ≤ q) 1 (fun H => St D r P Q n H)) args s 720 4320 (fun q => r ≤ q)) (F0 m 495 ls []) := by
        intro H locs ls hG hS hl
        refine lv_aload_n hx hb dL_sound_495 rfl (lv_at hl 0 rfl) ?_
        obtain ⟨C, J, G, Y, X, U, Z, F, hN, hd, hf⟩ := hG
        refine gcVd (As := []) (rest := []) hx hb hml hown hts hl.1 hK (c_X6_meanDepth l D r C J G n Y X U Z F hd.1.okN) (gaV qM_L_104 qI_X6_meanDepth qS_X6_meanDepth qK_X6 qC_X6_meanDepth) hdv_X6_meanDepth ⟨(Nat.le_of_ble_eq_true rfl), (Nat.le_of_ble_eq_true rfl)⟩ hN (Sn.recv hK hN) rfl (Nat.le_of_ble_eq_true rfl) ⟨(by show 692 ≤ 720; omega), (by show 4152 ≤ 4320; omega)⟩ dL_sound_496 hS hAr (fun H locs hN hz hq hS => ?_)
        have hmean := hd.1
        refine lv_topd (fun mean emean => ?_)
        have hG : St D r P Q n H := ⟨C, J, G, Y, X, U, Z, F, hN, hd, hf⟩
        clear hN hz hq
        refine lv_dstore (lv' := [(10, .double mean), (0, .ref r), (1, .int (nI (ns P))), (2, .int (nI (np P))), (3, .int (duS P (ns P))), (4, .int (ldS P (np P))), (5, .int (coS P 3)), (6, .double (FP.i2d (nI mn))), (8, .double (FP.i2d (nI mx)))]) hx hb dL_sound_499 hl (by decide) rfl (fun ls hl => ?_)
        refine lv_iload_n hx hb dL_sound_501 rfl (lv_at hl 2 rfl) ?_
        have K541 : ∀ (H : Heap) (locs : List Loc) (ls : Array Slot) (hG : St D r P Q n H) (hS : va_S (fun q => r ≤ q) s.heap H locs) (hl : lv_has ls 14 [(0, .ref r), (1, .int (nI (ns P))), (2, .int (nI (np P))), (3, .int (duS P (ns P))), (4, .int (ldS P (np P))), (5, .int (coS P 3))]), W p l e (headSpec (wA yL_sound cL_sound 14 (some .boolean)) (rmX 10 720 4320)).room s m args below meth c H locs (692) (4152) (MQ below (gQi (fun q => r ≤ q) 1 (fun H => St D r P Q n H)) args s 720 4320 (fun q => r ≤ q)) (F0 m 541 ls [.int 1]) := by
          intro H locs ls hG hS hl
          refine lv_istore (lv' := [(12, .int 1), (0, .ref r), (1, .int (nI (ns P))), (2, .int (nI (np P))), (3, .int (duS P (ns P))), (4, .int (ldS P (np P))), (5, .int (coS P 3))]) hx hb dL_sound_541 hl (by decide) rfl (fun ls hl => ?_)
          refine lv_iload hx hb dL_sound_543 (lv_at hl 0 rfl) ?_
          refine lv_if_eq (tgt := 623) hx hb dL_sound_545 (by decide) (fun c545 => ?_) (fun c545 => ?_)
          · exact absurd c545 (by decide)
          · refine lv_aload_n hx hb dL_sound_548 rfl (lv_at hl 1 rfl) ?_
            refine lv_bipush (v := 7) hx hb dL_sound_549 (by decide) ?_
            refine lwS (As := [.ref r, .int 7]) (rest := []) hx hb hml hown hts hl.1 hK hKx (fun _ h => h) (c_L_value l hl0 D r P Q n (fR_X7_due P) 7 (fun C h => (R_value (k := 7) h rfl (by decide)).trans rfl)) (gHS qM_L_88 qT_L_value qK_L qC_L_value) hds_L_value ⟨(Nat.le_of_ble_eq_true rfl), (Nat.le_of_ble_eq_true rfl)⟩ hG rfl (Nat.le_of_ble_eq_true rfl) ⟨(by show 692 + 1 ≤ 720; omega), (by show 4152 + 6 ≤ 4320; omega)⟩ dL_sound_551 hS hAr (fun H locs hG hz hq hS => ?_)
            have hG : St D r P Q n H := hG
            clear hz hq
            refine lv_iload_n hx hb dL_sound_554 rfl (lv_at hl 4 rfl) ?_
            refine lv_icmp_ne (tgt := 623) hx hb dL_sound_555 (by decide) (fun c555 => ?_) (fun c555 => ?_)
            · exact absurd due_sum c555
            · refine lv_aload_n hx hb dL_sound_558 rfl (lv_at hl 1 rfl) ?_
              refine lv_iconst (v := 5) hx hb dL_sound_559 (by decide) ?_
              refine lwS (As := [.ref r, .int 5]) (rest := []) hx hb hml hown hts hl.1 hK hKx (fun _ h => h) (c_L_value l hl0 D r P Q n (P 5) 5 (fun C h => (R_value (k := 5) h rfl (by decide)).trans rfl)) (gHS qM_L_88 qT_L_value qK_L qC_L_value) hds_L_value ⟨(Nat.le_of_ble_eq_true rfl), (Nat.le_of_ble_eq_true rfl)⟩ hG rfl (Nat.le_of_ble_eq_true rfl) ⟨(by show 692 + 1 + 1 ≤ 720; omega), (by show 4152 + 6 + 6 ≤ 4320; omega)⟩ dL_sound_560 hS hAr (fun H locs hG hz hq hS => ?_)
              have hG : St D r P Q n H := hG
              clear hz hq
              refine lv_iload hx hb dL_sound_563 (lv_at hl 6 rfl) ?_
              refine lv_icmp_ne (tgt := 623) hx hb dL_sound_565 (by decide) (fun c565 => ?_) (fun c565 => ?_)
              · exact absurd z5 c565
              · refine lv_aload_n hx hb dL_sound_568 rfl (lv_at hl 1 rfl) ?_
                refine lv_bipush (v := 8) hx hb dL_sound_569 (by decide) ?_
                refine lwS (As := [.ref r, .int 8]) (rest := []) hx hb hml hown hts hl.1 hK hKx (fun _ h => h) (c_L_value l hl0 D r P Q n (P 7) 8 (fun C h => (R_value (k := 8) h rfl (by decide)).trans rfl)) (gHS qM_L_88 qT_L_value qK_L qC_L_value) hds_L_value ⟨(Nat.le_of_ble_eq_true rfl), (Nat.le_of_ble_eq_true rfl)⟩ hG rfl (Nat.le_of_ble_eq_true rfl) ⟨(by show 692 + 1 + 1 + 1 ≤ 720; omega), (by show 4152 + 6 + 6 + 6 ≤ 4320; omega)⟩ dL_sound_571 hS hAr (fun H locs hG hz hq hS => ?_)
                have hG : St D r P Q n H := hG
                clear hz hq
                refine lv_aload_n hx hb dL_sound_574 rfl (lv_at hl 1 rfl) ?_
                refine lv_bipush (v := 9) hx hb dL_sound_575 (by decide) ?_
                refine lwS (As := [.ref r, .int 9]) (rest := [.int (P 7)]) hx hb hml hown hts hl.1 hK hKx (fun _ h => h) (c_L_value l hl0 D r P Q n (P 8) 9 (fun C h => (R_value (k := 9) h rfl (by decide)).trans rfl)) (gHS qM_L_88 qT_L_value qK_L qC_L_value) hds_L_value ⟨(Nat.le_of_ble_eq_true rfl), (Nat.le_of_ble_eq_true rfl)⟩ hG rfl (Nat.le_of_ble_eq_true rfl) ⟨(by show 692 + 1 + 1 + 1 + 1 ≤ 720; omega), (by show 4152 + 6 + 6 + 6 + 6 ≤ 4320; omega)⟩ dL_sound_577 hS hAr (fun H locs hG hz hq hS => ?_)
                have hG : St D r P Q n H := hG
                clear hz hq
                refine lv_aload_n hx hb dL_sound_580 rfl (lv_at hl 1 rfl) ?_
                refine lv_iconst (v := 3) hx hb dL_sound_581 (by decide) ?_
                refine lwS (As := [.ref r, .int 3]) (rest := [.int (P 8), .int (P 7)]) hx hb hml hown hts hl.1 hK hKx (fun _ h => h) (c_L_value l hl0 D r P Q n (P 3) 3 (fun C h => (R_value (k := 3) h rfl (by decide)).trans rfl)) (gHS qM_L_88 qT_L_value qK_L qC_L_value) hds_L_value ⟨(Nat.le_of_ble_eq_true rfl), (Nat.le_of_ble_eq_true rfl)⟩ hG rfl (Nat.le_of_ble_eq_true rfl) ⟨(by show 692 + 1 + 1 + 1 + 1 + 1 ≤ 720; omega), (by show 4152 + 6 + 6 + 6 + 6 + 6 ≤ 4320; omega)⟩ dL_sound_582 hS hAr (fun H locs hG hz hq hS => ?_)
                have hG : St D r P Q n H := hG
                clear hz hq
                refine lv_iadd hx hb dL_sound_585 ?_
                refine lv_iload hx hb dL_sound_586 (lv_at hl 5 rfl) ?_
                refine lv_iadd hx hb dL_sound_588 ?_
                refine lv_icmp_ne (tgt := 623) hx hb dL_sound_589 (by decide) (fun c589 => ?_) (fun c589 => ?_)
                · exact absurd z7 c589
                · refine lv_aload_n hx hb dL_sound_592 rfl (lv_at hl 1 rfl) ?_
                  refine lv_iconst (v := 3) hx hb dL_sound_593 (by decide) ?_
                  refine lwS (As := [.ref r, .int 3]) (rest := []) hx hb hml hown hts hl.1 hK hKx (fun _ h => h) (c_L_value l hl0 D r P Q n (P 3) 3 (fun C h => (R_value (k := 3) h rfl (by decide)).trans rfl)) (gHS qM_L_88 qT_L_value qK_L qC_L_value) hds_L_value ⟨(Nat.le_of_ble_eq_true rfl), (Nat.le_of_ble_eq_true rfl)⟩ hG rfl (Nat.le_of_ble_eq_true rfl) ⟨(by show 692 + 1 + 1 + 1 + 1 + 1 + 1 ≤ 720; omega), (by show 4152 + 6 + 6 + 6 + 6 + 6 + 6 ≤ 4320; omega)⟩ dL_sound_594 hS hAr (fun H locs hG hz hq hS => ?_)
                  have hG : St D r P Q n H := hG
                  clear hz hq
                  refine topN (n := S9) z3 ?_
                  refine lv_if_lt (tgt := 623) hx hb dL_sound_597 (by decide) (fun c597 => ?_) (fun c597 => ?_)
                  · have c597 : S9 < 0 := (nI_ltI (a := S9) (b := 0) (by omega) (by omega)).mp c597
                    exact absurd c597 (by omega)
                  · have c597 : ¬ S9 < 0 := fun hh9 => c597 ((nI_ltI (a := S9) (b := 0) (by omega) (by omega)).mpr hh9)
                    refine lv_aload_n hx hb dL_sound_600 rfl (lv_at hl 1 rfl) ?_
                    refine lv_iconst (v := 3) hx hb dL_sound_601 (by decide) ?_
                    refine lwS (As := [.ref r, .int 3]) (rest := []) hx hb hml hown hts hl.1 hK hKx (fun _ h => h) (c_L_value l hl0 D r P Q n (P 3) 3 (fun C h => (R_value (k := 3) h rfl (by decide)).trans rfl)) (gHS qM_L_88 qT_L_value qK_L qC_L_value) hds_L_value ⟨(Nat.le_of_ble_eq_true rfl), (Nat.le_of_ble_eq_true rfl)⟩ hG rfl (Nat.le_of_ble_eq_true rfl) ⟨(by show 692 + 1 + 1 + 1 + 1 + 1 + 1 + 1 ≤ 720; omega), (by show 4152 + 6 + 6 + 6 + 6 + 6 + 6 + 6 ≤ 4320; omega)⟩ dL_sound_602 hS hAr (fun H locs hG hz hq hS => ?_)
                    have hG : St D r P Q n H := hG
                    clear hz hq
                    refine topN (n := S9) z3 ?_
                    refine lv_ldc hx hb hown (hts _ qV_L_108) dL_sound_605 ?_
                    refine lv_icmp_gt (tgt := 623) hx hb dL_sound_607 (by decide) (fun c607 => ?_) (fun c607 => ?_)
                    · have c607 : 100000 < S9 := (nI_ltI (a := 100000) (b := S9) (by omega) (by omega)).mp c607
                      exact absurd c607 (by omega)
                    · have c607 : ¬ 100000 < S9 := fun hh9 => c607 ((nI_ltI (a := 100000) (b := S9) (by omega) (by omega)).mpr hh9)
                      refine lv_aload_n hx hb dL_sound_610 rfl (lv_at hl 1 rfl) ?_
                      refine lv_bipush (v := 6) hx hb dL_sound_611 (by decide) ?_
                      refine lwS (As := [.ref r, .int 6]) (rest := []) hx hb hml hown hts hl.1 hK hKx (fun _ h => h) (c_L_value l hl0 D r P Q n (P 6) 6 (fun C h => (R_value (k := 6) h rfl (by decide)).trans rfl)) (gHS qM_L_88 qT_L_value qK_L qC_L_value) hds_L_value ⟨(Nat.le_of_ble_eq_true rfl), (Nat.le_of_ble_eq_true rfl)⟩ hG rfl (Nat.le_of_ble_eq_true rfl) ⟨(by show 692 + 1 + 1 + 1 + 1 + 1 + 1 + 1 + 1 ≤ 720; omega), (by show 4152 + 6 + 6 + 6 + 6 + 6 + 6 + 6 + 6 ≤ 4320; omega)⟩ dL_sound_613 hS hAr (fun H locs hG hz hq hS => ?_)
                      have hG : St D r P Q n H := hG
                      clear hz hq
                      refine topN (n := k9) z6 ?_
                      refine lv_if_lt (tgt := 623) hx hb dL_sound_616 (by decide) (fun c616 => ?_) (fun c616 => ?_)
                      · have c616 : k9 < 0 := (nI_ltI (a := k9) (b := 0) (by omega) (by omega)).mp c616
                        exact absurd c616 (by omega)
                      · have c616 : ¬ k9 < 0 := fun hh9 => c616 ((nI_ltI (a := k9) (b := 0) (by omega) (by omega)).mpr hh9)
                        refine lv_iconst (v := 1) hx hb dL_sound_619 (by decide) ?_
                        refine lv_goto (tgt := 624) hx hb dL_sound_620 (by decide) ?_
                        refine W.widen (k := 720) (n := 4320) (by omega) (by omega) ?_
                        exact W.zret hx hb hr rfl (fun t ht hW => gQi_of rfl hG hS ht) hS.2.2 dL_sound_624
        refine lv_if_ne (tgt := 520) hx hb dL_sound_502 (by decide) (fun c502 => ?_) (fun c502 => ?_)
        · have c502 : ¬ ns P = 0 := fun hh9 => c502 ((nI_eq (a := ns P) (b := 0) (by omega) (by omega)).mpr hh9)
          refine lv_dload hx hb dL_sound_520 (lv_at hl 0 rfl) ?_
          refine lv_dload hx hb dL_sound_522 (lv_at hl 7 rfl) ?_
          refine lv_dcmp hx hb dL_sound_524 ?_
          refine lv_if_lt (tgt := 540) hx hb dL_sound_525 (by decide) (fun c525 => ?_) (fun c525 => ?_)
          · exact absurd c525 (cv_ge (by rw [emean]; exact (mean_b hmean hI (by omega) (by omega) (by omega) hbd).1))
          · refine lv_dload hx hb dL_sound_528 (lv_at hl 0 rfl) ?_
            refine lv_dload hx hb dL_sound_530 (lv_at hl 8 rfl) ?_
            refine lv_dcmp hx hb dL_sound_532 ?_
            refine lv_if_gt (tgt := 540) hx hb dL_sound_533 (by decide) (fun c533 => ?_) (fun c533 => ?_)
            · exact absurd c533 (cv_le (by rw [emean]; exact (mean_b hmean hI (by omega) (by omega) (by omega) hbd).2))
            · refine lv_iconst (v := 1) hx hb dL_sound_536 (by decide) ?_
              refine lv_goto (tgt := 541) hx hb dL_sound_537 (by decide) ?_
              exact K541  _ _ _  hG hS (lv_sub hl [1, 2, 3, 4, 5, 6] rfl)
        · have c502 : ns P = 0 := (nI_eq (a := ns P) (b := 0) (by omega) (by omega)).mp c502
          refine lv_dload hx hb dL_sound_505 (lv_at hl 0 rfl) ?_
          refine lv_dconst0 hx hb dL_sound_507 ?_
          refine lv_dcmp hx hb dL_sound_508 ?_
          refine topE (y := 0) (by rw [emean, mean_0 hmean c502, cmp_z]; rfl) ?_
          refine lv_if_ne (tgt := 516) hx hb dL_sound_509 (by decide) (fun c509 => ?_) (fun c509 => ?_)
          · exact absurd c509 (by decide)
          · refine lv_iconst (v := 1) hx hb dL_sound_512 (by decide) ?_
            refine lv_goto (tgt := 541) hx hb dL_sound_513 (by decide) ?_
            exact K541  _ _ _  hG hS (lv_sub hl [1, 2, 3, 4, 5, 6] rfl)
      have L471 : ∀ (k : Nat) (t : Nat) (H : Heap) (locs : List Loc) (ls : Array Slot) (ht : t + k = 3) (hG : St D r P Q n H) (hS : va_S (fun q => r ≤ q) s.heap H locs) (hl : lv_has ls 14 [(0, .ref r), (1, .int (nI (ns P))), (2, .int (nI (np P))), (3, .int (duS P (ns P))), (4, .int (ldS P (np P))), (5, .int (coS P t)), (6, .double (FP.i2d (nI mn))), (8, .double (FP.i2d (nI mx))), (10, .int (nI t))]), W p l e (headSpec (wA yL_sound cL_sound 14 (some .boolean)) (rmX 10 720 4320)).room s m args below meth c H locs (686 + 2 * t) (4116 + 12 * t) (MQ below (gQi (fun q => r ≤ q) 1 (fun H => St D r P Q n H)) args s 720 4320 (fun q => r ≤ q)) (F0 m 471 ls []) := by
        intro k
        induction k with
        | zero =>
          intro t H locs ls ht hG hS hl
          refine lv_iload hx hb dL_sound_471 (lv_at hl 8 rfl) ?_
          refine lv_iconst (v := 3) hx hb dL_sound_473 (by decide) ?_
          refine lv_icmp_ge (tgt := 495) hx hb dL_sound_474 (by decide) (fun c474 => ?_) (fun c474 => ?_)
          · have c474 : 3 ≤ t := (nI_leI (a := 3) (b := t) (by omega) (by omega)).mp c474
            obtain rfl : t = 3 := by omega
            refine W.widen (k := 692) (n := 4152) (by omega) (by omega) ?_
            exact K495  _ _ _  hG hS (lv_sub hl [0, 1, 2, 3, 4, 5, 6, 7] rfl)
          · have c474 : ¬ 3 ≤ t := fun hh9 => c474 ((nI_leI (a := 3) (b := t) (by omega) (by omega)).mpr hh9)
            exact absurd c474 (by omega)
        | succ k ih =>
          intro t H locs ls ht hG hS hl
          refine lv_iload hx hb dL_sound_471 (lv_at hl 8 rfl) ?_
          refine lv_iconst (v := 3) hx hb dL_sound_473 (by decide) ?_
          refine lv_icmp_ge (tgt := 495) hx hb dL_sound_474 (by decide) (fun c474 => ?_) (fun c474 => ?_)
          · have c474 : 3 ≤ t := (nI_leI (a := 3) (b := t) (by omega) (by omega)).mp c474
            exact absurd c474 (by omega)
          · have c474 : ¬ 3 ≤ t := fun hh9 => c474 ((nI_leI (a := 3) (b := t) (by omega) (by omega)).mpr hh9)
            refine lv_iload hx hb dL_sound_477 (lv_at hl 5 rfl) ?_
            refine lv_aload_n hx hb dL_sound_479 rfl (lv_at hl 0 rfl) ?_
            refine lv_iload hx hb dL_sound_480 (lv_at hl 8 rfl) ?_
            refine lv_iconst (v := 3) hx hb dL_sound_482 (by decide) ?_
            refine lwS (As := [.ref r, .int (nI t), .int 3]) (rest := [.int (coS P t)]) hx hb hml hown hts hl.1 hK hKx (fun _ h => h) (c_L_terms l hl0 D r P Q n (P (229 + 4 * t + 3)) (nI t) 3 (fun C h => R_terms (t := t) (k := 3) h rfl (by omega) rfl (by decide))) (gHS qM_L_98 qT_L_terms qK_L qC_L_terms) hds_L_terms ⟨(Nat.le_of_ble_eq_true rfl), (Nat.le_of_ble_eq_true rfl)⟩ hG rfl (Nat.le_of_ble_eq_true rfl) ⟨(by show 686 + 2 * t + 2 ≤ 720; omega), (by show 4116 + 12 * t + 12 ≤ 4320; omega)⟩ dL_sound_483 hS hAr (fun H locs hG hz hq hS => ?_)
            have hG : St D r P Q n H := hG
            clear hz hq
            refine lv_iadd hx hb dL_sound_486 ?_
            refine topE (y := coS P (t + 1)) rfl ?_
            refine lv_istore (lv' := [(5, .int (coS P (t + 1))), (0, .ref r), (1, .int (nI (ns P))), (2, .int (nI (np P))), (3, .int (duS P (ns P))), (4, .int (ldS P (np P))), (6, .double (FP.i2d (nI mn))), (8, .double (FP.i2d (nI mx))), (10, .int (nI t))]) hx hb dL_sound_487 hl (by decide) rfl (fun ls hl => ?_)
            refine lv_iinc (v := nI (t + 1)) (lv' := [(10, .int (nI (t + 1))), (5, .int (coS P (t + 1))), (0, .ref r), (1, .int (nI (ns P))), (2, .int (nI (np P))), (3, .int (duS P (ns P))), (4, .int (ldS P (np P))), (6, .double (FP.i2d (nI mn))), (8, .double (FP.i2d (nI mx)))]) hx hb dL_sound_489 hl (k := 8) rfl (nI_add t 1) (by decide) rfl (fun ls hl => ?_)
            refine lv_goto (tgt := 471) hx hb dL_sound_492 (by decide) ?_
            refine W.widen (k := 686 + 2 * (t + 1)) (n := 4116 + 12 * (t + 1)) (by omega) (by omega) ?_
            exact ih (t + 1) _ _ _ (by omega) hG hS (lv_sub hl [2, 3, 4, 5, 6, 1, 7, 8, 0] rfl)
      refine W.widen (k := 686 + 2 * 0) (n := 4116 + 12 * 0) (by omega) (by omega) ?_
      exact L471 3 0 _ _ _ (by omega) hG hS (lv_sub hl [1, 2, 3, 4, 5, 6, 7, 8, 0] rfl)
    have L278 : ∀ (k : Nat) (q : Nat) (H : Heap) (locs : List Loc) (ls : Array Slot) (hq : q + k = np P) (hG : St D r P Q n H) (hS : va_S (fun q => r ≤ q) s.heap H locs) (hl : lv_has ls 14 [(0, .ref r), (1, .int (nI (ns P))), (2, .int (nI (np P))), (3, .int (duS P (ns P))), (4, .int (ldS P q)), (5, .int (coS P 0)), (6, .double (FP.i2d (nI mn))), (8, .double (FP.i2d (nI mx))), (10, .int (nI q))]), W p l e (headSpec (wA yL_sound cL_sound 14 (some .boolean)) (rmX 10 720 4320)).room s m args below meth c H locs (602 + 28 * q) (3612 + 168 * q) (MQ below (gQi (fun q => r ≤ q) 1 (fun H => St D r P Q n H)) args s 720 4320 (fun q => r ≤ q)) (F0 m 278 ls []) := by
      intro k
      induction k with
      | zero =>
        intro q H locs ls hq hG hS hl
        refine lv_iload hx hb dL_sound_278 (lv_at hl 8 rfl) ?_
        refine lv_iload_n hx hb dL_sound_280 rfl (lv_at hl 2 rfl) ?_
        refine lv_icmp_ge (tgt := 468) hx hb dL_sound_281 (by decide) (fun c281 => ?_) (fun c281 => ?_)
        · have c281 : np P ≤ q := (nI_leI (a := np P) (b := q) (by omega) (by omega)).mp c281
          obtain rfl : q = np P := by omega
          refine W.widen (k := 686) (n := 4116) (by omega) (by omega) ?_
          exact K468  _ _ _  hG hS (lv_sub hl [0, 1, 2, 3, 4, 5, 6, 7] rfl)
        · have c281 : ¬ np P ≤ q := fun hh9 => c281 ((nI_leI (a := np P) (b := q) (by omega) (by omega)).mpr hh9)
          exact absurd c281 (by omega)
      | succ k ih =>
        intro q H locs ls hq hG hS hl
        refine lv_iload hx hb dL_sound_278 (lv_at hl 8 rfl) ?_
        refine lv_iload_n hx hb dL_sound_280 rfl (lv_at hl 2 rfl) ?_
        refine lv_icmp_ge (tgt := 468) hx hb dL_sound_281 (by decide) (fun c281 => ?_) (fun c281 => ?_)
        · have c281 : np P ≤ q := (nI_leI (a := np P) (b := q) (by omega) (by omega)).mp c281
          exact absurd c281 (by omega)
        · have c281 : ¬ np P ≤ q := fun hh9 => c281 ((nI_leI (a := np P) (b := q) (by omega) (by omega)).mpr hh9)
          obtain ⟨K, b, a, g, s9, ro, me, p0, s1, p1, K1, p2, b1, p3, nc1, p4, a1, a2, p5, g1, g2, p6, ro1, p7, z9, z9e, me1, sh⟩ := snd_plow hI (show q < np P by omega)
          refine lv_aload_n hx hb dL_sound_284 rfl (lv_at hl 0 rfl) ?_
          refine lv_iload hx hb dL_sound_285 (lv_at hl 8 rfl) ?_
          refine lv_iconst (v := 3) hx hb dL_sound_287 (by decide) ?_
          refine lwS (As := [.ref r, .int (nI q), .int 3]) (rest := []) hx hb hml hown hts hl.1 hK hKx (fun _ h => h) (c_L_plow l hl0 D r P Q n (P (169 + 20 * q + 3)) (nI q) 3 (fun C h => R_plow (q := q) (k := 3) h (by omega) rfl (by decide))) (gHS qM_L_100 qT_L_plow qK_L qC_L_plow) hds_L_plow ⟨(Nat.le_of_ble_eq_true rfl), (Nat.le_of_ble_eq_true rfl)⟩ hG rfl (Nat.le_of_ble_eq_true rfl) ⟨(by show 602 + 28 * q + 2 ≤ 720; omega), (by show 3612 + 168 * q + 12 ≤ 4320; omega)⟩ dL_sound_288 hS hAr (fun H locs hG hz hq hS => ?_)
          have hG : St D r P Q n H := hG
          clear hz hq
          refine topN (n := nc P q) p3 ?_
          refine lv_istore (lv' := [(11, .int (nI (nc P q))), (0, .ref r), (1, .int (nI (ns P))), (2, .int (nI (np P))), (3, .int (duS P (ns P))), (4, .int (ldS P q)), (5, .int (coS P 0)), (6, .double (FP.i2d (nI mn))), (8, .double (FP.i2d (nI mx))), (10, .int (nI q))]) hx hb dL_sound_291 hl (by decide) rfl (fun ls hl => ?_)
          refine lv_aload_n hx hb dL_sound_293 rfl (lv_at hl 1 rfl) ?_
          refine lv_iload hx hb dL_sound_294 (lv_at hl 9 rfl) ?_
          refine lv_iconst (v := 4) hx hb dL_sound_296 (by decide) ?_
          refine lwS (As := [.ref r, .int (nI q), .int 4]) (rest := []) hx hb hml hown hts hl.1 hK hKx (fun _ h => h) (c_L_plow l hl0 D r P Q n (P (169 + 20 * q + 4)) (nI q) 4 (fun C h => R_plow (q := q) (k := 4) h (by omega) rfl (by decide))) (gHS qM_L_100 qT_L_plow qK_L qC_L_plow) hds_L_plow ⟨(Nat.le_of_ble_eq_true rfl), (Nat.le_of_ble_eq_true rfl)⟩ hG rfl (Nat.le_of_ble_eq_true rfl) ⟨(by show 602 + 28 * q + 2 + 2 ≤ 720; omega), (by show 3612 + 168 * q + 12 + 12 ≤ 4320; omega)⟩ dL_sound_297 hS hAr (fun H locs hG hz hq hS => ?_)
          have hG : St D r P Q n H := hG
          clear hz hq
          refine topN (n := a) p4 ?_
          refine lv_istore (lv' := [(12, .int (nI a)), (11, .int (nI (nc P q))), (0, .ref r), (1, .int (nI (ns P))), (2, .int (nI (np P))), (3, .int (duS P (ns P))), (4, .int (ldS P q)), (5, .int (coS P 0)), (6, .double (FP.i2d (nI mn))), (8, .double (FP.i2d (nI mx))), (10, .int (nI q))]) hx hb dL_sound_300 hl (by decide) rfl (fun ls hl => ?_)
          refine lv_aload_n hx hb dL_sound_302 rfl (lv_at hl 2 rfl) ?_
          refine lv_iload hx hb dL_sound_303 (lv_at hl 10 rfl) ?_
          refine lv_iconst (v := 5) hx hb dL_sound_305 (by decide) ?_
          refine lwS (As := [.ref r, .int (nI q), .int 5]) (rest := []) hx hb hml hown hts hl.1 hK hKx (fun _ h => h) (c_L_plow l hl0 D r P Q n (P (169 + 20 * q + 5)) (nI q) 5 (fun C h => R_plow (q := q) (k := 5) h (by omega) rfl (by decide))) (gHS qM_L_100 qT_L_plow qK_L qC_L_plow) hds_L_plow ⟨(Nat.le_of_ble_eq_true rfl), (Nat.le_of_ble_eq_true rfl)⟩ hG rfl (Nat.le_of_ble_eq_true rfl) ⟨(by show 602 + 28 * q + 2 + 2 + 2 ≤ 720; omega), (by show 3612 + 168 * q + 12 + 12 + 12 ≤ 4320; omega)⟩ dL_sound_306 hS hAr (fun H locs hG hz hq hS => ?_)
          have hG : St D r P Q n H := hG
          clear hz hq
          refine topN (n := g) p5 ?_
          refine lv_istore (lv' := [(13, .int (nI g)), (12, .int (nI a)), (11, .int (nI (nc P q))), (0, .ref r), (1, .int (nI (ns P))), (2, .int (nI (np P))), (3, .int (duS P (ns P))), (4, .int (ldS P q)), (5, .int (coS P 0)), (6, .double (FP.i2d (nI mn))), (8, .double (FP.i2d (nI mx))), (10, .int (nI q))]) hx hb dL_sound_309 hl (by decide) rfl (fun ls hl => ?_)
          refine lv_iload hx hb dL_sound_311 (lv_at hl 7 rfl) ?_
          refine lv_aload_n hx hb dL_sound_313 rfl (lv_at hl 3 rfl) ?_
          refine lv_iload hx hb dL_sound_314 (lv_at hl 11 rfl) ?_
          refine lv_iconst (v := 2) hx hb dL_sound_316 (by decide) ?_
          refine lwS (As := [.ref r, .int (nI q), .int 2]) (rest := [.int (ldS P q)]) hx hb hml hown hts hl.1 hK hKx (fun _ h => h) (c_L_plow l hl0 D r P Q n (P (169 + 20 * q + 2)) (nI q) 2 (fun C h => R_plow (q := q) (k := 2) h (by omega) rfl (by decide))) (gHS qM_L_100 qT_L_plow qK_L qC_L_plow) hds_L_plow ⟨(Nat.le_of_ble_eq_true rfl), (Nat.le_of_ble_eq_true rfl)⟩ hG rfl (Nat.le_of_ble_eq_true rfl) ⟨(by show 602 + 28 * q + 2 + 2 + 2 + 2 ≤ 720; omega), (by show 3612 + 168 * q + 12 + 12 + 12 + 12 ≤ 4320; omega)⟩ dL_sound_317 hS hAr (fun H locs hG hz hq hS => ?_)
          have hG : St D r P Q n H := hG
          clear hz hq
          refine lv_iadd hx hb dL_sound_320 ?_
          refine topE (y := ldS P (q + 1)) rfl ?_
          refine lv_istore (lv' := [(4, .int (ldS P (q + 1))), (13, .int (nI g)), (12, .int (nI a)), (11, .int (nI (nc P q))), (0, .ref r), (1, .int (nI (ns P))), (2, .int (nI (np P))), (3, .int (duS P (ns P))), (5, .int (coS P 0)), (6, .double (FP.i2d (nI mn))), (8, .double (FP.i2d (nI mx))), (10, .int (nI q))]) hx hb dL_sound_321 hl (by decide) rfl (fun ls hl => ?_)
          refine lv_aload_n hx hb dL_sound_323 rfl (lv_at hl 4 rfl) ?_
          refine lv_iload hx hb dL_sound_324 (lv_at hl 11 rfl) ?_
          refine lv_iconst (v := 2) hx hb dL_sound_326 (by decide) ?_
          refine lwS (As := [.ref r, .int (nI q), .int 2]) (rest := []) hx hb hml hown hts hl.1 hK hKx (fun _ h => h) (c_L_plow l hl0 D r P Q n (P (169 + 20 * q + 2)) (nI q) 2 (fun C h => R_plow (q := q) (k := 2) h (by omega) rfl (by decide))) (gHS qM_L_100 qT_L_plow qK_L qC_L_plow) hds_L_plow ⟨(Nat.le_of_ble_eq_true rfl), (Nat.le_of_ble_eq_true rfl)⟩ hG rfl (Nat.le_of_ble_eq_true rfl) ⟨(by show 602 + 28 * q + 2 + 2 + 2 + 2 + 2 ≤ 720; omega), (by show 3612 + 168 * q + 12 + 12 + 12 + 12 + 12 ≤ 4320; omega)⟩ dL_sound_327 hS hAr (fun H locs hG hz hq hS => ?_)
          have hG : St D r P Q n H := hG
          clear hz hq
          refine topN (n := b) p2 ?_
          refine lv_if_lt (tgt := 460) hx hb dL_sound_330 (by decide) (fun c330 => ?_) (fun c330 => ?_)
          · have c330 : b < 0 := (nI_ltI (a := b) (b := 0) (by omega) (by omega)).mp c330
            exact absurd c330 (by omega)
          · have c330 : ¬ b < 0 := fun hh9 => c330 ((nI_ltI (a := b) (b := 0) (by omega) (by omega)).mpr hh9)
            refine lv_aload_n hx hb dL_sound_333 rfl (lv_at hl 4 rfl) ?_
            refine lv_iload hx hb dL_sound_334 (lv_at hl 11 rfl) ?_
            refine lv_iconst (v := 2) hx hb dL_sound_336 (by decide) ?_
            refine lwS (As := [.ref r, .int (nI q), .int 2]) (rest := []) hx hb hml hown hts hl.1 hK hKx (fun _ h => h) (c_L_plow l hl0 D r P Q n (P (169 + 20 * q + 2)) (nI q) 2 (fun C h => R_plow (q := q) (k := 2) h (by omega) rfl (by decide))) (gHS qM_L_100 qT_L_plow qK_L qC_L_plow) hds_L_plow ⟨(Nat.le_of_ble_eq_true rfl), (Nat.le_of_ble_eq_true rfl)⟩ hG rfl (Nat.le_of_ble_eq_true rfl) ⟨(by show 602 + 28 * q + 2 + 2 + 2 + 2 + 2 + 2 ≤ 720; omega), (by show 3612 + 168 * q + 12 + 12 + 12 + 12 + 12 + 12 ≤ 4320; omega)⟩ dL_sound_337 hS hAr (fun H locs hG hz hq hS => ?_)
            have hG : St D r P Q n H := hG
            clear hz hq
            refine topN (n := b) p2 ?_
            refine lv_aload_n hx hb dL_sound_340 rfl (lv_at hl 4 rfl) ?_
            refine lv_iload hx hb dL_sound_341 (lv_at hl 11 rfl) ?_
            refine lv_iconst (v := 1) hx hb dL_sound_343 (by decide) ?_
            refine lwS (As := [.ref r, .int (nI q), .int 1]) (rest := [.int (nI b)]) hx hb hml hown hts hl.1 hK hKx (fun _ h => h) (c_L_plow l hl0 D r P Q n (P (169 + 20 * q + 1)) (nI q) 1 (fun C h => R_plow (q := q) (k := 1) h (by omega) rfl (by decide))) (gHS qM_L_100 qT_L_plow qK_L qC_L_plow) hds_L_plow ⟨(Nat.le_of_ble_eq_true rfl), (Nat.le_of_ble_eq_true rfl)⟩ hG rfl (Nat.le_of_ble_eq_true rfl) ⟨(by show 602 + 28 * q + 2 + 2 + 2 + 2 + 2 + 2 + 2 ≤ 720; omega), (by show 3612 + 168 * q + 12 + 12 + 12 + 12 + 12 + 12 + 12 ≤ 4320; omega)⟩ dL_sound_344 hS hAr (fun H locs hG hz hq hS => ?_)
            have hG : St D r P Q n H := hG
            clear hz hq
            refine topN (n := K) p1 ?_
            refine lv_icmp_gt (tgt := 460) hx hb dL_sound_347 (by decide) (fun c347 => ?_) (fun c347 => ?_)
            · have c347 : K < b := (nI_ltI (a := K) (b := b) (by omega) (by omega)).mp c347
              exact absurd c347 (by omega)
            · have c347 : ¬ K < b := fun hh9 => c347 ((nI_ltI (a := K) (b := b) (by omega) (by omega)).mpr hh9)
              refine lv_iload hx hb dL_sound_350 (lv_at hl 3 rfl) ?_
              refine lv_if_lt (tgt := 460) hx hb dL_sound_352 (by decide) (fun c352 => ?_) (fun c352 => ?_)
              · have c352 : nc P q < 0 := (nI_ltI (a := nc P q) (b := 0) (by omega) (by omega)).mp c352
                exact absurd c352 (by omega)
              · have c352 : ¬ nc P q < 0 := fun hh9 => c352 ((nI_ltI (a := nc P q) (b := 0) (by omega) (by omega)).mpr hh9)
                refine lv_iload hx hb dL_sound_355 (lv_at hl 3 rfl) ?_
                refine lv_bipush (v := 12) hx hb dL_sound_357 (by decide) ?_
                refine lv_icmp_gt (tgt := 460) hx hb dL_sound_359 (by decide) (fun c359 => ?_) (fun c359 => ?_)
                · have c359 : 12 < nc P q := (nI_ltI (a := 12) (b := nc P q) (by omega) (by omega)).mp c359
                  exact absurd c359 (by omega)
                · have c359 : ¬ 12 < nc P q := fun hh9 => c359 ((nI_ltI (a := 12) (b := nc P q) (by omega) (by omega)).mpr hh9)
                  refine lv_iload hx hb dL_sound_362 (lv_at hl 2 rfl) ?_
                  refine lv_if_lt (tgt := 460) hx hb dL_sound_364 (by decide) (fun c364 => ?_) (fun c364 => ?_)
                  · have c364 : a < 0 := (nI_ltI (a := a) (b := 0) (by omega) (by omega)).mp c364
                    exact absurd c364 (by omega)
                  · have c364 : ¬ a < 0 := fun hh9 => c364 ((nI_ltI (a := a) (b := 0) (by omega) (by omega)).mpr hh9)
                    refine lv_iload hx hb dL_sound_367 (lv_at hl 2 rfl) ?_
                    have K379 : ∀ (H : Heap) (locs : List Loc) (ls : Array Slot) (hG : St D r P Q n H) (hS : va_S (fun q => r ≤ q) s.heap H locs) (hl : lv_has ls 14 [(0, .ref r), (1, .int (nI (ns P))), (2, .int (nI (np P))), (3, .int (duS P (ns P))), (4, .int (ldS P (q + 1))), (5, .int (coS P 0)), (6, .double (FP.i2d (nI mn))), (8, .double (FP.i2d (nI mx))), (10, .int (nI q)), (11, .int (nI (nc P q))), (12, .int (nI a)), (13, .int (nI g))]), W p l e (headSpec (wA yL_sound cL_sound 14 (some .boolean)) (rmX 10 720 4320)).room s m args below meth c H locs (602 + 28 * q + 14) (3612 + 168 * q + 84) (MQ below (gQi (fun q => r ≤ q) 1 (fun H => St D r P Q n H)) args s 720 4320 (fun q => r ≤ q)) (F0 m 379 ls []) := by
                      intro H locs ls hG hS hl
                      refine lv_iload hx hb dL_sound_379 (lv_at hl 11 rfl) ?_
                      refine lv_if_lt (tgt := 460) hx hb dL_sound_381 (by decide) (fun c381 => ?_) (fun c381 => ?_)
                      · have c381 : g < 0 := (nI_ltI (a := g) (b := 0) (by omega) (by omega)).mp c381
                        exact absurd c381 (by omega)
                      · have c381 : ¬ g < 0 := fun hh9 => c381 ((nI_ltI (a := g) (b := 0) (by omega) (by omega)).mpr hh9)
                        refine lv_iload hx hb dL_sound_384 (lv_at hl 11 rfl) ?_
                        have K407 : ∀ (H : Heap) (locs : List Loc) (ls : Array Slot) (hG : St D r P Q n H) (hS : va_S (fun q => r ≤ q) s.heap H locs) (hl : lv_has ls 14 [(0, .ref r), (1, .int (nI (ns P))), (2, .int (nI (np P))), (3, .int (duS P (ns P))), (4, .int (ldS P (q + 1))), (5, .int (coS P 0)), (6, .double (FP.i2d (nI mn))), (8, .double (FP.i2d (nI mx))), (10, .int (nI q)), (11, .int (nI (nc P q))), (12, .int (nI a)), (13, .int (nI g))]), W p l e (headSpec (wA yL_sound cL_sound 14 (some .boolean)) (rmX 10 720 4320)).room s m args below meth c H locs (602 + 28 * q + 18) (3612 + 168 * q + 108) (MQ below (gQi (fun q => r ≤ q) 1 (fun H => St D r P Q n H)) args s 720 4320 (fun q => r ≤ q)) (F0 m 407 ls []) := by
                          intro H locs ls hG hS hl
                          refine lv_aload_n hx hb dL_sound_407 rfl (lv_at hl 0 rfl) ?_
                          refine lv_iload hx hb dL_sound_408 (lv_at hl 8 rfl) ?_
                          refine lv_bipush (v := 7) hx hb dL_sound_410 (by decide) ?_
                          refine lwS (As := [.ref r, .int (nI q), .int 7]) (rest := []) hx hb hml hown hts hl.1 hK hKx (fun _ h => h) (c_L_plow l hl0 D r P Q n (P (169 + 20 * q + 7)) (nI q) 7 (fun C h => R_plow (q := q) (k := 7) h (by omega) rfl (by decide))) (gHS qM_L_100 qT_L_plow qK_L qC_L_plow) hds_L_plow ⟨(Nat.le_of_ble_eq_true rfl), (Nat.le_of_ble_eq_true rfl)⟩ hG rfl (Nat.le_of_ble_eq_true rfl) ⟨(by show 602 + 28 * q + 18 + 2 ≤ 720; omega), (by show 3612 + 168 * q + 108 + 12 ≤ 4320; omega)⟩ dL_sound_412 hS hAr (fun H locs hG hz hq hS => ?_)
                          have hG : St D r P Q n H := hG
                          clear hz hq
                          refine topN (n := me) p7 ?_
                          refine lv_aload_n hx hb dL_sound_415 rfl (lv_at hl 0 rfl) ?_
                          refine lv_iload hx hb dL_sound_416 (lv_at hl 8 rfl) ?_
                          refine lv_iconst (v := 0) hx hb dL_sound_418 (by decide) ?_
                          refine lwS (As := [.ref r, .int (nI q), .int 0]) (rest := [.int (nI me)]) hx hb hml hown hts hl.1 hK hKx (fun _ h => h) (c_L_plow l hl0 D r P Q n (P (169 + 20 * q + 0)) (nI q) 0 (fun C h => R_plow (q := q) (k := 0) h (by omega) rfl (by decide))) (gHS qM_L_100 qT_L_plow qK_L qC_L_plow) hds_L_plow ⟨(Nat.le_of_ble_eq_true rfl), (Nat.le_of_ble_eq_true rfl)⟩ hG rfl (Nat.le_of_ble_eq_true rfl) ⟨(by show 602 + 28 * q + 18 + 2 + 2 ≤ 720; omega), (by show 3612 + 168 * q + 108 + 12 + 12 ≤ 4320; omega)⟩ dL_sound_419 hS hAr (fun H locs hG hz hq hS => ?_)
                          have hG : St D r P Q n H := hG
                          clear hz hq
                          refine topN (n := s9) p0 ?_
                          refine lv_aload_n hx hb dL_sound_422 rfl (lv_at hl 0 rfl) ?_
                          refine lv_iconst (v := 0) hx hb dL_sound_423 (by decide) ?_
                          refine lwS (As := [.ref r, .int 0]) (rest := [.int (nI s9), .int (nI me)]) hx hb hml hown hts hl.1 hK hKx (fun _ h => h) (c_L_value l hl0 D r P Q n (P 0) 0 (fun C h => (R_value (k := 0) h rfl (by decide)).trans rfl)) (gHS qM_L_88 qT_L_value qK_L qC_L_value) hds_L_value ⟨(Nat.le_of_ble_eq_true rfl), (Nat.le_of_ble_eq_true rfl)⟩ hG rfl (Nat.le_of_ble_eq_true rfl) ⟨(by show 602 + 28 * q + 18 + 2 + 2 + 1 ≤ 720; omega), (by show 3612 + 168 * q + 108 + 12 + 12 + 6 ≤ 4320; omega)⟩ dL_sound_424 hS hAr (fun H locs hG hz hq hS => ?_)
                          have hG : St D r P Q n H := hG
                          clear hz hq
                          refine topN (n := h) z0 ?_
                          refine imulN (a := s9) (b := h) hx hb dL_sound_427 ?_
                          refine topN (n := z9) (by rw [z9e]) ?_
                          refine lv_icmp_gt (tgt := 460) hx hb dL_sound_428 (by decide) (fun c428 => ?_) (fun c428 => ?_)
                          · have c428 : z9 < me := (nI_ltI (a := z9) (b := me) (by omega) (by omega)).mp c428
                            exact absurd c428 (by omega)
                          · have c428 : ¬ z9 < me := fun hh9 => c428 ((nI_ltI (a := z9) (b := me) (by omega) (by omega)).mpr hh9)
                            refine lv_aload_n hx hb dL_sound_431 rfl (lv_at hl 0 rfl) ?_
                            refine lv_iload hx hb dL_sound_432 (lv_at hl 8 rfl) ?_
                            refine lv_bipush (v := 6) hx hb dL_sound_434 (by decide) ?_
                            refine lwS (As := [.ref r, .int (nI q), .int 6]) (rest := []) hx hb hml hown hts hl.1 hK hKx (fun _ h => h) (c_L_plow l hl0 D r P Q n (P (169 + 20 * q + 6)) (nI q) 6 (fun C h => R_plow (q := q) (k := 6) h (by omega) rfl (by decide))) (gHS qM_L_100 qT_L_plow qK_L qC_L_plow) hds_L_plow ⟨(Nat.le_of_ble_eq_true rfl), (Nat.le_of_ble_eq_true rfl)⟩ hG rfl (Nat.le_of_ble_eq_true rfl) ⟨(by show 602 + 28 * q + 18 + 2 + 2 + 1 + 2 ≤ 720; omega), (by show 3612 + 168 * q + 108 + 12 + 12 + 6 + 12 ≤ 4320; omega)⟩ dL_sound_436 hS hAr (fun H locs hG hz hq hS => ?_)
                            have hG : St D r P Q n H := hG
                            clear hz hq
                            refine topN (n := ro) p6 ?_
                            refine lv_aload_n hx hb dL_sound_439 rfl (lv_at hl 0 rfl) ?_
                            refine lv_iconst (v := 0) hx hb dL_sound_440 (by decide) ?_
                            refine lwS (As := [.ref r, .int 0]) (rest := [.int (nI ro)]) hx hb hml hown hts hl.1 hK hKx (fun _ h => h) (c_L_value l hl0 D r P Q n (P 0) 0 (fun C h => (R_value (k := 0) h rfl (by decide)).trans rfl)) (gHS qM_L_88 qT_L_value qK_L qC_L_value) hds_L_value ⟨(Nat.le_of_ble_eq_true rfl), (Nat.le_of_ble_eq_true rfl)⟩ hG rfl (Nat.le_of_ble_eq_true rfl) ⟨(by show 602 + 28 * q + 18 + 2 + 2 + 1 + 2 + 1 ≤ 720; omega), (by show 3612 + 168 * q + 108 + 12 + 12 + 6 + 12 + 6 ≤ 4320; omega)⟩ dL_sound_441 hS hAr (fun H locs hG hz hq hS => ?_)
                            have hG : St D r P Q n H := hG
                            clear hz hq
                            refine topN (n := h) z0 ?_
                            refine lv_icmp_gt (tgt := 460) hx hb dL_sound_444 (by decide) (fun c444 => ?_) (fun c444 => ?_)
                            · have c444 : h < ro := (nI_ltI (a := h) (b := ro) (by omega) (by omega)).mp c444
                              exact absurd c444 (by omega)
                            · have c444 : ¬ h < ro := fun hh9 => c444 ((nI_ltI (a := h) (b := ro) (by omega) (by omega)).mpr hh9)
                              refine lv_aload_n hx hb dL_sound_447 rfl (lv_at hl 0 rfl) ?_
                              refine lv_iload hx hb dL_sound_448 (lv_at hl 8 rfl) ?_
                              refine lv_iload hx hb dL_sound_450 (lv_at hl 9 rfl) ?_
                              refine lwS (As := [.ref r, .int (nI q), .int (nI (nc P q))]) (rest := []) hx hb hml hown hts hl.1 hK hKx (fun _ h => h) (c_L_stop l hl0 D r P Q n (-90300) (nI q) (nI (nc P q)) (fun C h => R_stop_i (q := q) (j := nc P q) h (by omega) (Nat.le_refl _) (by omega))) (gHS qM_L_102 qT_L_stop qK_L qC_L_stop) hds_L_stop ⟨(Nat.le_of_ble_eq_true rfl), (Nat.le_of_ble_eq_true rfl)⟩ hG rfl (Nat.le_of_ble_eq_true rfl) ⟨(by show 602 + 28 * q + 18 + 2 + 2 + 1 + 2 + 1 + 2 ≤ 720; omega), (by show 3612 + 168 * q + 108 + 12 + 12 + 6 + 12 + 6 + 12 ≤ 4320; omega)⟩ dL_sound_452 hS hAr (fun H locs hG hz hq hS => ?_)
                              have hG : St D r P Q n H := hG
                              clear hz hq
                              refine lv_ldc hx hb hown (hts _ qV_L_29) dL_sound_455 ?_
                              refine lv_icmp_eq (tgt := 462) hx hb dL_sound_457 (by decide) (fun c457 => ?_) (fun c457 => ?_)
                              · refine lv_iinc (v := nI (q + 1)) (lv' := [(10, .int (nI (q + 1))), (0, .ref r), (1, .int (nI (ns P))), (2, .int (nI (np P))), (3, .int (duS P (ns P))), (4, .int (ldS P (q + 1))), (5, .int (coS P 0)), (6, .double (FP.i2d (nI mn))), (8, .double (FP.i2d (nI mx))), (11, .int (nI (nc P q))), (12, .int (nI a)), (13, .int (nI g))]) hx hb dL_sound_462 hl (k := 8) rfl (nI_add q 1) (by decide) rfl (fun ls hl => ?_)
                                refine lv_goto (tgt := 278) hx hb dL_sound_465 (by decide) ?_
                                refine W.widen (k := 602 + 28 * (q + 1)) (n := 3612 + 168 * (q + 1)) (by omega) (by omega) ?_
                                exact ih (q + 1) _ _ _ (by omega) hG hS (lv_sub hl [1, 2, 3, 4, 5, 6, 7, 8, 0] rfl)
                              · exact absurd c457 (by decide)
                        refine lv_if_le (tgt := 407) hx hb dL_sound_386 (by decide) (fun c386 => ?_) (fun c386 => ?_)
                        · have c386 : g ≤ 0 := (nI_leI (a := g) (b := 0) (by omega) (by omega)).mp c386
                          refine W.widen (k := 602 + 28 * q + 18) (n := 3612 + 168 * q + 108) (by omega) (by omega) ?_
                          exact K407  _ _ _  hG hS (lv_sub hl [0, 1, 2, 3, 4, 5, 6, 7, 8, 9, 10, 11] rfl)
                        · have c386 : ¬ g ≤ 0 := fun hh9 => c386 ((nI_leI (a := g) (b := 0) (by omega) (by omega)).mpr hh9)
                          obtain ⟨g3, rr, L, rr1, rr2, L1, L2, L3⟩ := g2 (by omega)
                          refine lv_iload hx hb dL_sound_389 (lv_at hl 11 rfl) ?_
                          refine lv_aload_n hx hb dL_sound_391 rfl (lv_at hl 0 rfl) ?_
                          refine lv_aload_n hx hb dL_sound_392 rfl (lv_at hl 0 rfl) ?_
                          refine lv_iload hx hb dL_sound_393 (lv_at hl 8 rfl) ?_
                          refine lv_iload hx hb dL_sound_395 (lv_at hl 10 rfl) ?_
                          refine lwS (As := [.ref r, .int (nI q), .int (nI a)]) (rest := [.ref r, .int (nI g)]) hx hb hml hown hts hl.1 hK hKx (fun _ h => h) (c_L_stop l hl0 D r P Q n (P (169 + 20 * q + 8 + a)) (nI q) (nI a) (fun C h => R_stop (q := q) (j := a) h (by omega) g3)) (gHS qM_L_102 qT_L_stop qK_L qC_L_stop) hds_L_stop ⟨(Nat.le_of_ble_eq_true rfl), (Nat.le_of_ble_eq_true rfl)⟩ hG rfl (Nat.le_of_ble_eq_true rfl) ⟨(by show 602 + 28 * q + 14 + 2 ≤ 720; omega), (by show 3612 + 168 * q + 84 + 12 ≤ 4320; omega)⟩ dL_sound_397 hS hAr (fun H locs hG hz hq hS => ?_)
                          have hG : St D r P Q n H := hG
                          clear hz hq
                          refine topN (n := rr) rr1 ?_
                          refine lv_iconst (v := 0) hx hb dL_sound_400 (by decide) ?_
                          refine lwS (As := [.ref r, .int (nI rr), .int 0]) (rest := [.int (nI g)]) hx hb hml hown hts hl.1 hK hKx (fun _ h => h) (c_L_street l hl0 D r P Q n (P (9 + 8 * rr + 0)) (nI rr) 0 (fun C h => (R_street (i := rr) (k := 0) h (by omega) rfl (by decide)).trans rfl)) (gHS qM_L_95 qT_L_street qK_L qC_L_street) hds_L_street ⟨(Nat.le_of_ble_eq_true rfl), (Nat.le_of_ble_eq_true rfl)⟩ hG rfl (Nat.le_of_ble_eq_true rfl) ⟨(by show 602 + 28 * q + 14 + 2 + 2 ≤ 720; omega), (by show 3612 + 168 * q + 84 + 12 + 12 ≤ 4320; omega)⟩ dL_sound_401 hS hAr (fun H locs hG hz hq hS => ?_)
                          have hG : St D r P Q n H := hG
                          clear hz hq
                          refine topN (n := L) L1 ?_
                          refine lv_icmp_ge (tgt := 460) hx hb dL_sound_404 (by decide) (fun c404 => ?_) (fun c404 => ?_)
                          · have c404 : L ≤ g := (nI_leI (a := L) (b := g) (by omega) (by omega)).mp c404
                            exact absurd c404 (by omega)
                          · have c404 : ¬ L ≤ g := fun hh9 => c404 ((nI_leI (a := L) (b := g) (by omega) (by omega)).mpr hh9)
                            refine W.widen (k := 602 + 28 * q + 18) (n := 3612 + 168 * q + 108) (by omega) (by omega) ?_
                            exact K407  _ _ _  hG hS (lv_sub hl [0, 1, 2, 3, 4, 5, 6, 7, 8, 9, 10, 11] rfl)
                    refine lv_if_le (tgt := 379) hx hb dL_sound_369 (by decide) (fun c369 => ?_) (fun c369 => ?_)
                    · have c369 : a ≤ 0 := (nI_leI (a := a) (b := 0) (by omega) (by omega)).mp c369
                      refine W.widen (k := 602 + 28 * q + 14) (n := 3612 + 168 * q + 84) (by omega) (by omega) ?_
                      exact K379  _ _ _  hG hS (lv_sub hl [4, 5, 6, 7, 0, 8, 9, 10, 11, 3, 2, 1] rfl)
                    · have c369 : ¬ a ≤ 0 := fun hh9 => c369 ((nI_leI (a := a) (b := 0) (by omega) (by omega)).mpr hh9)
                      refine lv_iload hx hb dL_sound_372 (lv_at hl 2 rfl) ?_
                      refine lv_iload hx hb dL_sound_374 (lv_at hl 3 rfl) ?_
                      have := a1 (by omega)
                      refine lv_icmp_ge (tgt := 460) hx hb dL_sound_376 (by decide) (fun c376 => ?_) (fun c376 => ?_)
                      · have c376 : nc P q ≤ a := (nI_leI (a := nc P q) (b := a) (by omega) (by omega)).mp c376
                        exact absurd c376 (by omega)
                      · have c376 : ¬ nc P q ≤ a := fun hh9 => c376 ((nI_leI (a := nc P q) (b := a) (by omega) (by omega)).mpr hh9)
                        refine W.widen (k := 602 + 28 * q + 14) (n := 3612 + 168 * q + 84) (by omega) (by omega) ?_
                        exact K379  _ _ _  hG hS (lv_sub hl [4, 5, 6, 7, 0, 8, 9, 10, 11, 3, 2, 1] rfl)
    refine W.widen (k := 602 + 28 * 0) (n := 3612 + 168 * 0) (by omega) (by omega) ?_
    exact L278 (np P) 0 _ _ _ (by omega) hG hS (lv_sub hl [1, 2, 3, 4, 5, 6, 7, 8, 0] rfl)
  have L31 : ∀ (k : Nat) (j : Nat) (mn : Nat) (mx : Nat) (H : Heap) (locs : List Loc) (ls : Array Slot) (hj : j + k = ns P) (hbd : ∀ i, i < j → ∀ d, d < 2 ^ 31 → P (9 + 8 * i + 2) = nI d → mn ≤ d ∧ d ≤ mx) (hm : mn ≤ 1000000 ∧ mx ≤ 1000000) (hG : St D r P Q n H) (hS : va_S (fun q => r ≤ q) s.heap H locs) (hl : lv_has ls 14 [(0, .ref r), (1, .int (nI (ns P))), (2, .int (nI (np P))), (3, .int (duS P j)), (4, .int (ldS P 0)), (5, .int (coS P 0)), (6, .double (FP.i2d (nI mn))), (8, .double (FP.i2d (nI mx))), (10, .int (nI j))]), W p l e (headSpec (wA yL_sound cL_sound 14 (some .boolean)) (rmX 10 720 4320)).room s m args below meth c H locs (2 + 30 * j) (12 + 180 * j) (MQ below (gQi (fun q => r ≤ q) 1 (fun H => St D r P Q n H)) args s 720 4320 (fun q => r ≤ q)) (F0 m 31 ls []) := by
    intro k
    induction k with
    | zero =>
      intro j mn mx H locs ls hj hbd hm hG hS hl
      refine lv_iload hx hb dL_sound_31 (lv_at hl 8 rfl) ?_
      refine lv_iload_n hx hb dL_sound_33 rfl (lv_at hl 1 rfl) ?_
      refine lv_icmp_ge (tgt := 275) hx hb dL_sound_34 (by decide) (fun c34 => ?_) (fun c34 => ?_)
      · have c34 : ns P ≤ j := (nI_leI (a := ns P) (b := j) (by omega) (by omega)).mp c34
        obtain rfl : j = ns P := by omega
        refine W.widen (k := 602) (n := 3612) (by omega) (by omega) ?_
        exact K275 mn mx _ _ _ hbd hm hG hS (lv_sub hl [0, 1, 2, 3, 4, 5, 6, 7] rfl)
      · have c34 : ¬ ns P ≤ j := fun hh9 => c34 ((nI_leI (a := ns P) (b := j) (by omega) (by omega)).mpr hh9)
        exact absurd c34 (by omega)
    | succ k ih =>
      intro j mn mx H locs ls hj hbd hm hG hS hl
      refine lv_iload hx hb dL_sound_31 (lv_at hl 8 rfl) ?_
      refine lv_iload_n hx hb dL_sound_33 rfl (lv_at hl 1 rfl) ?_
      refine lv_icmp_ge (tgt := 275) hx hb dL_sound_34 (by decide) (fun c34 => ?_) (fun c34 => ?_)
      · have c34 : ns P ≤ j := (nI_leI (a := ns P) (b := j) (by omega) (by omega)).mp c34
        exact absurd c34 (by omega)
      · have c34 : ¬ ns P ≤ j := fun hh9 => c34 ((nI_leI (a := ns P) (b := j) (by omega) (by omega)).mpr hh9)
        obtain ⟨d, we, ic, wa, cl, L, f2, d1, f3, w1, f4, i1, f5, wa1, f6, cl1, f7a, f7b, f7c, f1, p1, f0, L1, L2⟩ := snd_street hI (show j < ns P by omega)
        refine lv_aload_n hx hb dL_sound_37 rfl (lv_at hl 0 rfl) ?_
        refine lv_iload hx hb dL_sound_38 (lv_at hl 8 rfl) ?_
        refine lv_iconst (v := 2) hx hb dL_sound_40 (by decide) ?_
        refine lwS (As := [.ref r, .int (nI j), .int 2]) (rest := []) hx hb hml hown hts hl.1 hK hKx (fun _ h => h) (c_L_street l hl0 D r P Q n (P (9 + 8 * j + 2)) (nI j) 2 (fun C h => (R_street (i := j) (k := 2) h (by omega) rfl (by decide)).trans rfl)) (gHS qM_L_95 qT_L_street qK_L qC_L_street) hds_L_street ⟨(Nat.le_of_ble_eq_true rfl), (Nat.le_of_ble_eq_true rfl)⟩ hG rfl (Nat.le_of_ble_eq_true rfl) ⟨(by show 2 + 30 * j + 2 ≤ 720; omega), (by show 12 + 180 * j + 12 ≤ 4320; omega)⟩ dL_sound_41 hS hAr (fun H locs hG hz hq hS => ?_)
        have hG : St D r P Q n H := hG
        clear hz hq
        refine topN (n := d) f2 ?_
        refine lv_istore (lv' := [(11, .int (nI d)), (0, .ref r), (1, .int (nI (ns P))), (2, .int (nI (np P))), (3, .int (duS P j)), (4, .int (ldS P 0)), (5, .int (coS P 0)), (6, .double (FP.i2d (nI mn))), (8, .double (FP.i2d (nI mx))), (10, .int (nI j))]) hx hb dL_sound_44 hl (by decide) rfl (fun ls hl => ?_)
        refine lv_iload hx hb dL_sound_46 (lv_at hl 0 rfl) ?_
        refine lv_aload_n hx hb dL_sound_48 rfl (lv_at hl 1 rfl) ?_
        refine lv_aload_n hx hb dL_sound_49 rfl (lv_at hl 1 rfl) ?_
        refine lv_iload hx hb dL_sound_50 (lv_at hl 9 rfl) ?_
        refine lv_iconst (v := 1) hx hb dL_sound_52 (by decide) ?_
        refine lwS (As := [.ref r, .int (nI j), .int 1]) (rest := [.ref r, .int (nI d)]) hx hb hml hown hts hl.1 hK hKx (fun _ h => h) (c_L_street l hl0 D r P Q n (P (9 + 8 * j + 1)) (nI j) 1 (fun C h => (R_street (i := j) (k := 1) h (by omega) rfl (by decide)).trans rfl)) (gHS qM_L_95 qT_L_street qK_L qC_L_street) hds_L_street ⟨(Nat.le_of_ble_eq_true rfl), (Nat.le_of_ble_eq_true rfl)⟩ hG rfl (Nat.le_of_ble_eq_true rfl) ⟨(by show 2 + 30 * j + 2 + 2 ≤ 720; omega), (by show 12 + 180 * j + 12 + 12 ≤ 4320; omega)⟩ dL_sound_53 hS hAr (fun H locs hG hz hq hS => ?_)
        have hG : St D r P Q n H := hG
        clear hz hq
        refine topN (n := pr P j) f1 ?_
        refine lv_iconst (v := 0) hx hb dL_sound_56 (by decide) ?_
        refine lwS (As := [.ref r, .int (nI (pr P j)), .int 0]) (rest := [.int (nI d)]) hx hb hml hown hts hl.1 hK hKx (fun _ h => h) (c_L_terms l hl0 D r P Q n (P (229 + 4 * (pr P j) + 0)) (nI (pr P j)) 0 (fun C h => R_terms (t := pr P j) (k := 0) h rfl (by omega) rfl (by decide))) (gHS qM_L_98 qT_L_terms qK_L qC_L_terms) hds_L_terms ⟨(Nat.le_of_ble_eq_true rfl), (Nat.le_of_ble_eq_true rfl)⟩ hG rfl (Nat.le_of_ble_eq_true rfl) ⟨(by show 2 + 30 * j + 2 + 2 + 2 ≤ 720; omega), (by show 12 + 180 * j + 12 + 12 + 12 ≤ 4320; omega)⟩ dL_sound_57 hS hAr (fun H locs hG hz hq hS => ?_)
        have hG : St D r P Q n H := hG
        clear hz hq
        have K68 : ∀ (H : Heap) (locs : List Loc) (ls : Array Slot) (hG : St D r P Q n H) (hS : va_S (fun q => r ≤ q) s.heap H locs) (hl : lv_has ls 14 [(0, .ref r), (1, .int (nI (ns P))), (2, .int (nI (np P))), (3, .int (duS P j)), (4, .int (ldS P 0)), (5, .int (coS P 0)), (6, .double (FP.i2d (nI mn))), (8, .double (FP.i2d (nI mx))), (10, .int (nI j)), (11, .int (nI d))]), W p l e (headSpec (wA yL_sound cL_sound 14 (some .boolean)) (rmX 10 720 4320)).room s m args below meth c H locs (2 + 30 * j + 6) (12 + 180 * j + 36) (MQ below (gQi (fun q => r ≤ q) 1 (fun H => St D r P Q n H)) args s 720 4320 (fun q => r ≤ q)) (F0 m 68 ls [.int (if fR_X7_isDue P j = 0 then 0 else 1)]) := by
          intro H locs ls hG hS hl
          refine lv_istore (lv' := [(12, .int (if fR_X7_isDue P j = 0 then 0 else 1)), (0, .ref r), (1, .int (nI (ns P))), (2, .int (nI (np P))), (3, .int (duS P j)), (4, .int (ldS P 0)), (5, .int (coS P 0)), (6, .double (FP.i2d (nI mn))), (8, .double (FP.i2d (nI mx))), (10, .int (nI j)), (11, .int (nI d))]) hx hb dL_sound_68 hl (by decide) rfl (fun ls hl => ?_)
          refine lv_iload_n hx hb dL_sound_70 rfl (lv_at hl 4 rfl) ?_
          refine lv_aload_n hx hb dL_sound_71 rfl (lv_at hl 1 rfl) ?_
          refine lv_iload hx hb dL_sound_72 (lv_at hl 9 rfl) ?_
          refine lv_bipush (v := 6) hx hb dL_sound_74 (by decide) ?_
          refine lwS (As := [.ref r, .int (nI j), .int 6]) (rest := [.int (duS P j)]) hx hb hml hown hts hl.1 hK hKx (fun _ h => h) (c_L_street l hl0 D r P Q n (if fR_X7_isDue P j = 0 then 0 else 1) (nI j) 6 (fun C h => (R_street (i := j) (k := 6) h (by omega) rfl (by decide)).trans rfl)) (gHS qM_L_95 qT_L_street qK_L qC_L_street) hds_L_street ⟨(Nat.le_of_ble_eq_true rfl), (Nat.le_of_ble_eq_true rfl)⟩ hG rfl (Nat.le_of_ble_eq_true rfl) ⟨(by show 2 + 30 * j + 6 + 2 ≤ 720; omega), (by show 12 + 180 * j + 36 + 12 ≤ 4320; omega)⟩ dL_sound_76 hS hAr (fun H locs hG hz hq hS => ?_)
          have hG : St D r P Q n H := hG
          clear hz hq
          refine lv_iadd hx hb dL_sound_79 ?_
          refine topE (y := duS P (j + 1)) rfl ?_
          refine lv_istore_n (lv' := [(3, .int (duS P (j + 1))), (12, .int (if fR_X7_isDue P j = 0 then 0 else 1)), (0, .ref r), (1, .int (nI (ns P))), (2, .int (nI (np P))), (4, .int (ldS P 0)), (5, .int (coS P 0)), (6, .double (FP.i2d (nI mn))), (8, .double (FP.i2d (nI mx))), (10, .int (nI j)), (11, .int (nI d))]) hx hb dL_sound_80 rfl hl (by decide) rfl (fun ls hl => ?_)
          refine lv_iload hx hb dL_sound_81 (lv_at hl 10 rfl) ?_
          refine lv_i2d hx hb dL_sound_83 ?_
          refine lv_dload hx hb dL_sound_84 (lv_at hl 7 rfl) ?_
          refine lv_dcmp hx hb dL_sound_86 ?_
          have K98 : ∀ (mn2 : Nat) (H : Heap) (locs : List Loc) (ls : Array Slot) (hmn2 : mn2 ≤ mn ∧ mn2 ≤ d) (hG : St D r P Q n H) (hS : va_S (fun q => r ≤ q) s.heap H locs) (hl : lv_has ls 14 [(0, .ref r), (1, .int (nI (ns P))), (2, .int (nI (np P))), (3, .int (duS P (j + 1))), (4, .int (ldS P 0)), (5, .int (coS P 0)), (6, .double (FP.i2d (nI mn))), (8, .double (FP.i2d (nI mx))), (10, .int (nI j)), (11, .int (nI d)), (12, .int (if fR_X7_isDue P j = 0 then 0 else 1))]), W p l e (headSpec (wA yL_sound cL_sound 14 (some .boolean)) (rmX 10 720 4320)).room s m args below meth c H locs (2 + 30 * j + 6 + 2) (12 + 180 * j + 36 + 12) (MQ below (gQi (fun q => r ≤ q) 1 (fun H => St D r P Q n H)) args s 720 4320 (fun q => r ≤ q)) (F0 m 98 ls [.double (FP.i2d (nI mn2))]) := by
            intro mn2 H locs ls hmn2 hG hS hl
            refine lv_dstore (lv' := [(6, .double (FP.i2d (nI mn2))), (0, .ref r), (1, .int (nI (ns P))), (2, .int (nI (np P))), (3, .int (duS P (j + 1))), (4, .int (ldS P 0)), (5, .int (coS P 0)), (8, .double (FP.i2d (nI mx))), (10, .int (nI j)), (11, .int (nI d)), (12, .int (if fR_X7_isDue P j = 0 then 0 else 1))]) hx hb dL_sound_98 hl (by decide) rfl (fun ls hl => ?_)
            refine lv_iload hx hb dL_sound_100 (lv_at hl 9 rfl) ?_
            refine lv_i2d hx hb dL_sound_102 ?_
            refine lv_dload hx hb dL_sound_103 (lv_at hl 7 rfl) ?_
            refine lv_dcmp hx hb dL_sound_105 ?_
            have K117 : ∀ (mx2 : Nat) (H : Heap) (locs : List Loc) (ls : Array Slot) (hmx2 : mx ≤ mx2 ∧ d ≤ mx2 ∧ mx2 ≤ 1000000) (hG : St D r P Q n H) (hS : va_S (fun q => r ≤ q) s.heap H locs) (hl : lv_has ls 14 [(0, .ref r), (1, .int (nI (ns P))), (2, .int (nI (np P))), (3, .int (duS P (j + 1))), (4, .int (ldS P 0)), (5, .int (coS P 0)), (6, .double (FP.i2d (nI mn2))), (8, .double (FP.i2d (nI mx))), (10, .int (nI j)), (11, .int (nI d)), (12, .int (if fR_X7_isDue P j = 0 then 0 else 1))]), W p l e (headSpec (wA yL_sound cL_sound 14 (some .boolean)) (rmX 10 720 4320)).room s m args below meth c H locs (2 + 30 * j + 6 + 2) (12 + 180 * j + 36 + 12) (MQ below (gQi (fun q => r ≤ q) 1 (fun H => St D r P Q n H)) args s 720 4320 (fun q => r ≤ q)) (F0 m 117 ls [.double (FP.i2d (nI mx2))]) := by
              intro mx2 H locs ls hmx2 hG hS hl
              refine lv_dstore (lv' := [(8, .double (FP.i2d (nI mx2))), (0, .ref r), (1, .int (nI (ns P))), (2, .int (nI (np P))), (3, .int (duS P (j + 1))), (4, .int (ldS P 0)), (5, .int (coS P 0)), (6, .double (FP.i2d (nI mn2))), (10, .int (nI j)), (11, .int (nI d)), (12, .int (if fR_X7_isDue P j = 0 then 0 else 1))]) hx hb dL_sound_117 hl (by decide) rfl (fun ls hl => ?_)
              refine lv_iload hx hb dL_sound_119 (lv_at hl 9 rfl) ?_
              refine lv_if_lt (tgt := 267) hx hb dL_sound_121 (by decide) (fun c121 => ?_) (fun c121 => ?_)
              · have c121 : d < 0 := (nI_ltI (a := d) (b := 0) (by omega) (by omega)).mp c121
                exact absurd c121 (by omega)
              · have c121 : ¬ d < 0 := fun hh9 => c121 ((nI_ltI (a := d) (b := 0) (by omega) (by omega)).mpr hh9)
                refine lv_aload_n hx hb dL_sound_124 rfl (lv_at hl 1 rfl) ?_
                refine lv_iload hx hb dL_sound_125 (lv_at hl 8 rfl) ?_
                refine lv_iconst (v := 3) hx hb dL_sound_127 (by decide) ?_
                refine lwS (As := [.ref r, .int (nI j), .int 3]) (rest := []) hx hb hml hown hts hl.1 hK hKx (fun _ h => h) (c_L_street l hl0 D r P Q n (P (9 + 8 * j + 3)) (nI j) 3 (fun C h => (R_street (i := j) (k := 3) h (by omega) rfl (by decide)).trans rfl)) (gHS qM_L_95 qT_L_street qK_L qC_L_street) hds_L_street ⟨(Nat.le_of_ble_eq_true rfl), (Nat.le_of_ble_eq_true rfl)⟩ hG rfl (Nat.le_of_ble_eq_true rfl) ⟨(by show 2 + 30 * j + 6 + 2 + 2 ≤ 720; omega), (by show 12 + 180 * j + 36 + 12 + 12 ≤ 4320; omega)⟩ dL_sound_128 hS hAr (fun H locs hG hz hq hS => ?_)
                have hG : St D r P Q n H := hG
                clear hz hq
                refine topN (n := we) f3 ?_
                refine lv_if_lt (tgt := 267) hx hb dL_sound_131 (by decide) (fun c131 => ?_) (fun c131 => ?_)
                · have c131 : we < 0 := (nI_ltI (a := we) (b := 0) (by omega) (by omega)).mp c131
                  exact absurd c131 (by omega)
                · have c131 : ¬ we < 0 := fun hh9 => c131 ((nI_ltI (a := we) (b := 0) (by omega) (by omega)).mpr hh9)
                  refine lv_aload_n hx hb dL_sound_134 rfl (lv_at hl 1 rfl) ?_
                  refine lv_iload hx hb dL_sound_135 (lv_at hl 8 rfl) ?_
                  refine lv_iconst (v := 3) hx hb dL_sound_137 (by decide) ?_
                  refine lwS (As := [.ref r, .int (nI j), .int 3]) (rest := []) hx hb hml hown hts hl.1 hK hKx (fun _ h => h) (c_L_street l hl0 D r P Q n (P (9 + 8 * j + 3)) (nI j) 3 (fun C h => (R_street (i := j) (k := 3) h (by omega) rfl (by decide)).trans rfl)) (gHS qM_L_95 qT_L_street qK_L qC_L_street) hds_L_street ⟨(Nat.le_of_ble_eq_true rfl), (Nat.le_of_ble_eq_true rfl)⟩ hG rfl (Nat.le_of_ble_eq_true rfl) ⟨(by show 2 + 30 * j + 6 + 2 + 2 + 2 ≤ 720; omega), (by show 12 + 180 * j + 36 + 12 + 12 + 12 ≤ 4320; omega)⟩ dL_sound_138 hS hAr (fun H locs hG hz hq hS => ?_)
                  have hG : St D r P Q n H := hG
                  clear hz hq
                  refine topN (n := we) f3 ?_
                  refine lv_bipush (v := 100) hx hb dL_sound_141 (by decide) ?_
                  refine lv_icmp_gt (tgt := 267) hx hb dL_sound_143 (by decide) (fun c143 => ?_) (fun c143 => ?_)
                  · have c143 : 100 < we := (nI_ltI (a := 100) (b := we) (by omega) (by omega)).mp c143
                    exact absurd c143 (by omega)
                  · have c143 : ¬ 100 < we := fun hh9 => c143 ((nI_ltI (a := 100) (b := we) (by omega) (by omega)).mpr hh9)
                    refine lv_aload_n hx hb dL_sound_146 rfl (lv_at hl 1 rfl) ?_
                    refine lv_iload hx hb dL_sound_147 (lv_at hl 8 rfl) ?_
                    refine lv_iconst (v := 4) hx hb dL_sound_149 (by decide) ?_
                    refine lwS (As := [.ref r, .int (nI j), .int 4]) (rest := []) hx hb hml hown hts hl.1 hK hKx (fun _ h => h) (c_L_street l hl0 D r P Q n (P (9 + 8 * j + 4)) (nI j) 4 (fun C h => (R_street (i := j) (k := 4) h (by omega) rfl (by decide)).trans rfl)) (gHS qM_L_95 qT_L_street qK_L qC_L_street) hds_L_street ⟨(Nat.le_of_ble_eq_true rfl), (Nat.le_of_ble_eq_true rfl)⟩ hG rfl (Nat.le_of_ble_eq_true rfl) ⟨(by show 2 + 30 * j + 6 + 2 + 2 + 2 + 2 ≤ 720; omega), (by show 12 + 180 * j + 36 + 12 + 12 + 12 + 12 ≤ 4320; omega)⟩ dL_sound_150 hS hAr (fun H locs hG hz hq hS => ?_)
                    have hG : St D r P Q n H := hG
                    clear hz hq
                    refine topN (n := ic) f4 ?_
                    refine lv_if_lt (tgt := 267) hx hb dL_sound_153 (by decide) (fun c153 => ?_) (fun c153 => ?_)
                    · have c153 : ic < 0 := (nI_ltI (a := ic) (b := 0) (by omega) (by omega)).mp c153
                      exact absurd c153 (by omega)
                    · have c153 : ¬ ic < 0 := fun hh9 => c153 ((nI_ltI (a := ic) (b := 0) (by omega) (by omega)).mpr hh9)
                      refine lv_aload_n hx hb dL_sound_156 rfl (lv_at hl 1 rfl) ?_
                      refine lv_iload hx hb dL_sound_157 (lv_at hl 8 rfl) ?_
                      refine lv_iconst (v := 4) hx hb dL_sound_159 (by decide) ?_
                      refine lwS (As := [.ref r, .int (nI j), .int 4]) (rest := []) hx hb hml hown hts hl.1 hK hKx (fun _ h => h) (c_L_street l hl0 D r P Q n (P (9 + 8 * j + 4)) (nI j) 4 (fun C h => (R_street (i := j) (k := 4) h (by omega) rfl (by decide)).trans rfl)) (gHS qM_L_95 qT_L_street qK_L qC_L_street) hds_L_street ⟨(Nat.le_of_ble_eq_true rfl), (Nat.le_of_ble_eq_true rfl)⟩ hG rfl (Nat.le_of_ble_eq_true rfl) ⟨(by show 2 + 30 * j + 6 + 2 + 2 + 2 + 2 + 2 ≤ 720; omega), (by show 12 + 180 * j + 36 + 12 + 12 + 12 + 12 + 12 ≤ 4320; omega)⟩ dL_sound_160 hS hAr (fun H locs hG hz hq hS => ?_)
                      have hG : St D r P Q n H := hG
                      clear hz hq
                      refine topN (n := ic) f4 ?_
                      refine lv_bipush (v := 100) hx hb dL_sound_163 (by decide) ?_
                      refine lv_icmp_gt (tgt := 267) hx hb dL_sound_165 (by decide) (fun c165 => ?_) (fun c165 => ?_)
                      · have c165 : 100 < ic := (nI_ltI (a := 100) (b := ic) (by omega) (by omega)).mp c165
                        exact absurd c165 (by omega)
                      · have c165 : ¬ 100 < ic := fun hh9 => c165 ((nI_ltI (a := 100) (b := ic) (by omega) (by omega)).mpr hh9)
                        refine lv_aload_n hx hb dL_sound_168 rfl (lv_at hl 1 rfl) ?_
                        refine lv_iload hx hb dL_sound_169 (lv_at hl 8 rfl) ?_
                        refine lv_iconst (v := 5) hx hb dL_sound_171 (by decide) ?_
                        refine lwS (As := [.ref r, .int (nI j), .int 5]) (rest := []) hx hb hml hown hts hl.1 hK hKx (fun _ h => h) (c_L_street l hl0 D r P Q n (P (9 + 8 * j + 5)) (nI j) 5 (fun C h => (R_street (i := j) (k := 5) h (by omega) rfl (by decide)).trans rfl)) (gHS qM_L_95 qT_L_street qK_L qC_L_street) hds_L_street ⟨(Nat.le_of_ble_eq_true rfl), (Nat.le_of_ble_eq_true rfl)⟩ hG rfl (Nat.le_of_ble_eq_true rfl) ⟨(by show 2 + 30 * j + 6 + 2 + 2 + 2 + 2 + 2 + 2 ≤ 720; omega), (by show 12 + 180 * j + 36 + 12 + 12 + 12 + 12 + 12 + 12 ≤ 4320; omega)⟩ dL_sound_172 hS hAr (fun H locs hG hz hq hS => ?_)
                        have hG : St D r P Q n H := hG
                        clear hz hq
                        refine topN (n := wa) f5 ?_
                        refine lv_if_lt (tgt := 267) hx hb dL_sound_175 (by decide) (fun c175 => ?_) (fun c175 => ?_)
                        · have c175 : wa < 0 := (nI_ltI (a := wa) (b := 0) (by omega) (by omega)).mp c175
                          exact absurd c175 (by omega)
                        · have c175 : ¬ wa < 0 := fun hh9 => c175 ((nI_ltI (a := wa) (b := 0) (by omega) (by omega)).mpr hh9)
                          refine lv_aload_n hx hb dL_sound_178 rfl (lv_at hl 1 rfl) ?_
                          refine lv_iload hx hb dL_sound_179 (lv_at hl 8 rfl) ?_
                          refine lv_iconst (v := 5) hx hb dL_sound_181 (by decide) ?_
                          refine lwS (As := [.ref r, .int (nI j), .int 5]) (rest := []) hx hb hml hown hts hl.1 hK hKx (fun _ h => h) (c_L_street l hl0 D r P Q n (P (9 + 8 * j + 5)) (nI j) 5 (fun C h => (R_street (i := j) (k := 5) h (by omega) rfl (by decide)).trans rfl)) (gHS qM_L_95 qT_L_street qK_L qC_L_street) hds_L_street ⟨(Nat.le_of_ble_eq_true rfl), (Nat.le_of_ble_eq_true rfl)⟩ hG rfl (Nat.le_of_ble_eq_true rfl) ⟨(by show 2 + 30 * j + 6 + 2 + 2 + 2 + 2 + 2 + 2 + 2 ≤ 720; omega), (by show 12 + 180 * j + 36 + 12 + 12 + 12 + 12 + 12 + 12 + 12 ≤ 4320; omega)⟩ dL_sound_182 hS hAr (fun H locs hG hz hq hS => ?_)
                          have hG : St D r P Q n H := hG
                          clear hz hq
                          refine topN (n := wa) f5 ?_
                          refine lv_aload_n hx hb dL_sound_185 rfl (lv_at hl 1 rfl) ?_
                          refine lv_iconst (v := 0) hx hb dL_sound_186 (by decide) ?_
                          refine lwS (As := [.ref r, .int 0]) (rest := [.int (nI wa)]) hx hb hml hown hts hl.1 hK hKx (fun _ h => h) (c_L_value l hl0 D r P Q n (P 0) 0 (fun C h => (R_value (k := 0) h rfl (by decide)).trans rfl)) (gHS qM_L_88 qT_L_value qK_L qC_L_value) hds_L_value ⟨(Nat.le_of_ble_eq_true rfl), (Nat.le_of_ble_eq_true rfl)⟩ hG rfl (Nat.le_of_ble_eq_true rfl) ⟨(by show 2 + 30 * j + 6 + 2 + 2 + 2 + 2 + 2 + 2 + 2 + 1 ≤ 720; omega), (by show 12 + 180 * j + 36 + 12 + 12 + 12 + 12 + 12 + 12 + 12 + 6 ≤ 4320; omega)⟩ dL_sound_187 hS hAr (fun H locs hG hz hq hS => ?_)
                          have hG : St D r P Q n H := hG
                          clear hz hq
                          refine topN (n := h) z0 ?_
                          refine lv_icmp_gt (tgt := 267) hx hb dL_sound_190 (by decide) (fun c190 => ?_) (fun c190 => ?_)
                          · have c190 : h < wa := (nI_ltI (a := h) (b := wa) (by omega) (by omega)).mp c190
                            exact absurd c190 (by omega)
                          · have c190 : ¬ h < wa := fun hh9 => c190 ((nI_ltI (a := h) (b := wa) (by omega) (by omega)).mpr hh9)
                            refine lv_aload_n hx hb dL_sound_193 rfl (lv_at hl 1 rfl) ?_
                            refine lv_iload hx hb dL_sound_194 (lv_at hl 8 rfl) ?_
                            refine lv_bipush (v := 6) hx hb dL_sound_196 (by decide) ?_
                            refine lwS (As := [.ref r, .int (nI j), .int 6]) (rest := []) hx hb hml hown hts hl.1 hK hKx (fun _ h => h) (c_L_street l hl0 D r P Q n (if fR_X7_isDue P j = 0 then 0 else 1) (nI j) 6 (fun C h => (R_street (i := j) (k := 6) h (by omega) rfl (by decide)).trans rfl)) (gHS qM_L_95 qT_L_street qK_L qC_L_street) hds_L_street ⟨(Nat.le_of_ble_eq_true rfl), (Nat.le_of_ble_eq_true rfl)⟩ hG rfl (Nat.le_of_ble_eq_true rfl) ⟨(by show 2 + 30 * j + 6 + 2 + 2 + 2 + 2 + 2 + 2 + 2 + 1 + 2 ≤ 720; omega), (by show 12 + 180 * j + 36 + 12 + 12 + 12 + 12 + 12 + 12 + 12 + 6 + 12 ≤ 4320; omega)⟩ dL_sound_198 hS hAr (fun H locs hG hz hq hS => ?_)
                            have hG : St D r P Q n H := hG
                            clear hz hq
                            refine lv_iconst (v := 1) hx hb dL_sound_201 (by decide) ?_
                            have K215 : ∀ (H : Heap) (locs : List Loc) (ls : Array Slot) (hG : St D r P Q n H) (hS : va_S (fun q => r ≤ q) s.heap H locs) (hl : lv_has ls 14 [(0, .ref r), (1, .int (nI (ns P))), (2, .int (nI (np P))), (3, .int (duS P (j + 1))), (4, .int (ldS P 0)), (5, .int (coS P 0)), (6, .double (FP.i2d (nI mn2))), (8, .double (FP.i2d (nI mx2))), (10, .int (nI j)), (11, .int (nI d)), (12, .int (if fR_X7_isDue P j = 0 then 0 else 1))]), W p l e (headSpec (wA yL_sound cL_sound 14 (some .boolean)) (rmX 10 720 4320)).room s m args below meth c H locs (2 + 30 * j + 23) (12 + 180 * j + 138) (MQ below (gQi (fun q => r ≤ q) 1 (fun H => St D r P Q n H)) args s 720 4320 (fun q => r ≤ q)) (F0 m 215 ls []) := by
                              intro H locs ls hG hS hl
                              refine lv_aload_n hx hb dL_sound_215 rfl (lv_at hl 0 rfl) ?_
                              refine lv_iload hx hb dL_sound_216 (lv_at hl 8 rfl) ?_
                              refine lv_bipush (v := 7) hx hb dL_sound_218 (by decide) ?_
                              refine lwS (As := [.ref r, .int (nI j), .int 7]) (rest := []) hx hb hml hown hts hl.1 hK hKx (fun _ h => h) (c_L_street l hl0 D r P Q n (P (9 + 8 * j + 6)) (nI j) 7 (fun C h => (R_street (i := j) (k := 7) h (by omega) rfl (by decide)).trans rfl)) (gHS qM_L_95 qT_L_street qK_L qC_L_street) hds_L_street ⟨(Nat.le_of_ble_eq_true rfl), (Nat.le_of_ble_eq_true rfl)⟩ hG rfl (Nat.le_of_ble_eq_true rfl) ⟨(by show 2 + 30 * j + 23 + 2 ≤ 720; omega), (by show 12 + 180 * j + 138 + 12 ≤ 4320; omega)⟩ dL_sound_220 hS hAr (fun H locs hG hz hq hS => ?_)
                              have hG : St D r P Q n H := hG
                              clear hz hq
                              refine topN (n := cl) f6 ?_
                              have K251 : ∀ (H : Heap) (locs : List Loc) (ls : Array Slot) (hG : St D r P Q n H) (hS : va_S (fun q => r ≤ q) s.heap H locs) (hl : lv_has ls 14 [(0, .ref r), (1, .int (nI (ns P))), (2, .int (nI (np P))), (3, .int (duS P (j + 1))), (4, .int (ldS P 0)), (5, .int (coS P 0)), (6, .double (FP.i2d (nI mn2))), (8, .double (FP.i2d (nI mx2))), (10, .int (nI j)), (11, .int (nI d)), (12, .int (if fR_X7_isDue P j = 0 then 0 else 1))]), W p l e (headSpec (wA yL_sound cL_sound 14 (some .boolean)) (rmX 10 720 4320)).room s m args below meth c H locs (2 + 30 * j + 27) (12 + 180 * j + 162) (MQ below (gQi (fun q => r ≤ q) 1 (fun H => St D r P Q n H)) args s 720 4320 (fun q => r ≤ q)) (F0 m 251 ls []) := by
                                intro H locs ls hG hS hl
                                refine lv_aload_n hx hb dL_sound_251 rfl (lv_at hl 0 rfl) ?_
                                refine lv_iload hx hb dL_sound_252 (lv_at hl 8 rfl) ?_
                                refine lv_bipush (v := 8) hx hb dL_sound_254 (by decide) ?_
                                refine lwS (As := [.ref r, .int (nI j), .int 8]) (rest := []) hx hb hml hown hts hl.1 hK hKx (fun _ h => h) (c_L_street l hl0 D r P Q n (P (9 + 8 * j + 7)) (nI j) 8 (fun C h => (R_street (i := j) (k := 8) h (by omega) rfl (by decide)).trans rfl)) (gHS qM_L_95 qT_L_street qK_L qC_L_street) hds_L_street ⟨(Nat.le_of_ble_eq_true rfl), (Nat.le_of_ble_eq_true rfl)⟩ hG rfl (Nat.le_of_ble_eq_true rfl) ⟨(by show 2 + 30 * j + 27 + 2 ≤ 720; omega), (by show 12 + 180 * j + 162 + 12 ≤ 4320; omega)⟩ dL_sound_256 hS hAr (fun H locs hG hz hq hS => ?_)
                                have hG : St D r P Q n H := hG
                                clear hz hq
                                refine lv_aload_n hx hb dL_sound_259 rfl (lv_at hl 0 rfl) ?_
                                refine lv_iconst (v := 0) hx hb dL_sound_260 (by decide) ?_
                                refine lwS (As := [.ref r, .int 0]) (rest := [.int (P (9 + 8 * j + 7))]) hx hb hml hown hts hl.1 hK hKx (fun _ h => h) (c_L_value l hl0 D r P Q n (P 0) 0 (fun C h => (R_value (k := 0) h rfl (by decide)).trans rfl)) (gHS qM_L_88 qT_L_value qK_L qC_L_value) hds_L_value ⟨(Nat.le_of_ble_eq_true rfl), (Nat.le_of_ble_eq_true rfl)⟩ hG rfl (Nat.le_of_ble_eq_true rfl) ⟨(by show 2 + 30 * j + 27 + 2 + 1 ≤ 720; omega), (by show 12 + 180 * j + 162 + 12 + 6 ≤ 4320; omega)⟩ dL_sound_261 hS hAr (fun H locs hG hz hq hS => ?_)
                                have hG : St D r P Q n H := hG
                                clear hz hq
                                refine topN (n := h) z0 ?_
                                refine lv_icmp_lt (tgt := 269) hx hb dL_sound_264 (by decide) (fun c264 => ?_) (fun c264 => ?_)
                                · refine lv_iinc (v := nI (j + 1)) (lv' := [(10, .int (nI (j + 1))), (0, .ref r), (1, .int (nI (ns P))), (2, .int (nI (np P))), (3, .int (duS P (j + 1))), (4, .int (ldS P 0)), (5, .int (coS P 0)), (6, .double (FP.i2d (nI mn2))), (8, .double (FP.i2d (nI mx2))), (11, .int (nI d)), (12, .int (if fR_X7_isDue P j = 0 then 0 else 1))]) hx hb dL_sound_269 hl (k := 8) rfl (nI_add j 1) (by decide) rfl (fun ls hl => ?_)
                                  refine lv_goto (tgt := 31) hx hb dL_sound_272 (by decide) ?_
                                  refine W.widen (k := 2 + 30 * (j + 1)) (n := 12 + 180 * (j + 1)) (by omega) (by omega) ?_
                                  exact ih (j + 1) mn2 mx2 _ _ _ (by omega) (bnd_step hbd hmn2 hmx2 f2 d1) (by omega) hG hS (lv_sub hl [1, 2, 3, 4, 5, 6, 7, 8, 0] rfl)
                                · exact absurd f7c c264
                              refine lv_if_ne (tgt := 230) hx hb dL_sound_223 (by decide) (fun c223 => ?_) (fun c223 => ?_)
                              · have c223 : ¬ cl = 0 := fun hh9 => c223 ((nI_eq (a := cl) (b := 0) (by omega) (by omega)).mpr hh9)
                                refine lv_iconst (v := 0) hx hb dL_sound_230 (by decide) ?_
                                refine lv_aload_n hx hb dL_sound_231 rfl (lv_at hl 0 rfl) ?_
                                refine lv_iload hx hb dL_sound_232 (lv_at hl 8 rfl) ?_
                                refine lv_bipush (v := 8) hx hb dL_sound_234 (by decide) ?_
                                refine lwS (As := [.ref r, .int (nI j), .int 8]) (rest := [.int 0]) hx hb hml hown hts hl.1 hK hKx (fun _ h => h) (c_L_street l hl0 D r P Q n (P (9 + 8 * j + 7)) (nI j) 8 (fun C h => (R_street (i := j) (k := 8) h (by omega) rfl (by decide)).trans rfl)) (gHS qM_L_95 qT_L_street qK_L qC_L_street) hds_L_street ⟨(Nat.le_of_ble_eq_true rfl), (Nat.le_of_ble_eq_true rfl)⟩ hG rfl (Nat.le_of_ble_eq_true rfl) ⟨(by show 2 + 30 * j + 23 + 2 + 2 ≤ 720; omega), (by show 12 + 180 * j + 138 + 12 + 12 ≤ 4320; omega)⟩ dL_sound_236 hS hAr (fun H locs hG hz hq hS => ?_)
                                have hG : St D r P Q n H := hG
                                clear hz hq
                                refine lv_iconst (v := (-1)) hx hb dL_sound_239 (by decide) ?_
                                refine lv_icmp_ne (tgt := 247) hx hb dL_sound_240 (by decide) (fun c240 => ?_) (fun c240 => ?_)
                                · refine lv_iconst (v := 0) hx hb dL_sound_247 (by decide) ?_
                                  refine lv_icmp_ne (tgt := 267) hx hb dL_sound_248 (by decide) (fun c248 => ?_) (fun c248 => ?_)
                                  · exact absurd c248 (by decide)
                                  · refine W.widen (k := 2 + 30 * j + 27) (n := 12 + 180 * j + 162) (by omega) (by omega) ?_
                                    exact K251  _ _ _  hG hS (lv_sub hl [0, 1, 2, 3, 4, 5, 6, 7, 8, 9, 10] rfl)
                                · exact absurd c240 (f7b c223)
                              · have c223 : cl = 0 := (nI_eq (a := cl) (b := 0) (by omega) (by omega)).mp c223
                                refine lv_iconst (v := 1) hx hb dL_sound_226 (by decide) ?_
                                refine lv_goto (tgt := 231) hx hb dL_sound_227 (by decide) ?_
                                refine lv_aload_n hx hb dL_sound_231 rfl (lv_at hl 0 rfl) ?_
                                refine lv_iload hx hb dL_sound_232 (lv_at hl 8 rfl) ?_
                                refine lv_bipush (v := 8) hx hb dL_sound_234 (by decide) ?_
                                refine lwS (As := [.ref r, .int (nI j), .int 8]) (rest := [.int 1]) hx hb hml hown hts hl.1 hK hKx (fun _ h => h) (c_L_street l hl0 D r P Q n (P (9 + 8 * j + 7)) (nI j) 8 (fun C h => (R_street (i := j) (k := 8) h (by omega) rfl (by decide)).trans rfl)) (gHS qM_L_95 qT_L_street qK_L qC_L_street) hds_L_street ⟨(Nat.le_of_ble_eq_true rfl), (Nat.le_of_ble_eq_true rfl)⟩ hG rfl (Nat.le_of_ble_eq_true rfl) ⟨(by show 2 + 30 * j + 23 + 2 + 2 ≤ 720; omega), (by show 12 + 180 * j + 138 + 12 + 12 ≤ 4320; omega)⟩ dL_sound_236 hS hAr (fun H locs hG hz hq hS => ?_)
                                have hG : St D r P Q n H := hG
                                clear hz hq
                                refine lv_iconst (v := (-1)) hx hb dL_sound_239 (by decide) ?_
                                refine lv_icmp_ne (tgt := 247) hx hb dL_sound_240 (by decide) (fun c240 => ?_) (fun c240 => ?_)
                                · exact absurd (f7a c223) c240
                                · refine lv_iconst (v := 1) hx hb dL_sound_243 (by decide) ?_
                                  refine lv_goto (tgt := 248) hx hb dL_sound_244 (by decide) ?_
                                  refine lv_icmp_ne (tgt := 267) hx hb dL_sound_248 (by decide) (fun c248 => ?_) (fun c248 => ?_)
                                  · exact absurd c248 (by decide)
                                  · refine W.widen (k := 2 + 30 * j + 27) (n := 12 + 180 * j + 162) (by omega) (by omega) ?_
                                    exact K251  _ _ _  hG hS (lv_sub hl [0, 1, 2, 3, 4, 5, 6, 7, 8, 9, 10] rfl)
                            refine lv_icmp_ne (tgt := 209) hx hb dL_sound_202 (by decide) (fun c202 => ?_) (fun c202 => ?_)
                            · refine lv_iconst (v := 0) hx hb dL_sound_209 (by decide) ?_
                              refine lv_iload hx hb dL_sound_210 (lv_at hl 10 rfl) ?_
                              refine lv_icmp_ne (tgt := 267) hx hb dL_sound_212 (by decide) (fun c212 => ?_) (fun c212 => ?_)
                              · first | exact absurd (due_0 c202) c212 | exact absurd c202.symm c212
                              · refine W.widen (k := 2 + 30 * j + 23) (n := 12 + 180 * j + 138) (by omega) (by omega) ?_
                                exact K215  _ _ _  hG hS (lv_sub hl [1, 2, 3, 4, 5, 6, 7, 0, 8, 9, 10] rfl)
                            · refine lv_iconst (v := 1) hx hb dL_sound_205 (by decide) ?_
                              refine lv_goto (tgt := 210) hx hb dL_sound_206 (by decide) ?_
                              refine lv_iload hx hb dL_sound_210 (lv_at hl 10 rfl) ?_
                              refine lv_icmp_ne (tgt := 267) hx hb dL_sound_212 (by decide) (fun c212 => ?_) (fun c212 => ?_)
                              · first | exact absurd (due_0 c202) c212 | exact absurd c202.symm c212
                              · refine W.widen (k := 2 + 30 * j + 23) (n := 12 + 180 * j + 138) (by omega) (by omega) ?_
                                exact K215  _ _ _  hG hS (lv_sub hl [1, 2, 3, 4, 5, 6, 7, 0, 8, 9, 10] rfl)
            refine lv_if_le (tgt := 115) hx hb dL_sound_106 (by decide) (fun c106 => ?_) (fun c106 => ?_)
            · refine lv_dload hx hb dL_sound_115 (lv_at hl 7 rfl) ?_
              exact K117 mx _ _ _ ⟨Nat.le_refl _, dl_le (by omega) (by omega) c106, by omega⟩ hG hS (lv_sub hl [1, 2, 3, 4, 5, 6, 0, 7, 8, 9, 10] rfl)
            · refine lv_iload hx hb dL_sound_109 (lv_at hl 9 rfl) ?_
              refine lv_i2d hx hb dL_sound_111 ?_
              refine lv_goto (tgt := 117) hx hb dL_sound_112 (by decide) ?_
              exact K117 d _ _ _ ⟨Nat.le_of_lt (dl_gt (by omega) (by omega) c106), Nat.le_refl _, by omega⟩ hG hS (lv_sub hl [1, 2, 3, 4, 5, 6, 0, 7, 8, 9, 10] rfl)
          refine lv_if_ge (tgt := 96) hx hb dL_sound_87 (by decide) (fun c87 => ?_) (fun c87 => ?_)
          · refine lv_dload hx hb dL_sound_96 (lv_at hl 7 rfl) ?_
            exact K98 mn _ _ _ ⟨Nat.le_refl _, dg_ge (by omega) (by omega) c87⟩ hG hS (lv_sub hl [2, 3, 4, 0, 5, 6, 7, 8, 9, 10, 1] rfl)
          · refine lv_iload hx hb dL_sound_90 (lv_at hl 10 rfl) ?_
            refine lv_i2d hx hb dL_sound_92 ?_
            refine lv_goto (tgt := 98) hx hb dL_sound_93 (by decide) ?_
            exact K98 d _ _ _ ⟨Nat.le_of_lt (dg_lt (by omega) (by omega) c87), Nat.le_refl _⟩ hG hS (lv_sub hl [2, 3, 4, 0, 5, 6, 7, 8, 9, 10, 1] rfl)
        refine lv_icmp_lt (tgt := 67) hx hb dL_sound_60 (by decide) (fun c60 => ?_) (fun c60 => ?_)
        · refine lv_iconst (v := 0) hx hb dL_sound_67 (by decide) ?_
          refine topE (y := if fR_X7_isDue P j = 0 then 0 else 1) (due_t (by rw [f2]; exact c60)) ?_
          refine W.widen (k := 2 + 30 * j + 6) (n := 12 + 180 * j + 36) (by omega) (by omega) ?_
          exact K68  _ _ _  hG hS (lv_sub hl [1, 2, 3, 4, 5, 6, 7, 8, 9, 0] rfl)
        · refine lv_iconst (v := 1) hx hb dL_sound_63 (by decide) ?_
          refine topE (y := if fR_X7_isDue P j = 0 then 0 else 1) (due_f (by rw [f2]; exact c60)) ?_
          refine lv_goto (tgt := 68) hx hb dL_sound_64 (by decide) ?_
          refine W.widen (k := 2 + 30 * j + 6) (n := 12 + 180 * j + 36) (by omega) (by omega) ?_
          exact K68  _ _ _  hG hS (lv_sub hl [1, 2, 3, 4, 5, 6, 7, 8, 9, 0] rfl)
  refine W.widen (k := 2 + 30 * 0) (n := 12 + 180 * 0) (by omega) (by omega) ?_
  exact L31 (ns P) 0 1000000 0 _ _ _ (by omega) (fun i hi => absurd hi (by omega)) (by omega) hG hS (lv_sub hl [8, 7, 6, 5, 4, 3, 2, 1, 0] rfl)
