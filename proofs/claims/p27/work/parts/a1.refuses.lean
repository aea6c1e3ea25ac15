theorem hds_L_refuses : yL_refuses.cls ≠ "java/lang/invoke/MethodHandle" ∧ yL_refuses.cls ≠ "java/lang/invoke/VarHandle" ∧ (parseMethodDescriptor yL_refuses.desc).map (fun d => d.parameters.length) = some 1 := by decide +kernel
set_option maxHeartbeats 4000000 in
set_option maxRecDepth 100000 in
theorem c_L_refuses (l : Launch) (hl0 : l.stackTraces = false) (D : va_G) (r : Nat) (P : Nat → Int32) (Q : Nat → Nat → Int32) (n : Nat) : Met l yL_refuses (wA yL_refuses cL_refuses 6 (some .boolean)) (rmX 10 100 600) (xPc D r [.ref r] (fun H => St D r P Q n H)) (gQi (fun q => r ≤ q) 1 (fun H => St D r P Q n H)) 100 600 (fun q => r ≤ q) := by
  refine Met.ofW (cc := cL_refuses) (maxL := 6) (ret := (some .boolean)) (by decide) rfl ?_
  intro p e s m args below meth c s₁ B hml hv
  obtain ⟨hav, hG, hK, hKx⟩ := hv
  have hx := B.exec
  have hb := B.bytes
  have hr := B.returns
  have hts0 := atoms_spec (ws := wA yL_refuses cL_refuses 6 (some .boolean)) B.pre
  have hts : ∀ w ∈ AW, w.before _ s = true := fun w h => hts0 w (List.mem_cons_of_mem _ h)
  have hown : s.vm.findClass RL = some m.cls := findClass_of_methodNamed B.named
  have hlocks := B.notSynchronized
  have hAr : ∀ q, inS r q → r ≤ q := fun q h => h.1
  have hS : va_S (fun q => r ≤ q) s.heap s.heap [] := va_S.rf
  have hG : St D r P Q n s.heap := hG
  have hl := lv_entry ([.ref r]) (n := 6) (Nat.le_of_ble_eq_true rfl)
  refine W.eq (g2 := entryFrame m ([.ref r] : List Value).toArray 6) (by rw [hav]) ?_
  rw [lg_entry_eq]
  generalize (lg_sl ([.ref r]) ++ List.replicate (6 - (lg_sl ([.ref r])).length) Slot.unset).toArray = ls at hl ⊢
  have hl : lv_has ls 6 [(0, .ref r)] := hl
  have hg9 := hG.cg.2.2
  have hN1 := hg9.oN.1
  have hN2 := hg9.oN.2.2.1
  refine lv_aload_n hx hb dL_refuses_0 rfl (lv_at hl 0 rfl) ?_
  obtain ⟨C, J, G, Y, X, U, Z, F, hN, hd, hf⟩ := hG
  refine gcVl (As := []) (rest := []) hx hb hml hown hts hl.1 hK (c_X6_digest l D r C J G n Y X U Z F hd.wf hd.1.okQ) (gaV qM_L_109 qI_X6_digest qS_X6_digest qK_X6 qC_X6_digest) hdv_X6_digest ⟨(Nat.le_of_ble_eq_true rfl), (Nat.le_of_ble_eq_true rfl)⟩ hN (Sn.recv hK hN) rfl (Nat.le_of_ble_eq_true rfl) ⟨(by show 0 ≤ 100; omega), (by show 0 ≤ 600; omega)⟩ dL_refuses_1 hS hAr (fun H locs hN hz hq hS => ?_)
  refine topLE (digest_c hd.1 hf) ?_
  have hG : St D r P Q n H := ⟨C, J, G, Y, X, U, Z, F, hN, hd, hf⟩
  clear hN hz hq
  refine lv_lstore_n (lv' := [(1, .long (dgP P n)), (0, .ref r)]) hx hb dL_refuses_4 rfl hl (by decide) rfl (fun ls hl => ?_)
  refine lv_aload_n hx hb dL_refuses_5 rfl (lv_at hl 1 rfl) ?_
  refine lv_iconst (v := 1) hx hb dL_refuses_6 (by decide) ?_
  refine lwS (As := [.ref r, .int 1]) (rest := []) hx hb hml hown hts hl.1 hK hKx (fun _ h => h) (c_L_value l hl0 D r P Q n (P 1) 1 (fun C h => (R_value (k := 1) h rfl (by decide)).trans rfl)) (gHS qM_L_88 qT_L_value qK_L qC_L_value) hds_L_value ⟨(Nat.le_of_ble_eq_true rfl), (Nat.le_of_ble_eq_true rfl)⟩ hG rfl (Nat.le_of_ble_eq_true rfl) ⟨(by show 0 + 1 ≤ 100; omega), (by show 0 + 6 ≤ 600; omega)⟩ dL_refuses_7 hS hAr (fun H locs hG hz hq hS => ?_)
  have hG : St D r P Q n H := hG
  clear hz hq
  refine topN (n := ns P) hN1 ?_
  refine lv_istore_n (lv' := [(3, .int (nI (ns P))), (1, .long (dgP P n)), (0, .ref r)]) hx hb dL_refuses_10 rfl hl (by decide) rfl (fun ls hl => ?_)
  refine lv_aload_n hx hb dL_refuses_11 rfl (lv_at hl 2 rfl) ?_
  refine lv_iconst (v := 2) hx hb dL_refuses_12 (by decide) ?_
  refine lwS (As := [.ref r, .int 2]) (rest := []) hx hb hml hown hts hl.1 hK hKx (fun _ h => h) (c_L_value l hl0 D r P Q n (P 2) 2 (fun C h => (R_value (k := 2) h rfl (by decide)).trans rfl)) (gHS qM_L_88 qT_L_value qK_L qC_L_value) hds_L_value ⟨(Nat.le_of_ble_eq_true rfl), (Nat.le_of_ble_eq_true rfl)⟩ hG rfl (Nat.le_of_ble_eq_true rfl) ⟨(by show 0 + 1 + 1 ≤ 100; omega), (by show 0 + 6 + 6 ≤ 600; omega)⟩ dL_refuses_13 hS hAr (fun H locs hG hz hq hS => ?_)
  have hG : St D r P Q n H := hG
  clear hz hq
  refine topN (n := np P) hN2 ?_
  refine lv_istore (lv' := [(4, .int (nI (np P))), (3, .int (nI (ns P))), (1, .long (dgP P n)), (0, .ref r)]) hx hb dL_refuses_16 hl (by decide) rfl (fun ls hl => ?_)
  refine lv_aload_n hx hb dL_refuses_18 rfl (lv_at hl 3 rfl) ?_
  refine lv_sipush (v := 2001) hx hb dL_refuses_19 (by decide) ?_
  refine lv_iconst (v := 0) hx hb dL_refuses_22 (by decide) ?_
  refine lwS (As := [.ref r, .int 2001, .int 0]) (rest := []) hx hb hml hown hts hl.1 hK hKx (fun _ h => h) (c_L_addStreet l hl0 D r P Q n P Q n (-90100) 2001 0 (fun C G h => X_st1 h)) (gHS qM_L_133 qT_L_addStreet qK_L qC_L_addStreet) hds_L_addStreet ⟨(Nat.le_of_ble_eq_true rfl), (Nat.le_of_ble_eq_true rfl)⟩ hG rfl (Nat.le_of_ble_eq_true rfl) ⟨(by show 0 + 1 + 1 + 3 ≤ 100; omega), (by show 0 + 6 + 6 + 18 ≤ 600; omega)⟩ dL_refuses_23 hS hAr (fun H locs hG hz hq hS => ?_)
  have hG : St D r P Q n H := hG
  clear hz hq
  refine lv_ldc hx hb hown (hts _ qV_L_17) dL_refuses_26 ?_
  refine lv_icmp_ne (tgt := 187) hx hb dL_refuses_28 (by decide) (fun c28 => ?_) (fun c28 => ?_)
  · exact absurd c28 (by decide)
  · refine lv_aload_n hx hb dL_refuses_31 rfl (lv_at hl 3 rfl) ?_
    refine lv_bipush (v := 10) hx hb dL_refuses_32 (by decide) ?_
    refine lv_iconst (v := (-1)) hx hb dL_refuses_34 (by decide) ?_
    refine lwS (As := [.ref r, .int 10, .int (-1)]) (rest := []) hx hb hml hown hts hl.1 hK hKx (fun _ h => h) (c_L_addStreet l hl0 D r P Q n P Q n (-90100) 10 (-1) (fun C G h => X_st2 h)) (gHS qM_L_133 qT_L_addStreet qK_L qC_L_addStreet) hds_L_addStreet ⟨(Nat.le_of_ble_eq_true rfl), (Nat.le_of_ble_eq_true rfl)⟩ hG rfl (Nat.le_of_ble_eq_true rfl) ⟨(by show 0 + 1 + 1 + 3 + 3 ≤ 100; omega), (by show 0 + 6 + 6 + 18 + 18 ≤ 600; omega)⟩ dL_refuses_35 hS hAr (fun H locs hG hz hq hS => ?_)
    have hG : St D r P Q n H := hG
    clear hz hq
    refine lv_ldc hx hb hown (hts _ qV_L_17) dL_refuses_38 ?_
    refine lv_icmp_ne (tgt := 187) hx hb dL_refuses_40 (by decide) (fun c40 => ?_) (fun c40 => ?_)
    · exact absurd c40 (by decide)
    · refine lv_aload_n hx hb dL_refuses_43 rfl (lv_at hl 3 rfl) ?_
      refine lv_sipush (v := 5001) hx hb dL_refuses_44 (by decide) ?_
      refine lv_iconst (v := 0) hx hb dL_refuses_47 (by decide) ?_
      refine lwS (As := [.ref r, .int 5001, .int 0]) (rest := []) hx hb hml hown hts hl.1 hK hKx (fun _ h => h) (c_L_addPlow l hl0 D r P Q n P Q n (-90100) 5001 0 (fun C G h => X_pl1 h)) (gHS qM_L_135 qT_L_addPlow qK_L qC_L_addPlow) hds_L_addPlow ⟨(Nat.le_of_ble_eq_true rfl), (Nat.le_of_ble_eq_true rfl)⟩ hG rfl (Nat.le_of_ble_eq_true rfl) ⟨(by show 0 + 1 + 1 + 3 + 3 + 3 ≤ 100; omega), (by show 0 + 6 + 6 + 18 + 18 + 18 ≤ 600; omega)⟩ dL_refuses_48 hS hAr (fun H locs hG hz hq hS => ?_)
      have hG : St D r P Q n H := hG
      clear hz hq
      refine lv_ldc hx hb hown (hts _ qV_L_17) dL_refuses_51 ?_
      refine lv_icmp_ne (tgt := 187) hx hb dL_refuses_53 (by decide) (fun c53 => ?_) (fun c53 => ?_)
      · exact absurd c53 (by decide)
      · refine lv_aload_n hx hb dL_refuses_56 rfl (lv_at hl 3 rfl) ?_
        refine lv_bipush (v := 100) hx hb dL_refuses_57 (by decide) ?_
        refine lv_iconst (v := (-1)) hx hb dL_refuses_59 (by decide) ?_
        refine lwS (As := [.ref r, .int 100, .int (-1)]) (rest := []) hx hb hml hown hts hl.1 hK hKx (fun _ h => h) (c_L_addPlow l hl0 D r P Q n P Q n (-90100) 100 (-1) (fun C G h => X_pl2 h)) (gHS qM_L_135 qT_L_addPlow qK_L qC_L_addPlow) hds_L_addPlow ⟨(Nat.le_of_ble_eq_true rfl), (Nat.le_of_ble_eq_true rfl)⟩ hG rfl (Nat.le_of_ble_eq_true rfl) ⟨(by show 0 + 1 + 1 + 3 + 3 + 3 + 3 ≤ 100; omega), (by show 0 + 6 + 6 + 18 + 18 + 18 + 18 ≤ 600; omega)⟩ dL_refuses_60 hS hAr (fun H locs hG hz hq hS => ?_)
        have hG : St D r P Q n H := hG
        clear hz hq
        refine lv_ldc hx hb hown (hts _ qV_L_17) dL_refuses_63 ?_
        refine lv_icmp_ne (tgt := 187) hx hb dL_refuses_65 (by decide) (fun c65 => ?_) (fun c65 => ?_)
        · exact absurd c65 (by decide)
        · refine lv_aload_n hx hb dL_refuses_68 rfl (lv_at hl 3 rfl) ?_
          refine lv_iload hx hb dL_refuses_69 (lv_at hl 0 rfl) ?_
          refine lv_iconst (v := 0) hx hb dL_refuses_71 (by decide) ?_
          refine lwS (As := [.ref r, .int (nI (np P)), .int 0]) (rest := []) hx hb hml hown hts hl.1 hK hKx (fun _ h => h) (c_L_addStop l hl0 D r P Q n P Q n (-90300) (nI (np P)) 0 (fun C G h => X_so1 h)) (gHS qM_L_137 qT_L_addStop qK_L qC_L_addStop) hds_L_addStop ⟨(Nat.le_of_ble_eq_true rfl), (Nat.le_of_ble_eq_true rfl)⟩ hG rfl (Nat.le_of_ble_eq_true rfl) ⟨(by show 0 + 1 + 1 + 3 + 3 + 3 + 3 + 3 ≤ 100; omega), (by show 0 + 6 + 6 + 18 + 18 + 18 + 18 + 18 ≤ 600; omega)⟩ dL_refuses_72 hS hAr (fun H locs hG hz hq hS => ?_)
          have hG : St D r P Q n H := hG
          clear hz hq
          refine lv_ldc hx hb hown (hts _ qV_L_29) dL_refuses_75 ?_
          refine lv_icmp_ne (tgt := 187) hx hb dL_refuses_77 (by decide) (fun c77 => ?_) (fun c77 => ?_)
          · exact absurd c77 (by decide)
          · refine lv_aload_n hx hb dL_refuses_80 rfl (lv_at hl 3 rfl) ?_
            refine lv_iconst (v := (-1)) hx hb dL_refuses_81 (by decide) ?_
            refine lv_iconst (v := 0) hx hb dL_refuses_82 (by decide) ?_
            refine lwS (As := [.ref r, .int (-1), .int 0]) (rest := []) hx hb hml hown hts hl.1 hK hKx (fun _ h => h) (c_L_addStop l hl0 D r P Q n P Q n (-90300) (-1) 0 (fun C G h => X_so2 h)) (gHS qM_L_137 qT_L_addStop qK_L qC_L_addStop) hds_L_addStop ⟨(Nat.le_of_ble_eq_true rfl), (Nat.le_of_ble_eq_true rfl)⟩ hG rfl (Nat.le_of_ble_eq_true rfl) ⟨(by show 0 + 1 + 1 + 3 + 3 + 3 + 3 + 3 + 3 ≤ 100; omega), (by show 0 + 6 + 6 + 18 + 18 + 18 + 18 + 18 + 18 ≤ 600; omega)⟩ dL_refuses_83 hS hAr (fun H locs hG hz hq hS => ?_)
            have hG : St D r P Q n H := hG
            clear hz hq
            refine lv_ldc hx hb hown (hts _ qV_L_29) dL_refuses_86 ?_
            refine lv_icmp_ne (tgt := 187) hx hb dL_refuses_88 (by decide) (fun c88 => ?_) (fun c88 => ?_)
            · exact absurd c88 (by decide)
            · refine lv_aload_n hx hb dL_refuses_91 rfl (lv_at hl 3 rfl) ?_
              refine lv_iconst (v := 0) hx hb dL_refuses_92 (by decide) ?_
              refine lv_iload_n hx hb dL_refuses_93 rfl (lv_at hl 1 rfl) ?_
              refine lwS (As := [.ref r, .int 0, .int (nI (ns P))]) (rest := []) hx hb hml hown hts hl.1 hK hKx (fun _ h => h) (c_L_addStop l hl0 D r P Q n P Q n (-90300) 0 (nI (ns P)) (fun C G h => X_so3 h)) (gHS qM_L_137 qT_L_addStop qK_L qC_L_addStop) hds_L_addStop ⟨(Nat.le_of_ble_eq_true rfl), (Nat.le_of_ble_eq_true rfl)⟩ hG rfl (Nat.le_of_ble_eq_true rfl) ⟨(by show 0 + 1 + 1 + 3 + 3 + 3 + 3 + 3 + 3 + 3 ≤ 100; omega), (by show 0 + 6 + 6 + 18 + 18 + 18 + 18 + 18 + 18 + 18 ≤ 600; omega)⟩ dL_refuses_94 hS hAr (fun H locs hG hz hq hS => ?_)
              have hG : St D r P Q n H := hG
              clear hz hq
              refine lv_ldc hx hb hown (hts _ qV_L_29) dL_refuses_97 ?_
              refine lv_icmp_ne (tgt := 187) hx hb dL_refuses_99 (by decide) (fun c99 => ?_) (fun c99 => ?_)
              · exact absurd c99 (by decide)
              · refine lv_aload_n hx hb dL_refuses_102 rfl (lv_at hl 3 rfl) ?_
                refine lv_iload hx hb dL_refuses_103 (lv_at hl 0 rfl) ?_
                refine lwS (As := [.ref r, .int (nI (np P))]) (rest := []) hx hb hml hown hts hl.1 hK hKx (fun _ h => h) (c_L_clearRoute l hl0 D r P Q n P Q n (-90300) (nI (np P)) (fun C G h => X_cl1 h)) (gHS qM_L_139 qT_L_clearRoute qK_L qC_L_clearRoute) hds_L_clearRoute ⟨(Nat.le_of_ble_eq_true rfl), (Nat.le_of_ble_eq_true rfl)⟩ hG rfl (Nat.le_of_ble_eq_true rfl) ⟨(by show 0 + 1 + 1 + 3 + 3 + 3 + 3 + 3 + 3 + 3 + 1 ≤ 100; omega), (by show 0 + 6 + 6 + 18 + 18 + 18 + 18 + 18 + 18 + 18 + 6 ≤ 600; omega)⟩ dL_refuses_105 hS hAr (fun H locs hG hz hq hS => ?_)
                have hG : St D r P Q n H := hG
                clear hz hq
                refine lv_ldc hx hb hown (hts _ qV_L_29) dL_refuses_108 ?_
                refine lv_icmp_ne (tgt := 187) hx hb dL_refuses_110 (by decide) (fun c110 => ?_) (fun c110 => ?_)
                · exact absurd c110 (by decide)
                · refine lv_aload_n hx hb dL_refuses_113 rfl (lv_at hl 3 rfl) ?_
                  refine lv_iload hx hb dL_refuses_114 (lv_at hl 0 rfl) ?_
                  refine lv_iconst (v := 0) hx hb dL_refuses_116 (by decide) ?_
                  refine lwS (As := [.ref r, .int (nI (np P)), .int 0]) (rest := []) hx hb hml hown hts hl.1 hK hKx (fun _ h => h) (c_L_exchange l hl0 D r P Q n P Q n (-90300) (nI (np P)) 0 (fun C G h => X_ex1 h)) (gHS qM_L_131 qT_L_exchange qK_L qC_L_exchange) hds_L_exchange ⟨(Nat.le_of_ble_eq_true rfl), (Nat.le_of_ble_eq_true rfl)⟩ hG rfl (Nat.le_of_ble_eq_true rfl) ⟨(by show 0 + 1 + 1 + 3 + 3 + 3 + 3 + 3 + 3 + 3 + 1 + 3 ≤ 100; omega), (by show 0 + 6 + 6 + 18 + 18 + 18 + 18 + 18 + 18 + 18 + 6 + 18 ≤ 600; omega)⟩ dL_refuses_117 hS hAr (fun H locs hG hz hq hS => ?_)
                  have hG : St D r P Q n H := hG
                  clear hz hq
                  refine lv_ldc hx hb hown (hts _ qV_L_29) dL_refuses_120 ?_
                  refine lv_icmp_ne (tgt := 187) hx hb dL_refuses_122 (by decide) (fun c122 => ?_) (fun c122 => ?_)
                  · exact absurd c122 (by decide)
                  · refine lv_aload_n hx hb dL_refuses_125 rfl (lv_at hl 3 rfl) ?_
                    refine lv_iconst (v := 3) hx hb dL_refuses_126 (by decide) ?_
                    refine lv_iconst (v := 0) hx hb dL_refuses_127 (by decide) ?_
                    refine lv_iconst (v := 0) hx hb dL_refuses_128 (by decide) ?_
                    refine lv_iconst (v := 0) hx hb dL_refuses_129 (by decide) ?_
                    refine lwS (As := [.ref r, .int 3, .int 0, .int 0, .int 0]) (rest := []) hx hb hml hown hts hl.1 hK hKx (fun _ h => h) (c_L_setTerms l hl0 D r P Q n P Q n (-90300) 3 0 0 0 (fun C G h => X_te1 h)) (gHS qM_L_141 qT_L_setTerms qK_L qC_L_setTerms) hds_L_setTerms ⟨(Nat.le_of_ble_eq_true rfl), (Nat.le_of_ble_eq_true rfl)⟩ hG rfl (Nat.le_of_ble_eq_true rfl) ⟨(by show 0 + 1 + 1 + 3 + 3 + 3 + 3 + 3 + 3 + 3 + 1 + 3 + 4 ≤ 100; omega), (by show 0 + 6 + 6 + 18 + 18 + 18 + 18 + 18 + 18 + 18 + 6 + 18 + 24 ≤ 600; omega)⟩ dL_refuses_130 hS hAr (fun H locs hG hz hq hS => ?_)
                    have hG : St D r P Q n H := hG
                    clear hz hq
                    refine lv_ldc hx hb hown (hts _ qV_L_29) dL_refuses_133 ?_
                    refine lv_icmp_ne (tgt := 187) hx hb dL_refuses_135 (by decide) (fun c135 => ?_) (fun c135 => ?_)
                    · exact absurd c135 (by decide)
                    · refine lv_aload_n hx hb dL_refuses_138 rfl (lv_at hl 3 rfl) ?_
                      refine lv_iconst (v := 0) hx hb dL_refuses_139 (by decide) ?_
                      refine lv_iconst (v := 0) hx hb dL_refuses_140 (by decide) ?_
                      refine lv_iconst (v := 1) hx hb dL_refuses_141 (by decide) ?_
                      refine lv_iconst (v := 1) hx hb dL_refuses_142 (by decide) ?_
                      refine lwS (As := [.ref r, .int 0, .int 0, .int 1, .int 1]) (rest := []) hx hb hml hown hts hl.1 hK hKx (fun _ h => h) (c_L_setTerms l hl0 D r P Q n P Q n (-90100) 0 0 1 1 (fun C G h => X_te2 h)) (gHS qM_L_141 qT_L_setTerms qK_L qC_L_setTerms) hds_L_setTerms ⟨(Nat.le_of_ble_eq_true rfl), (Nat.le_of_ble_eq_true rfl)⟩ hG rfl (Nat.le_of_ble_eq_true rfl) ⟨(by show 0 + 1 + 1 + 3 + 3 + 3 + 3 + 3 + 3 + 3 + 1 + 3 + 4 + 4 ≤ 100; omega), (by show 0 + 6 + 6 + 18 + 18 + 18 + 18 + 18 + 18 + 18 + 6 + 18 + 24 + 24 ≤ 600; omega)⟩ dL_refuses_143 hS hAr (fun H locs hG hz hq hS => ?_)
                      have hG : St D r P Q n H := hG
                      clear hz hq
                      refine lv_ldc hx hb hown (hts _ qV_L_17) dL_refuses_146 ?_
                      refine lv_icmp_ne (tgt := 187) hx hb dL_refuses_148 (by decide) (fun c148 => ?_) (fun c148 => ?_)
                      · exact absurd c148 (by decide)
                      · refine lv_aload_n hx hb dL_refuses_151 rfl (lv_at hl 3 rfl) ?_
                        refine lv_bipush (v := 51) hx hb dL_refuses_152 (by decide) ?_
                        refine lwS (As := [.ref r, .int 51]) (rest := []) hx hb hml hown hts hl.1 hK hKx (fun _ h => h) (c_L_setSpread l hl0 D r P Q n P Q n (-90100) 51 (fun C G h => X_sp1 h)) (gHS qM_L_143 qT_L_setSpread qK_L qC_L_setSpread) hds_L_setSpread ⟨(Nat.le_of_ble_eq_true rfl), (Nat.le_of_ble_eq_true rfl)⟩ hG rfl (Nat.le_of_ble_eq_true rfl) ⟨(by show 0 + 1 + 1 + 3 + 3 + 3 + 3 + 3 + 3 + 3 + 1 + 3 + 4 + 4 + 1 ≤ 100; omega), (by show 0 + 6 + 6 + 18 + 18 + 18 + 18 + 18 + 18 + 18 + 6 + 18 + 24 + 24 + 6 ≤ 600; omega)⟩ dL_refuses_154 hS hAr (fun H locs hG hz hq hS => ?_)
                        have hG : St D r P Q n H := hG
                        clear hz hq
                        refine lv_ldc hx hb hown (hts _ qV_L_17) dL_refuses_157 ?_
                        refine lv_icmp_ne (tgt := 187) hx hb dL_refuses_159 (by decide) (fun c159 => ?_) (fun c159 => ?_)
                        · exact absurd c159 (by decide)
                        · refine lv_aload_n hx hb dL_refuses_162 rfl (lv_at hl 3 rfl) ?_
                          refine lv_iconst (v := (-1)) hx hb dL_refuses_163 (by decide) ?_
                          refine lwS (As := [.ref r, .int (-1)]) (rest := []) hx hb hml hown hts hl.1 hK hKx (fun _ h => h) (c_L_deliver l hl0 D r P Q n P Q n (-90100) (-1) (fun C G h => X_de1 h)) (gHS qM_L_145 qT_L_deliver qK_L qC_L_deliver) hds_L_deliver ⟨(Nat.le_of_ble_eq_true rfl), (Nat.le_of_ble_eq_true rfl)⟩ hG rfl (Nat.le_of_ble_eq_true rfl) ⟨(by show 0 + 1 + 1 + 3 + 3 + 3 + 3 + 3 + 3 + 3 + 1 + 3 + 4 + 4 + 1 + 2 ≤ 100; omega), (by show 0 + 6 + 6 + 18 + 18 + 18 + 18 + 18 + 18 + 18 + 6 + 18 + 24 + 24 + 6 + 12 ≤ 600; omega)⟩ dL_refuses_164 hS hAr (fun H locs hG hz hq hS => ?_)
                          have hG : St D r P Q n H := hG
                          clear hz hq
                          refine lv_ldc hx hb hown (hts _ qV_L_17) dL_refuses_167 ?_
                          refine lv_icmp_ne (tgt := 187) hx hb dL_refuses_169 (by decide) (fun c169 => ?_) (fun c169 => ?_)
                          · exact absurd c169 (by decide)
                          · refine lv_aload_n hx hb dL_refuses_172 rfl (lv_at hl 3 rfl) ?_
                            refine lv_ldc hx hb hown (hts _ qV_L_147) dL_refuses_173 ?_
                            refine lwS (As := [.ref r, .int 100001]) (rest := []) hx hb hml hown hts hl.1 hK hKx (fun _ h => h) (c_L_deliver l hl0 D r P Q n P Q n (-90100) 100001 (fun C G h => X_de2 h)) (gHS qM_L_145 qT_L_deliver qK_L qC_L_deliver) hds_L_deliver ⟨(Nat.le_of_ble_eq_true rfl), (Nat.le_of_ble_eq_true rfl)⟩ hG rfl (Nat.le_of_ble_eq_true rfl) ⟨(by show 0 + 1 + 1 + 3 + 3 + 3 + 3 + 3 + 3 + 3 + 1 + 3 + 4 + 4 + 1 + 2 + 2 ≤ 100; omega), (by show 0 + 6 + 6 + 18 + 18 + 18 + 18 + 18 + 18 + 18 + 6 + 18 + 24 + 24 + 6 + 12 + 12 ≤ 600; omega)⟩ dL_refuses_175 hS hAr (fun H locs hG hz hq hS => ?_)
                            have hG : St D r P Q n H := hG
                            clear hz hq
                            refine lv_ldc hx hb hown (hts _ qV_L_17) dL_refuses_178 ?_
                            refine lv_icmp_ne (tgt := 187) hx hb dL_refuses_180 (by decide) (fun c180 => ?_) (fun c180 => ?_)
                            · exact absurd c180 (by decide)
                            · refine lv_iconst (v := 1) hx hb dL_refuses_183 (by decide) ?_
                              refine lv_goto (tgt := 188) hx hb dL_refuses_184 (by decide) ?_
                              refine lv_istore (lv' := [(5, .int 1), (4, .int (nI (np P))), (3, .int (nI (ns P))), (1, .long (dgP P n)), (0, .ref r)]) hx hb dL_refuses_188 hl (by decide) rfl (fun ls hl => ?_)
                              refine lv_iload hx hb dL_refuses_190 (lv_at hl 0 rfl) ?_
                              refine lv_if_eq (tgt := 377) hx hb dL_refuses_192 (by decide) (fun c192 => ?_) (fun c192 => ?_)
                              · exact absurd c192 (by decide)
                              · refine lv_aload_n hx hb dL_refuses_195 rfl (lv_at hl 4 rfl) ?_
                                refine lv_sipush (v := 301) hx hb dL_refuses_196 (by decide) ?_
                                refine lv_iconst (v := 0) hx hb dL_refuses_199 (by decide) ?_
                                refine lv_iconst (v := 1) hx hb dL_refuses_200 (by decide) ?_
                                refine lwS (As := [.ref r, .int 301, .int 0, .int 1]) (rest := []) hx hb hml hown hts hl.1 hK hKx (fun _ h => h) (c_L_run l hl0 D r P Q n P Q n (-90100) 301 0 1 (fun C G h => X_ru1 h)) (gHS qM_L_116 qT_L_run qK_L qC_L_run) hds_L_run ⟨(Nat.le_of_ble_eq_true rfl), (Nat.le_of_ble_eq_true rfl)⟩ hG rfl (Nat.le_of_ble_eq_true rfl) ⟨(by show 0 + 1 + 1 + 3 + 3 + 3 + 3 + 3 + 3 + 3 + 1 + 3 + 4 + 4 + 1 + 2 + 2 + 4 ≤ 100; omega), (by show 0 + 6 + 6 + 18 + 18 + 18 + 18 + 18 + 18 + 18 + 6 + 18 + 24 + 24 + 6 + 12 + 12 + 24 ≤ 600; omega)⟩ dL_refuses_201 hS hAr (fun H locs hG hz hq hS => ?_)
                                have hG : St D r P Q n H := hG
                                clear hz hq
                                refine lv_ldc hx hb hown (hts _ qV_L_17) dL_refuses_204 ?_
                                refine lv_icmp_ne (tgt := 377) hx hb dL_refuses_206 (by decide) (fun c206 => ?_) (fun c206 => ?_)
                                · exact absurd c206 (by decide)
                                · refine lv_aload_n hx hb dL_refuses_209 rfl (lv_at hl 4 rfl) ?_
                                  refine lv_iconst (v := 0) hx hb dL_refuses_210 (by decide) ?_
                                  refine lv_iconst (v := (-1)) hx hb dL_refuses_211 (by decide) ?_
                                  refine lv_iconst (v := 1) hx hb dL_refuses_212 (by decide) ?_
                                  refine lwS (As := [.ref r, .int 0, .int (-1), .int 1]) (rest := []) hx hb hml hown hts hl.1 hK hKx (fun _ h => h) (c_L_run l hl0 D r P Q n P Q n (-90100) 0 (-1) 1 (fun C G h => X_ru2 h)) (gHS qM_L_116 qT_L_run qK_L qC_L_run) hds_L_run ⟨(Nat.le_of_ble_eq_true rfl), (Nat.le_of_ble_eq_true rfl)⟩ hG rfl (Nat.le_of_ble_eq_true rfl) ⟨(by show 0 + 1 + 1 + 3 + 3 + 3 + 3 + 3 + 3 + 3 + 1 + 3 + 4 + 4 + 1 + 2 + 2 + 4 + 4 ≤ 100; omega), (by show 0 + 6 + 6 + 18 + 18 + 18 + 18 + 18 + 18 + 18 + 6 + 18 + 24 + 24 + 6 + 12 + 12 + 24 + 24 ≤ 600; omega)⟩ dL_refuses_213 hS hAr (fun H locs hG hz hq hS => ?_)
                                  have hG : St D r P Q n H := hG
                                  clear hz hq
                                  refine lv_ldc hx hb hown (hts _ qV_L_17) dL_refuses_216 ?_
                                  refine lv_icmp_ne (tgt := 377) hx hb dL_refuses_218 (by decide) (fun c218 => ?_) (fun c218 => ?_)
                                  · exact absurd c218 (by decide)
                                  · refine lv_aload_n hx hb dL_refuses_221 rfl (lv_at hl 4 rfl) ?_
                                    refine lv_iconst (v := 0) hx hb dL_refuses_222 (by decide) ?_
                                    refine lv_iconst (v := 0) hx hb dL_refuses_223 (by decide) ?_
                                    refine lv_iconst (v := (-1)) hx hb dL_refuses_224 (by decide) ?_
                                    refine lwS (As := [.ref r, .int 0, .int 0, .int (-1)]) (rest := []) hx hb hml hown hts hl.1 hK hKx (fun _ h => h) (c_L_run l hl0 D r P Q n P Q n (-90100) 0 0 (-1) (fun C G h => X_ru3 h)) (gHS qM_L_116 qT_L_run qK_L qC_L_run) hds_L_run ⟨(Nat.le_of_ble_eq_true rfl), (Nat.le_of_ble_eq_true rfl)⟩ hG rfl (Nat.le_of_ble_eq_true rfl) ⟨(by show 0 + 1 + 1 + 3 + 3 + 3 + 3 + 3 + 3 + 3 + 1 + 3 + 4 + 4 + 1 + 2 + 2 + 4 + 4 + 4 ≤ 100; omega), (by show 0 + 6 + 6 + 18 + 18 + 18 + 18 + 18 + 18 + 18 + 6 + 18 + 24 + 24 + 6 + 12 + 12 + 24 + 24 + 24 ≤ 600; omega)⟩ dL_refuses_225 hS hAr (fun H locs hG hz hq hS => ?_)
                                    have hG : St D r P Q n H := hG
                                    clear hz hq
                                    refine lv_ldc hx hb hown (hts _ qV_L_17) dL_refuses_228 ?_
                                    refine lv_icmp_ne (tgt := 377) hx hb dL_refuses_230 (by decide) (fun c230 => ?_) (fun c230 => ?_)
                                    · exact absurd c230 (by decide)
                                    · refine lv_aload_n hx hb dL_refuses_233 rfl (lv_at hl 4 rfl) ?_
                                      refine lv_bipush (v := 10) hx hb dL_refuses_234 (by decide) ?_
                                      refine lwS (As := [.ref r, .int 10]) (rest := []) hx hb hml hown hts hl.1 hK hKx (fun _ h => h) (c_L_value l hl0 D r P Q n (-90100) 10 (fun C h => X_va1 h)) (gHS qM_L_88 qT_L_value qK_L qC_L_value) hds_L_value ⟨(Nat.le_of_ble_eq_true rfl), (Nat.le_of_ble_eq_true rfl)⟩ hG rfl (Nat.le_of_ble_eq_true rfl) ⟨(by show 0 + 1 + 1 + 3 + 3 + 3 + 3 + 3 + 3 + 3 + 1 + 3 + 4 + 4 + 1 + 2 + 2 + 4 + 4 + 4 + 1 ≤ 100; omega), (by show 0 + 6 + 6 + 18 + 18 + 18 + 18 + 18 + 18 + 18 + 6 + 18 + 24 + 24 + 6 + 12 + 12 + 24 + 24 + 24 + 6 ≤ 600; omega)⟩ dL_refuses_236 hS hAr (fun H locs hG hz hq hS => ?_)
                                      have hG : St D r P Q n H := hG
                                      clear hz hq
                                      refine lv_ldc hx hb hown (hts _ qV_L_17) dL_refuses_239 ?_
                                      refine lv_icmp_ne (tgt := 377) hx hb dL_refuses_241 (by decide) (fun c241 => ?_) (fun c241 => ?_)
                                      · exact absurd c241 (by decide)
                                      · refine lv_aload_n hx hb dL_refuses_244 rfl (lv_at hl 4 rfl) ?_
                                        refine lv_iconst (v := (-1)) hx hb dL_refuses_245 (by decide) ?_
                                        refine lwS (As := [.ref r, .int (-1)]) (rest := []) hx hb hml hown hts hl.1 hK hKx (fun _ h => h) (c_L_value l hl0 D r P Q n (-90100) (-1) (fun C h => X_va2 h)) (gHS qM_L_88 qT_L_value qK_L qC_L_value) hds_L_value ⟨(Nat.le_of_ble_eq_true rfl), (Nat.le_of_ble_eq_true rfl)⟩ hG rfl (Nat.le_of_ble_eq_true rfl) ⟨(by show 0 + 1 + 1 + 3 + 3 + 3 + 3 + 3 + 3 + 3 + 1 + 3 + 4 + 4 + 1 + 2 + 2 + 4 + 4 + 4 + 1 + 1 ≤ 100; omega), (by show 0 + 6 + 6 + 18 + 18 + 18 + 18 + 18 + 18 + 18 + 6 + 18 + 24 + 24 + 6 + 12 + 12 + 24 + 24 + 24 + 6 + 6 ≤ 600; omega)⟩ dL_refuses_246 hS hAr (fun H locs hG hz hq hS => ?_)
                                        have hG : St D r P Q n H := hG
                                        clear hz hq
                                        refine lv_ldc hx hb hown (hts _ qV_L_17) dL_refuses_249 ?_
                                        refine lv_icmp_ne (tgt := 377) hx hb dL_refuses_251 (by decide) (fun c251 => ?_) (fun c251 => ?_)
                                        · exact absurd c251 (by decide)
                                        · refine lv_aload_n hx hb dL_refuses_254 rfl (lv_at hl 4 rfl) ?_
                                          refine lv_iload_n hx hb dL_refuses_255 rfl (lv_at hl 2 rfl) ?_
                                          refine lv_bipush (v := 9) hx hb dL_refuses_256 (by decide) ?_
                                          refine lwS (As := [.ref r, .int (nI (ns P)), .int 9]) (rest := []) hx hb hml hown hts hl.1 hK hKx (fun _ h => h) (c_L_street l hl0 D r P Q n (-90300) (nI (ns P)) 9 (fun C h => X_se1 h)) (gHS qM_L_95 qT_L_street qK_L qC_L_street) hds_L_street ⟨(Nat.le_of_ble_eq_true rfl), (Nat.le_of_ble_eq_true rfl)⟩ hG rfl (Nat.le_of_ble_eq_true rfl) ⟨(by show 0 + 1 + 1 + 3 + 3 + 3 + 3 + 3 + 3 + 3 + 1 + 3 + 4 + 4 + 1 + 2 + 2 + 4 + 4 + 4 + 1 + 1 + 2 ≤ 100; omega), (by show 0 + 6 + 6 + 18 + 18 + 18 + 18 + 18 + 18 + 18 + 6 + 18 + 24 + 24 + 6 + 12 + 12 + 24 + 24 + 24 + 6 + 6 + 12 ≤ 600; omega)⟩ dL_refuses_258 hS hAr (fun H locs hG hz hq hS => ?_)
                                          have hG : St D r P Q n H := hG
                                          clear hz hq
                                          refine lv_ldc hx hb hown (hts _ qV_L_29) dL_refuses_261 ?_
                                          refine lv_icmp_ne (tgt := 377) hx hb dL_refuses_263 (by decide) (fun c263 => ?_) (fun c263 => ?_)
                                          · exact absurd c263 (by decide)
                                          · refine lv_aload_n hx hb dL_refuses_266 rfl (lv_at hl 4 rfl) ?_
                                            refine lv_iload hx hb dL_refuses_267 (lv_at hl 1 rfl) ?_
                                            refine lv_bipush (v := 9) hx hb dL_refuses_269 (by decide) ?_
                                            refine lwS (As := [.ref r, .int (nI (np P)), .int 9]) (rest := []) hx hb hml hown hts hl.1 hK hKx (fun _ h => h) (c_L_plow l hl0 D r P Q n (-90300) (nI (np P)) 9 (fun C h => X_pw1 h)) (gHS qM_L_100 qT_L_plow qK_L qC_L_plow) hds_L_plow ⟨(Nat.le_of_ble_eq_true rfl), (Nat.le_of_ble_eq_true rfl)⟩ hG rfl (Nat.le_of_ble_eq_true rfl) ⟨(by show 0 + 1 + 1 + 3 + 3 + 3 + 3 + 3 + 3 + 3 + 1 + 3 + 4 + 4 + 1 + 2 + 2 + 4 + 4 + 4 + 1 + 1 + 2 + 2 ≤ 100; omega), (by show 0 + 6 + 6 + 18 + 18 + 18 + 18 + 18 + 18 + 18 + 6 + 18 + 24 + 24 + 6 + 12 + 12 + 24 + 24 + 24 + 6 + 6 + 12 + 12 ≤ 600; omega)⟩ dL_refuses_271 hS hAr (fun H locs hG hz hq hS => ?_)
                                            have hG : St D r P Q n H := hG
                                            clear hz hq
                                            refine lv_ldc hx hb hown (hts _ qV_L_29) dL_refuses_274 ?_
                                            refine lv_icmp_ne (tgt := 377) hx hb dL_refuses_276 (by decide) (fun c276 => ?_) (fun c276 => ?_)
                                            · exact absurd c276 (by decide)
                                            · refine lv_aload_n hx hb dL_refuses_279 rfl (lv_at hl 4 rfl) ?_
                                              refine lv_iload hx hb dL_refuses_280 (lv_at hl 1 rfl) ?_
                                              refine lv_iconst (v := 0) hx hb dL_refuses_282 (by decide) ?_
                                              refine lwS (As := [.ref r, .int (nI (np P)), .int 0]) (rest := []) hx hb hml hown hts hl.1 hK hKx (fun _ h => h) (c_L_stop l hl0 D r P Q n (-90300) (nI (np P)) 0 (fun C h => X_sx1 h)) (gHS qM_L_102 qT_L_stop qK_L qC_L_stop) hds_L_stop ⟨(Nat.le_of_ble_eq_true rfl), (Nat.le_of_ble_eq_true rfl)⟩ hG rfl (Nat.le_of_ble_eq_true rfl) ⟨(by show 0 + 1 + 1 + 3 + 3 + 3 + 3 + 3 + 3 + 3 + 1 + 3 + 4 + 4 + 1 + 2 + 2 + 4 + 4 + 4 + 1 + 1 + 2 + 2 + 2 ≤ 100; omega), (by show 0 + 6 + 6 + 18 + 18 + 18 + 18 + 18 + 18 + 18 + 6 + 18 + 24 + 24 + 6 + 12 + 12 + 24 + 24 + 24 + 6 + 6 + 12 + 12 + 12 ≤ 600; omega)⟩ dL_refuses_283 hS hAr (fun H locs hG hz hq hS => ?_)
                                              have hG : St D r P Q n H := hG
                                              clear hz hq
                                              refine lv_ldc hx hb hown (hts _ qV_L_29) dL_refuses_286 ?_
                                              refine lv_icmp_ne (tgt := 377) hx hb dL_refuses_288 (by decide) (fun c288 => ?_) (fun c288 => ?_)
                                              · exact absurd c288 (by decide)
                                              · refine lv_aload_n hx hb dL_refuses_291 rfl (lv_at hl 4 rfl) ?_
                                                refine lv_iconst (v := (-1)) hx hb dL_refuses_292 (by decide) ?_
                                                refine lv_bipush (v := 9) hx hb dL_refuses_293 (by decide) ?_
                                                refine lwS (As := [.ref r, .int (-1), .int 9]) (rest := []) hx hb hml hown hts hl.1 hK hKx (fun _ h => h) (c_L_terms l hl0 D r P Q n (-90300) (-1) 9 (fun C h => X_tr1 h)) (gHS qM_L_98 qT_L_terms qK_L qC_L_terms) hds_L_terms ⟨(Nat.le_of_ble_eq_true rfl), (Nat.le_of_ble_eq_true rfl)⟩ hG rfl (Nat.le_of_ble_eq_true rfl) ⟨(by show 0 + 1 + 1 + 3 + 3 + 3 + 3 + 3 + 3 + 3 + 1 + 3 + 4 + 4 + 1 + 2 + 2 + 4 + 4 + 4 + 1 + 1 + 2 + 2 + 2 + 2 ≤ 100; omega), (by show 0 + 6 + 6 + 18 + 18 + 18 + 18 + 18 + 18 + 18 + 6 + 18 + 24 + 24 + 6 + 12 + 12 + 24 + 24 + 24 + 6 + 6 + 12 + 12 + 12 + 12 ≤ 600; omega)⟩ dL_refuses_295 hS hAr (fun H locs hG hz hq hS => ?_)
                                                have hG : St D r P Q n H := hG
                                                clear hz hq
                                                refine lv_ldc hx hb hown (hts _ qV_L_29) dL_refuses_298 ?_
                                                refine lv_icmp_ne (tgt := 377) hx hb dL_refuses_300 (by decide) (fun c300 => ?_) (fun c300 => ?_)
                                                · exact absurd c300 (by decide)
                                                · refine lv_aload_n hx hb dL_refuses_303 rfl (lv_at hl 4 rfl) ?_
                                                  refine lv_iconst (v := 0) hx hb dL_refuses_304 (by decide) ?_
                                                  refine lv_bipush (v := 101) hx hb dL_refuses_305 (by decide) ?_
                                                  refine lv_iconst (v := 0) hx hb dL_refuses_307 (by decide) ?_
                                                  refine lwS (As := [.ref r, .int 0, .int 101, .int 0]) (rest := []) hx hb hml hown hts hl.1 hK hKx (fun _ h => h) (c_L_creditsIn l hl0 D r P Q n (-90100) 0 101 0 (fun C J h => X_ci1 h)) (gHS qM_L_113 qT_L_creditsIn qK_L qC_L_creditsIn) hds_L_creditsIn ⟨(Nat.le_of_ble_eq_true rfl), (Nat.le_of_ble_eq_true rfl)⟩ hG rfl (Nat.le_of_ble_eq_true rfl) ⟨(by show 0 + 1 + 1 + 3 + 3 + 3 + 3 + 3 + 3 + 3 + 1 + 3 + 4 + 4 + 1 + 2 + 2 + 4 + 4 + 4 + 1 + 1 + 2 + 2 + 2 + 2 + 3 ≤ 100; omega), (by show 0 + 6 + 6 + 18 + 18 + 18 + 18 + 18 + 18 + 18 + 6 + 18 + 24 + 24 + 6 + 12 + 12 + 24 + 24 + 24 + 6 + 6 + 12 + 12 + 12 + 12 + 18 ≤ 600; omega)⟩ dL_refuses_308 hS hAr (fun H locs hG hz hq hS => ?_)
                                                  have hG : St D r P Q n H := hG
                                                  clear hz hq
                                                  refine lv_ldc hx hb hown (hts _ qV_L_17) dL_refuses_311 ?_
                                                  refine lv_icmp_ne (tgt := 377) hx hb dL_refuses_313 (by decide) (fun c313 => ?_) (fun c313 => ?_)
                                                  · exact absurd c313 (by decide)
                                                  · refine lv_aload_n hx hb dL_refuses_316 rfl (lv_at hl 4 rfl) ?_
                                                    refine lv_iload hx hb dL_refuses_317 (lv_at hl 1 rfl) ?_
                                                    refine lv_sipush (v := 999) hx hb dL_refuses_319 (by decide) ?_
                                                    refine lv_iconst (v := 0) hx hb dL_refuses_322 (by decide) ?_
                                                    refine lv_iconst (v := 0) hx hb dL_refuses_323 (by decide) ?_
                                                    refine lwS (As := [.ref r, .int (nI (np P)), .int 999, .int 0, .int 0]) (rest := []) hx hb hml hown hts hl.1 hK hKx (fun _ h => h) (c_L_bestExchange l hl0 D r P Q n (-90300) (nI (np P)) 999 0 0 (fun C J h => X_be1 h)) (gHS qM_L_126 qT_L_bestExchange qK_L qC_L_bestExchange) hds_L_bestExchange ⟨(Nat.le_of_ble_eq_true rfl), (Nat.le_of_ble_eq_true rfl)⟩ hG rfl (Nat.le_of_ble_eq_true rfl) ⟨(by show 0 + 1 + 1 + 3 + 3 + 3 + 3 + 3 + 3 + 3 + 1 + 3 + 4 + 4 + 1 + 2 + 2 + 4 + 4 + 4 + 1 + 1 + 2 + 2 + 2 + 2 + 3 + 4 ≤ 100; omega), (by show 0 + 6 + 6 + 18 + 18 + 18 + 18 + 18 + 18 + 18 + 6 + 18 + 24 + 24 + 6 + 12 + 12 + 24 + 24 + 24 + 6 + 6 + 12 + 12 + 12 + 12 + 18 + 24 ≤ 600; omega)⟩ dL_refuses_324 hS hAr (fun H locs hG hz hq hS => ?_)
                                                    have hG : St D r P Q n H := hG
                                                    clear hz hq
                                                    refine lv_ldc hx hb hown (hts _ qV_L_29) dL_refuses_327 ?_
                                                    refine lv_icmp_ne (tgt := 377) hx hb dL_refuses_329 (by decide) (fun c329 => ?_) (fun c329 => ?_)
                                                    · exact absurd c329 (by decide)
                                                    · refine lv_aload_n hx hb dL_refuses_332 rfl (lv_at hl 4 rfl) ?_
                                                      refine lv_iload hx hb dL_refuses_333 (lv_at hl 1 rfl) ?_
                                                      refine lv_sipush (v := 999) hx hb dL_refuses_335 (by decide) ?_
                                                      refine lv_iconst (v := 0) hx hb dL_refuses_338 (by decide) ?_
                                                      refine lv_iconst (v := 0) hx hb dL_refuses_339 (by decide) ?_
                                                      refine lwS (As := [.ref r, .int (nI (np P)), .int 999, .int 0, .int 0]) (rest := []) hx hb hml hown hts hl.1 hK hKx (fun _ h => h) (c_L_leastSpeed l hl0 D r P Q n (-90300) (nI (np P)) 999 0 0 (fun C J h => X_ls1 h)) (gHS qM_L_129 qT_L_leastSpeed qK_L qC_L_leastSpeed) hds_L_leastSpeed ⟨(Nat.le_of_ble_eq_true rfl), (Nat.le_of_ble_eq_true rfl)⟩ hG rfl (Nat.le_of_ble_eq_true rfl) ⟨(by show 0 + 1 + 1 + 3 + 3 + 3 + 3 + 3 + 3 + 3 + 1 + 3 + 4 + 4 + 1 + 2 + 2 + 4 + 4 + 4 + 1 + 1 + 2 + 2 + 2 + 2 + 3 + 4 + 4 ≤ 100; omega), (by show 0 + 6 + 6 + 18 + 18 + 18 + 18 + 18 + 18 + 18 + 6 + 18 + 24 + 24 + 6 + 12 + 12 + 24 + 24 + 24 + 6 + 6 + 12 + 12 + 12 + 12 + 18 + 24 + 24 ≤ 600; omega)⟩ dL_refuses_340 hS hAr (fun H locs hG hz hq hS => ?_)
                                                      have hG : St D r P Q n H := hG
                                                      clear hz hq
                                                      refine lv_ldc hx hb hown (hts _ qV_L_29) dL_refuses_343 ?_
                                                      refine lv_icmp_ne (tgt := 377) hx hb dL_refuses_345 (by decide) (fun c345 => ?_) (fun c345 => ?_)
                                                      · exact absurd c345 (by decide)
                                                      · refine lv_aload_n hx hb dL_refuses_348 rfl (lv_at hl 4 rfl) ?_
                                                        refine lv_sipush (v := 999) hx hb dL_refuses_349 (by decide) ?_
                                                        refine lv_iconst (v := 0) hx hb dL_refuses_352 (by decide) ?_
                                                        refine lwS (As := [.ref r, .int 999, .int 0]) (rest := []) hx hb hml hown hts hl.1 hK hKx (fun _ h => h) (c_L_emptyIn l hl0 D r P Q n (-90100) 999 0 (fun C J h => X_em1 h)) (gHS qM_L_124 qT_L_emptyIn qK_L qC_L_emptyIn) hds_L_emptyIn ⟨(Nat.le_of_ble_eq_true rfl), (Nat.le_of_ble_eq_true rfl)⟩ hG rfl (Nat.le_of_ble_eq_true rfl) ⟨(by show 0 + 1 + 1 + 3 + 3 + 3 + 3 + 3 + 3 + 3 + 1 + 3 + 4 + 4 + 1 + 2 + 2 + 4 + 4 + 4 + 1 + 1 + 2 + 2 + 2 + 2 + 3 + 4 + 4 + 2 ≤ 100; omega), (by show 0 + 6 + 6 + 18 + 18 + 18 + 18 + 18 + 18 + 18 + 6 + 18 + 24 + 24 + 6 + 12 + 12 + 24 + 24 + 24 + 6 + 6 + 12 + 12 + 12 + 12 + 18 + 24 + 24 + 12 ≤ 600; omega)⟩ dL_refuses_353 hS hAr (fun H locs hG hz hq hS => ?_)
                                                        have hG : St D r P Q n H := hG
                                                        clear hz hq
                                                        refine lv_ldc hx hb hown (hts _ qV_L_17) dL_refuses_356 ?_
                                                        refine lv_icmp_ne (tgt := 377) hx hb dL_refuses_358 (by decide) (fun c358 => ?_) (fun c358 => ?_)
                                                        · exact absurd c358 (by decide)
                                                        · refine lv_aload_n hx hb dL_refuses_361 rfl (lv_at hl 4 rfl) ?_
                                                          refine lv_sipush (v := 128) hx hb dL_refuses_362 (by decide) ?_
                                                          refine lwS (As := [.ref r, .int 128]) (rest := []) hx hb hml hown hts hl.1 hK hKx (fun _ h => h) (c_L_append l hl0 D r P Q n (-90100) 128 (fun Y F hf => X_ap1 hf)) (gHS qM_L_148 qT_L_append qK_L qC_L_append) hds_L_append ⟨(Nat.le_of_ble_eq_true rfl), (Nat.le_of_ble_eq_true rfl)⟩ hG rfl (Nat.le_of_ble_eq_true rfl) ⟨(by show 0 + 1 + 1 + 3 + 3 + 3 + 3 + 3 + 3 + 3 + 1 + 3 + 4 + 4 + 1 + 2 + 2 + 4 + 4 + 4 + 1 + 1 + 2 + 2 + 2 + 2 + 3 + 4 + 4 + 2 + 2 ≤ 100; omega), (by show 0 + 6 + 6 + 18 + 18 + 18 + 18 + 18 + 18 + 18 + 6 + 18 + 24 + 24 + 6 + 12 + 12 + 24 + 24 + 24 + 6 + 6 + 12 + 12 + 12 + 12 + 18 + 24 + 24 + 12 + 12 ≤ 600; omega)⟩ dL_refuses_365 hS hAr (fun H locs hG hz hq hS => ?_)
                                                          have hG : St D r P Q n H := hG
                                                          clear hz hq
                                                          refine lv_ldc hx hb hown (hts _ qV_L_17) dL_refuses_368 ?_
                                                          refine lv_icmp_ne (tgt := 377) hx hb dL_refuses_370 (by decide) (fun c370 => ?_) (fun c370 => ?_)
                                                          · exact absurd c370 (by decide)
                                                          · refine lv_iconst (v := 1) hx hb dL_refuses_373 (by decide) ?_
                                                            refine lv_goto (tgt := 378) hx hb dL_refuses_374 (by decide) ?_
                                                            refine lv_istore (lv' := [(5, .int 1), (4, .int (nI (np P))), (3, .int (nI (ns P))), (1, .long (dgP P n)), (0, .ref r)]) hx hb dL_refuses_378 hl (by decide) rfl (fun ls hl => ?_)
                                                            refine lv_iload hx hb dL_refuses_380 (lv_at hl 0 rfl) ?_
                                                            refine lv_if_eq (tgt := 398) hx hb dL_refuses_382 (by decide) (fun c382 => ?_) (fun c382 => ?_)
                                                            · exact absurd c382 (by decide)
                                                            · refine lv_aload_n hx hb dL_refuses_385 rfl (lv_at hl 4 rfl) ?_
                                                              obtain ⟨C, J, G, Y, X, U, Z, F, hN, hd, hf⟩ := hG
                                                              refine gcVl (As := []) (rest := []) hx hb hml hown hts hl.1 hK (c_X6_digest l D r C J G n Y X U Z F hd.wf hd.1.okQ) (gaV qM_L_109 qI_X6_digest qS_X6_digest qK_X6 qC_X6_digest) hdv_X6_digest ⟨(Nat.le_of_ble_eq_true rfl), (Nat.le_of_ble_eq_true rfl)⟩ hN (Sn.recv hK hN) rfl (Nat.le_of_ble_eq_true rfl) ⟨(by show 0 + 1 + 1 + 3 + 3 + 3 + 3 + 3 + 3 + 3 + 1 + 3 + 4 + 4 + 1 + 2 + 2 + 4 + 4 + 4 + 1 + 1 + 2 + 2 + 2 + 2 + 3 + 4 + 4 + 2 + 2 ≤ 100; omega), (by show 0 + 6 + 6 + 18 + 18 + 18 + 18 + 18 + 18 + 18 + 6 + 18 + 24 + 24 + 6 + 12 + 12 + 24 + 24 + 24 + 6 + 6 + 12 + 12 + 12 + 12 + 18 + 24 + 24 + 12 + 12 ≤ 600; omega)⟩ dL_refuses_386 hS hAr (fun H locs hN hz hq hS => ?_)
                                                              refine topLE (digest_c hd.1 hf) ?_
                                                              have hG : St D r P Q n H := ⟨C, J, G, Y, X, U, Z, F, hN, hd, hf⟩
                                                              clear hN hz hq
                                                              refine lv_lload_n hx hb dL_refuses_389 rfl (lv_at hl 3 rfl) ?_
                                                              refine W.lcmp hx hb dL_refuses_390 ?_
                                                              refine topE (y := 0) (lgc_self _) ?_
                                                              refine lv_if_ne (tgt := 398) hx hb dL_refuses_391 (by decide) (fun c391 => ?_) (fun c391 => ?_)
                                                              · exact absurd c391 (by decide)
                                                              · refine lv_iconst (v := 1) hx hb dL_refuses_394 (by decide) ?_
                                                                refine lv_goto (tgt := 399) hx hb dL_refuses_395 (by decide) ?_
                                                                refine W.widen (k := 100) (n := 600) (by omega) (by omega) ?_
                                                                exact W.zret hx hb hr rfl (fun t ht hW => gQi_of rfl hG hS ht) hS.2.2 dL_refuses_399
