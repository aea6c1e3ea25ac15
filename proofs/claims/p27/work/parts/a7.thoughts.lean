theorem hds_L_thoughts : yL_thoughts.cls ≠ "java/lang/invoke/MethodHandle" ∧ yL_thoughts.cls ≠ "java/lang/invoke/VarHandle" ∧ (parseMethodDescriptor yL_thoughts.desc).map (fun d => d.parameters.length) = some 2 := by decide +kernel
set_option maxHeartbeats 4000000 in
set_option maxRecDepth 100000 in
theorem c_L_thoughts (l : Launch) (hl0 : l.stackTraces = false) (D : va_G) (r : Nat) (P : Nat → Int32) (Q : Nat → Nat → Int32) (n h : Nat) (x : Int32) (hI : Iv h P) : Met l yL_thoughts (wA yL_thoughts cL_thoughts 15 (some .boolean)) (rmX 10 70 420) (xPc D r [.ref r, .int x] (fun H => St D r P Q n H)) (gQi (fun q => r ≤ q) 1 (fun H => ∃ (Q9 : Nat → Nat → Int32) (n9 : Nat), St D r P Q9 n9 H)) 70 420 (fun q => r ≤ q) := by
  refine Met.ofW (cc := cL_thoughts) (maxL := 15) (ret := (some .boolean)) (by decide) rfl ?_
  intro p e s m args below meth c s₁ B hml hv
  obtain ⟨hav, hG, hK, hKx⟩ := hv
  have hx := B.exec
  have hb := B.bytes
  have hr := B.returns
  have hts0 := atoms_spec (ws := wA yL_thoughts cL_thoughts 15 (some .boolean)) B.pre
  have hts : ∀ w ∈ AW, w.before _ s = true := fun w h => hts0 w (List.mem_cons_of_mem _ h)
  have hown : s.vm.findClass RL = some m.cls := findClass_of_methodNamed B.named
  have hlocks := B.notSynchronized
  have hAr : ∀ q, inS r q → r ≤ q := fun q h => h.1
  have hS : va_S (fun q => r ≤ q) s.heap s.heap [] := va_S.rf
  have hG : St D r P Q n s.heap := hG
  have hl := lv_entry ([.ref r, .int x]) (n := 15) (Nat.le_of_ble_eq_true rfl)
  refine W.eq (g2 := entryFrame m ([.ref r, .int x] : List Value).toArray 15) (by rw [hav]) ?_
  rw [lg_entry_eq]
  generalize (lg_sl ([.ref r, .int x]) ++ List.replicate (15 - (lg_sl ([.ref r, .int x])).length) Slot.unset).toArray = ls at hl ⊢
  have hl : lv_has ls 15 [(0, .ref r), (1, .int x)] := hl
  obtain ⟨z0, z00, z1, z2, hN1, hN2, z5, z7, ⟨S9, S91, z3⟩, k9, k91, z6⟩ := snd_rest hI
  refine lv_aload_n hx hb dL_thoughts_0 rfl (lv_at hl 0 rfl) ?_
  obtain ⟨C, J, G, Y, X, U, Z, F, hN, hd, hf⟩ := hG
  refine gcVl (As := []) (rest := []) hx hb hml hown hts hl.1 hK (c_X6_digest l D r C J G n Y X U Z F hd.wf hd.1.okQ) (gaV qM_L_109 qI_X6_digest qS_X6_digest qK_X6 qC_X6_digest) hdv_X6_digest ⟨(Nat.le_of_ble_eq_true rfl), (Nat.le_of_ble_eq_true rfl)⟩ hN (Sn.recv hK hN) rfl (Nat.le_of_ble_eq_true rfl) ⟨(by show 0 ≤ 70; omega), (by show 0 ≤ 420; omega)⟩ dL_thoughts_1 hS hAr (fun H locs hN hz hq hS => ?_)
  refine topLE (digest_c hd.1 hf) ?_
  have hG : St D r P Q n H := ⟨C, J, G, Y, X, U, Z, F, hN, hd, hf⟩
  clear hN hz hq
  refine lv_lstore_n (lv' := [(2, .long (dgP P n)), (0, .ref r), (1, .int x)]) hx hb dL_thoughts_4 rfl hl (by decide) rfl (fun ls hl => ?_)
  refine lv_iload_n hx hb dL_thoughts_5 rfl (lv_at hl 2 rfl) ?_
  refine lv_bipush (v := 101) hx hb dL_thoughts_6 (by decide) ?_
  refine topN (n := 101) rfl ?_
  obtain ⟨ta, ezta, hta1⟩ : ∃ z, lowN x 101 = z ∧ z < 101 := ⟨_, rfl, lowN_lt (by decide)⟩
  refine gcSi (As := [.int x, .int (nI 101)]) (rest := []) hx hb hml hown hts hl.1 hK (c_L_low l D (fun H => St D r P Q n H) x 101 (by decide) (by decide)) (gaS qM_L_121 qT_L_low qK_L qC_L_low) hds_L_low ⟨(Nat.le_of_ble_eq_true rfl), (Nat.le_of_ble_eq_true rfl)⟩ hG rfl (Nat.le_of_ble_eq_true rfl) ⟨(by show 0 ≤ 70; omega), (by show 0 ≤ 420; omega)⟩ dL_thoughts_8 hS (fun _ h => False.elim h) (fun H locs hG _ hq hS => ?_)
  have hG : St D r P Q n H := hG
  refine topN (n := ta) (by rw [ezta]) ?_
  refine lv_bipush (v := 50) hx hb dL_thoughts_11 (by decide) ?_
  refine lv_isub hx hb dL_thoughts_13 ?_
  refine lv_topi (fun T eT => ?_)
  refine lv_istore (lv' := [(4, .int T), (2, .long (dgP P n)), (0, .ref r), (1, .int x)]) hx hb dL_thoughts_14 hl (by decide) rfl (fun ls hl => ?_)
  refine lv_iload_n hx hb dL_thoughts_16 rfl (lv_at hl 3 rfl) ?_
  refine lv_bipush (v := 6) hx hb dL_thoughts_17 (by decide) ?_
  refine lv_ishr hx hb dL_thoughts_19 ?_
  refine lv_topi (fun xa exa => ?_)
  refine lv_bipush (v := 25) hx hb dL_thoughts_20 (by decide) ?_
  refine topN (n := 25) rfl ?_
  obtain ⟨sn, ezsn, hsn1⟩ : ∃ z, lowN xa 25 = z ∧ z < 25 := ⟨_, rfl, lowN_lt (by decide)⟩
  refine gcSi (As := [.int xa, .int (nI 25)]) (rest := []) hx hb hml hown hts hl.1 hK (c_L_low l D (fun H => St D r P Q n H) xa 25 (by decide) (by decide)) (gaS qM_L_121 qT_L_low qK_L qC_L_low) hds_L_low ⟨(Nat.le_of_ble_eq_true rfl), (Nat.le_of_ble_eq_true rfl)⟩ hG rfl (Nat.le_of_ble_eq_true rfl) ⟨(by show 0 ≤ 70; omega), (by show 0 ≤ 420; omega)⟩ dL_thoughts_22 hS (fun _ h => False.elim h) (fun H locs hG _ hq hS => ?_)
  have hG : St D r P Q n H := hG
  refine topN (n := sn) (by rw [ezsn]) ?_
  refine lv_istore (lv' := [(5, .int (nI sn)), (4, .int T), (2, .long (dgP P n)), (0, .ref r), (1, .int x)]) hx hb dL_thoughts_25 hl (by decide) rfl (fun ls hl => ?_)
  refine lv_iload_n hx hb dL_thoughts_27 rfl (lv_at hl 4 rfl) ?_
  refine lv_bipush (v := 10) hx hb dL_thoughts_28 (by decide) ?_
  refine lv_ishr hx hb dL_thoughts_30 ?_
  refine lv_topi (fun xb exb => ?_)
  refine lv_bipush (v := 30) hx hb dL_thoughts_31 (by decide) ?_
  refine topN (n := 30) rfl ?_
  obtain ⟨hr9, ezhr9, hhr91⟩ : ∃ z, lowN xb 30 = z ∧ z < 30 := ⟨_, rfl, lowN_lt (by decide)⟩
  refine gcSi (As := [.int xb, .int (nI 30)]) (rest := []) hx hb hml hown hts hl.1 hK (c_L_low l D (fun H => St D r P Q n H) xb 30 (by decide) (by decide)) (gaS qM_L_121 qT_L_low qK_L qC_L_low) hds_L_low ⟨(Nat.le_of_ble_eq_true rfl), (Nat.le_of_ble_eq_true rfl)⟩ hG rfl (Nat.le_of_ble_eq_true rfl) ⟨(by show 0 ≤ 70; omega), (by show 0 ≤ 420; omega)⟩ dL_thoughts_33 hS (fun _ h => False.elim h) (fun H locs hG _ hq hS => ?_)
  have hG : St D r P Q n H := hG
  refine topN (n := hr9) (by rw [ezhr9]) ?_
  have hw : ¬ fR_X7_isWeather T (nI sn) = 0 := wth_ok (by rw [eT]; exact T50_in ⟨ta, hta1⟩) (by omega)
  obtain ⟨-, -, sp9, hJ9⟩ := id hI
  obtain ⟨zc, yc, zc1, yc1, zc2, zc3⟩ := cr_more (T := T) (S := nI sn) hJ9.1 hr9
  obtain ⟨em0, em1, em2⟩ := th_empty (T := T) (S := nI sn) z3 S91
  refine lv_istore (lv' := [(6, .int (nI hr9)), (5, .int (nI sn)), (4, .int T), (2, .long (dgP P n)), (0, .ref r), (1, .int x)]) hx hb dL_thoughts_36 hl (by decide) rfl (fun ls hl => ?_)
  refine lv_aload_n hx hb dL_thoughts_38 rfl (lv_at hl 4 rfl) ?_
  refine lv_iconst (v := 2) hx hb dL_thoughts_39 (by decide) ?_
  refine lwS (As := [.ref r, .int 2]) (rest := []) hx hb hml hown hts hl.1 hK hKx (fun _ h => h) (c_L_value l hl0 D r P Q n (P 2) 2 (fun C h => (R_value (k := 2) h rfl (by decide)).trans rfl)) (gHS qM_L_88 qT_L_value qK_L qC_L_value) hds_L_value ⟨(Nat.le_of_ble_eq_true rfl), (Nat.le_of_ble_eq_true rfl)⟩ hG rfl (Nat.le_of_ble_eq_true rfl) ⟨(by show 0 + 1 ≤ 70; omega), (by show 0 + 6 ≤ 420; omega)⟩ dL_thoughts_40 hS hAr (fun H locs hG hz hq hS => ?_)
  have hG : St D r P Q n H := hG
  clear hz hq
  refine topN (n := np P) hN2 ?_
  refine lv_istore (lv' := [(7, .int (nI (np P))), (6, .int (nI hr9)), (5, .int (nI sn)), (4, .int T), (2, .long (dgP P n)), (0, .ref r), (1, .int x)]) hx hb dL_thoughts_43 hl (by decide) rfl (fun ls hl => ?_)
  refine lv_aload_n hx hb dL_thoughts_45 rfl (lv_at hl 5 rfl) ?_
  refine lv_iload hx hb dL_thoughts_46 (lv_at hl 3 rfl) ?_
  refine lv_iload hx hb dL_thoughts_48 (lv_at hl 2 rfl) ?_
  refine lv_iload hx hb dL_thoughts_50 (lv_at hl 1 rfl) ?_
  refine lwS (As := [.ref r, .int T, .int (nI sn), .int (nI hr9)]) (rest := []) hx hb hml hown hts hl.1 hK hKx (fun _ h => h) (c_L_creditsIn l hl0 D r P Q n (fR_X7_hours P T (nI sn) hr9) T (nI sn) (nI hr9) (fun C J h => A_credits h hw (by omega))) (gHS qM_L_113 qT_L_creditsIn qK_L qC_L_creditsIn) hds_L_creditsIn ⟨(Nat.le_of_ble_eq_true rfl), (Nat.le_of_ble_eq_true rfl)⟩ hG rfl (Nat.le_of_ble_eq_true rfl) ⟨(by show 0 + 1 + 3 ≤ 70; omega), (by show 0 + 6 + 18 ≤ 420; omega)⟩ dL_thoughts_52 hS hAr (fun H locs hG hz hq hS => ?_)
  have hG : St D r P Q n H := hG
  clear hz hq
  refine topN (n := zc) zc2 ?_
  refine lv_istore (lv' := [(8, .int (nI zc)), (7, .int (nI (np P))), (6, .int (nI hr9)), (5, .int (nI sn)), (4, .int T), (2, .long (dgP P n)), (0, .ref r), (1, .int x)]) hx hb dL_thoughts_55 hl (by decide) rfl (fun ls hl => ?_)
  refine lv_aload_n hx hb dL_thoughts_57 rfl (lv_at hl 6 rfl) ?_
  refine lv_iload hx hb dL_thoughts_58 (lv_at hl 4 rfl) ?_
  refine lv_iload hx hb dL_thoughts_60 (lv_at hl 3 rfl) ?_
  refine lwS (As := [.ref r, .int T, .int (nI sn)]) (rest := []) hx hb hml hown hts hl.1 hK hKx (fun _ h => h) (c_L_emptyIn l hl0 D r P Q n (emptyP P T (nI sn)) T (nI sn) (fun C J h => A_empty h hw)) (gHS qM_L_124 qT_L_emptyIn qK_L qC_L_emptyIn) hds_L_emptyIn ⟨(Nat.le_of_ble_eq_true rfl), (Nat.le_of_ble_eq_true rfl)⟩ hG rfl (Nat.le_of_ble_eq_true rfl) ⟨(by show 0 + 1 + 3 + 2 ≤ 70; omega), (by show 0 + 6 + 18 + 12 ≤ 420; omega)⟩ dL_thoughts_62 hS hAr (fun H locs hG hz hq hS => ?_)
  have hG : St D r P Q n H := hG
  clear hz hq
  refine lv_istore (lv' := [(9, .int (emptyP P T (nI sn))), (8, .int (nI zc)), (7, .int (nI (np P))), (6, .int (nI hr9)), (5, .int (nI sn)), (4, .int T), (2, .long (dgP P n)), (0, .ref r), (1, .int x)]) hx hb dL_thoughts_65 hl (by decide) rfl (fun ls hl => ?_)
  refine lv_iload hx hb dL_thoughts_67 (lv_at hl 0 rfl) ?_
  have K93 : ∀ (H : Heap) (locs : List Loc) (ls : Array Slot) (hG : St D r P Q n H) (hS : va_S (fun q => r ≤ q) s.heap H locs) (hl : lv_has ls 15 [(0, .ref r), (1, .int x), (2, .long (dgP P n)), (4, .int T), (5, .int (nI sn)), (6, .int (nI hr9)), (7, .int (nI (np P))), (8, .int (nI zc)), (9, .int (emptyP P T (nI sn)))]), W p l e (headSpec (wA yL_thoughts cL_thoughts 15 (some .boolean)) (rmX 10 70 420)).room s m args below meth c H locs (12) (72) (MQ below (gQi (fun q => r ≤ q) 1 (fun H => ∃ (Q9 : Nat → Nat → Int32) (n9 : Nat), St D r P Q9 n9 H)) args s 70 420 (fun q => r ≤ q)) (F0 m 93 ls []) := by
    intro H locs ls hG hS hl
    refine lv_iload hx hb dL_thoughts_93 (lv_at hl 8 rfl) ?_
    refine lv_iconst (v := (-1)) hx hb dL_thoughts_95 (by decide) ?_
    refine lv_icmp_lt (tgt := 129) hx hb dL_thoughts_96 (by decide) (fun c96 => ?_) (fun c96 => ?_)
    · exact absurd c96 em1
    · refine lv_iload hx hb dL_thoughts_99 (lv_at hl 8 rfl) ?_
      refine lv_sipush (v := 200) hx hb dL_thoughts_101 (by decide) ?_
      refine lv_icmp_gt (tgt := 129) hx hb dL_thoughts_104 (by decide) (fun c104 => ?_) (fun c104 => ?_)
      · exact absurd c104 em2
      · refine lv_iload hx hb dL_thoughts_107 (lv_at hl 7 rfl) ?_
        refine lv_if_lt (tgt := 129) hx hb dL_thoughts_109 (by decide) (fun c109 => ?_) (fun c109 => ?_)
        · have c109 : zc < 0 := (nI_ltI (a := zc) (b := 0) (by omega) (by omega)).mp c109
          exact absurd c109 (by omega)
        · have c109 : ¬ zc < 0 := fun hh9 => c109 ((nI_ltI (a := zc) (b := 0) (by omega) (by omega)).mpr hh9)
          refine lv_aload_n hx hb dL_thoughts_112 rfl (lv_at hl 0 rfl) ?_
          refine lv_iload hx hb dL_thoughts_113 (lv_at hl 3 rfl) ?_
          refine lv_iload hx hb dL_thoughts_115 (lv_at hl 4 rfl) ?_
          refine lv_iload hx hb dL_thoughts_117 (lv_at hl 5 rfl) ?_
          refine lv_iconst (v := 1) hx hb dL_thoughts_119 (by decide) ?_
          refine iaddN (a := hr9) (b := 1) hx hb dL_thoughts_120 ?_
          refine lwS (As := [.ref r, .int T, .int (nI sn), .int (nI (hr9 + 1))]) (rest := []) hx hb hml hown hts hl.1 hK hKx (fun _ h => h) (c_L_creditsIn l hl0 D r P Q n (fR_X7_hours P T (nI sn) (hr9 + 1)) T (nI sn) (nI (hr9 + 1)) (fun C J h => A_credits h hw (by omega))) (gHS qM_L_113 qT_L_creditsIn qK_L qC_L_creditsIn) hds_L_creditsIn ⟨(Nat.le_of_ble_eq_true rfl), (Nat.le_of_ble_eq_true rfl)⟩ hG rfl (Nat.le_of_ble_eq_true rfl) ⟨(by show 12 + 3 ≤ 70; omega), (by show 72 + 18 ≤ 420; omega)⟩ dL_thoughts_121 hS hAr (fun H locs hG hz hq hS => ?_)
          have hG : St D r P Q n H := hG
          clear hz hq
          refine topN (n := zc + yc) zc3 ?_
          refine lv_iload hx hb dL_thoughts_124 (lv_at hl 7 rfl) ?_
          refine lv_icmp_ge (tgt := 131) hx hb dL_thoughts_126 (by decide) (fun c126 => ?_) (fun c126 => ?_)
          · have c126 : zc ≤ zc + yc := (nI_leI (a := zc) (b := zc + yc) (by omega) (by omega)).mp c126
            refine lv_iload hx hb dL_thoughts_131 (lv_at hl 6 rfl) ?_
            refine lv_if_ne (tgt := 167) hx hb dL_thoughts_133 (by decide) (fun c133 => ?_) (fun c133 => ?_)
            · have c133 : ¬ np P = 0 := fun hh9 => c133 ((nI_eq (a := np P) (b := 0) (by omega) (by omega)).mpr hh9)
              refine lv_iload_n hx hb dL_thoughts_167 rfl (lv_at hl 1 rfl) ?_
              refine lv_bipush (v := 13) hx hb dL_thoughts_168 (by decide) ?_
              refine lv_ishr hx hb dL_thoughts_170 ?_
              refine lv_topi (fun xd exd => ?_)
              refine lv_iload hx hb dL_thoughts_171 (lv_at hl 6 rfl) ?_
              obtain ⟨q, ezq, hq1⟩ : ∃ z, lowN xd (np P) = z ∧ z < (np P) := ⟨_, rfl, lowN_lt (by omega)⟩
              refine gcSi (As := [.int xd, .int (nI (np P))]) (rest := []) hx hb hml hown hts hl.1 hK (c_L_low l D (fun H => St D r P Q n H) xd (np P) (by omega) (by omega)) (gaS qM_L_121 qT_L_low qK_L qC_L_low) hds_L_low ⟨(Nat.le_of_ble_eq_true rfl), (Nat.le_of_ble_eq_true rfl)⟩ hG rfl (Nat.le_of_ble_eq_true rfl) ⟨(by show 12 + 3 ≤ 70; omega), (by show 72 + 18 ≤ 420; omega)⟩ dL_thoughts_173 hS (fun _ h => False.elim h) (fun H locs hG _ hq hS => ?_)
              have hG : St D r P Q n H := hG
              refine topN (n := q) (by rw [ezq]) ?_
              obtain ⟨be1, be2, be3, hbe⟩ := th_best (T := T) (S := nI sn) (k := hr9) hI hq1 (by omega) (by omega) zc2
              have lsp := least_v (P := P) (q := q) (k := hr9) (T := T) (S := nI sn)
              have hgq := (hI.good.gP hq1).1.1.2
              refine lv_istore (lv' := [(10, .int (nI q)), (0, .ref r), (1, .int x), (2, .long (dgP P n)), (4, .int T), (5, .int (nI sn)), (6, .int (nI hr9)), (7, .int (nI (np P))), (8, .int (nI zc)), (9, .int (emptyP P T (nI sn)))]) hx hb dL_thoughts_176 hl (by decide) rfl (fun ls hl => ?_)
              refine lv_aload_n hx hb dL_thoughts_178 rfl (lv_at hl 1 rfl) ?_
              refine lv_iload hx hb dL_thoughts_179 (lv_at hl 0 rfl) ?_
              refine lv_iload hx hb dL_thoughts_181 (lv_at hl 4 rfl) ?_
              refine lv_iload hx hb dL_thoughts_183 (lv_at hl 5 rfl) ?_
              refine lv_iload hx hb dL_thoughts_185 (lv_at hl 6 rfl) ?_
              refine lwS (As := [.ref r, .int (nI q), .int T, .int (nI sn), .int (nI hr9)]) (rest := []) hx hb hml hown hts hl.1 hK hKx (fun _ h => h) (c_L_bestExchange l hl0 D r P Q n (bestP P q T (nI sn) hr9) (nI q) T (nI sn) (nI hr9) (fun C J h => A_best h hq1 hw (by omega))) (gHS qM_L_126 qT_L_bestExchange qK_L qC_L_bestExchange) hds_L_bestExchange ⟨(Nat.le_of_ble_eq_true rfl), (Nat.le_of_ble_eq_true rfl)⟩ hG rfl (Nat.le_of_ble_eq_true rfl) ⟨(by show 12 + 3 + 4 ≤ 70; omega), (by show 72 + 18 + 24 ≤ 420; omega)⟩ dL_thoughts_187 hS hAr (fun H locs hG hz hq hS => ?_)
              have hG : St D r P Q n H := hG
              clear hz hq
              refine lv_istore (lv' := [(11, .int (bestP P q T (nI sn) hr9)), (10, .int (nI q)), (0, .ref r), (1, .int x), (2, .long (dgP P n)), (4, .int T), (5, .int (nI sn)), (6, .int (nI hr9)), (7, .int (nI (np P))), (8, .int (nI zc)), (9, .int (emptyP P T (nI sn)))]) hx hb dL_thoughts_190 hl (by decide) rfl (fun ls hl => ?_)
              refine lv_aload_n hx hb dL_thoughts_192 rfl (lv_at hl 2 rfl) ?_
              refine lv_iload hx hb dL_thoughts_193 (lv_at hl 1 rfl) ?_
              refine lv_iload hx hb dL_thoughts_195 (lv_at hl 5 rfl) ?_
              refine lv_iload hx hb dL_thoughts_197 (lv_at hl 6 rfl) ?_
              refine lv_iload hx hb dL_thoughts_199 (lv_at hl 7 rfl) ?_
              refine lwS (As := [.ref r, .int (nI q), .int T, .int (nI sn), .int (nI hr9)]) (rest := []) hx hb hml hown hts hl.1 hK hKx (fun _ h => h) (c_L_leastSpeed l hl0 D r P Q n (leastP P q T (nI sn) hr9) (nI q) T (nI sn) (nI hr9) (fun C J h => A_least h hq1 hw (by omega))) (gHS qM_L_129 qT_L_leastSpeed qK_L qC_L_leastSpeed) hds_L_leastSpeed ⟨(Nat.le_of_ble_eq_true rfl), (Nat.le_of_ble_eq_true rfl)⟩ hG rfl (Nat.le_of_ble_eq_true rfl) ⟨(by show 12 + 3 + 4 + 4 ≤ 70; omega), (by show 72 + 18 + 24 + 24 ≤ 420; omega)⟩ dL_thoughts_201 hS hAr (fun H locs hG hz hq hS => ?_)
              have hG : St D r P Q n H := hG
              clear hz hq
              refine lv_istore (lv' := [(12, .int (leastP P q T (nI sn) hr9)), (11, .int (bestP P q T (nI sn) hr9)), (10, .int (nI q)), (0, .ref r), (1, .int x), (2, .long (dgP P n)), (4, .int T), (5, .int (nI sn)), (6, .int (nI hr9)), (7, .int (nI (np P))), (8, .int (nI zc)), (9, .int (emptyP P T (nI sn)))]) hx hb dL_thoughts_204 hl (by decide) rfl (fun ls hl => ?_)
              refine lv_aload_n hx hb dL_thoughts_206 rfl (lv_at hl 3 rfl) ?_
              obtain ⟨C, J, G, Y, X, U, Z, F, hN, hd, hf⟩ := hG
              refine gcVl (As := []) (rest := []) hx hb hml hown hts hl.1 hK (c_X6_digest l D r C J G n Y X U Z F hd.wf hd.1.okQ) (gaV qM_L_109 qI_X6_digest qS_X6_digest qK_X6 qC_X6_digest) hdv_X6_digest ⟨(Nat.le_of_ble_eq_true rfl), (Nat.le_of_ble_eq_true rfl)⟩ hN (Sn.recv hK hN) rfl (Nat.le_of_ble_eq_true rfl) ⟨(by show 12 + 3 + 4 + 4 ≤ 70; omega), (by show 72 + 18 + 24 + 24 ≤ 420; omega)⟩ dL_thoughts_207 hS hAr (fun H locs hN hz hq hS => ?_)
              refine topLE (digest_c hd.1 hf) ?_
              have hG : St D r P Q n H := ⟨C, J, G, Y, X, U, Z, F, hN, hd, hf⟩
              clear hN hz hq
              refine lv_lload_n hx hb dL_thoughts_210 rfl (lv_at hl 5 rfl) ?_
              refine W.lcmp hx hb dL_thoughts_211 ?_
              refine topE (y := 0) (lgc_self _) ?_
              refine lv_if_ne (tgt := 257) hx hb dL_thoughts_212 (by decide) (fun c212 => ?_) (fun c212 => ?_)
              · exact absurd c212 (by decide)
              · refine lv_iload hx hb dL_thoughts_215 (lv_at hl 0 rfl) ?_
                refine lv_iconst (v := (-1)) hx hb dL_thoughts_217 (by decide) ?_
                have K244 : ∀ (H : Heap) (locs : List Loc) (ls : Array Slot) (hG : St D r P Q n H) (hS : va_S (fun q => r ≤ q) s.heap H locs) (hl : lv_has ls 15 [(0, .ref r), (1, .int x), (2, .long (dgP P n)), (4, .int T), (5, .int (nI sn)), (6, .int (nI hr9)), (7, .int (nI (np P))), (8, .int (nI zc)), (9, .int (emptyP P T (nI sn))), (10, .int (nI q)), (11, .int (bestP P q T (nI sn) hr9)), (12, .int (leastP P q T (nI sn) hr9))]), W p l e (headSpec (wA yL_thoughts cL_thoughts 15 (some .boolean)) (rmX 10 70 420)).room s m args below meth c H locs (12 + 3 + 4 + 4) (72 + 18 + 24 + 24) (MQ below (gQi (fun q => r ≤ q) 1 (fun H => ∃ (Q9 : Nat → Nat → Int32) (n9 : Nat), St D r P Q9 n9 H)) args s 70 420 (fun q => r ≤ q)) (F0 m 244 ls []) := by
                  intro H locs ls hG hS hl
                  refine lv_iload hx hb dL_thoughts_244 (lv_at hl 10 rfl) ?_
                  refine lv_iconst (v := (-1)) hx hb dL_thoughts_246 (by decide) ?_
                  refine lv_icmp_lt (tgt := 257) hx hb dL_thoughts_247 (by decide) (fun c247 => ?_) (fun c247 => ?_)
                  · exact absurd c247 be1
                  · refine lv_iload hx hb dL_thoughts_250 (lv_at hl 10 rfl) ?_
                    refine lv_bipush (v := 10) hx hb dL_thoughts_252 (by decide) ?_
                    refine lv_icmp_le (tgt := 259) hx hb dL_thoughts_254 (by decide) (fun c254 => ?_) (fun c254 => ?_)
                    · refine lv_iload hx hb dL_thoughts_259 (lv_at hl 7 rfl) ?_
                      have K392 : ∀ (Q9 : Nat → Nat → Int32) (n9 : Nat) (H : Heap) (locs : List Loc) (ls : Array Slot) (hG : St D r P Q9 n9 H) (hS : va_S (fun q => r ≤ q) s.heap H locs) (hl : lv_has ls 15 [(0, .ref r), (1, .int x), (2, .long (dgP P n)), (4, .int T), (5, .int (nI sn)), (6, .int (nI hr9)), (7, .int (nI (np P))), (8, .int (nI zc)), (9, .int (emptyP P T (nI sn))), (10, .int (nI q)), (11, .int (bestP P q T (nI sn) hr9)), (12, .int (leastP P q T (nI sn) hr9))]), W p l e (headSpec (wA yL_thoughts cL_thoughts 15 (some .boolean)) (rmX 10 70 420)).room s m args below meth c H locs (40) (240) (MQ below (gQi (fun q => r ≤ q) 1 (fun H => ∃ (Q9 : Nat → Nat → Int32) (n9 : Nat), St D r P Q9 n9 H)) args s 70 420 (fun q => r ≤ q)) (F0 m 392 ls []) := by
                        intro Q9 n9 H locs ls hG hS hl
                        refine lv_iload hx hb dL_thoughts_392 (lv_at hl 10 rfl) ?_
                        refine lv_iconst (v := (-1)) hx hb dL_thoughts_394 (by decide) ?_
                        have K403 : ∀ (H : Heap) (locs : List Loc) (ls : Array Slot) (hG : St D r P Q9 n9 H) (hS : va_S (fun q => r ≤ q) s.heap H locs) (hl : lv_has ls 15 [(0, .ref r), (1, .int x), (2, .long (dgP P n)), (4, .int T), (5, .int (nI sn)), (6, .int (nI hr9)), (7, .int (nI (np P))), (8, .int (nI zc)), (9, .int (emptyP P T (nI sn))), (10, .int (nI q)), (11, .int (bestP P q T (nI sn) hr9)), (12, .int (leastP P q T (nI sn) hr9))]), W p l e (headSpec (wA yL_thoughts cL_thoughts 15 (some .boolean)) (rmX 10 70 420)).room s m args below meth c H locs (40) (240) (MQ below (gQi (fun q => r ≤ q) 1 (fun H => ∃ (Q9 : Nat → Nat → Int32) (n9 : Nat), St D r P Q9 n9 H)) args s 70 420 (fun q => r ≤ q)) (F0 m 403 ls []) := by
                          intro H locs ls hG hS hl
                          refine lv_iconst (v := 1) hx hb dL_thoughts_403 (by decide) ?_
                          refine lv_goto (tgt := 408) hx hb dL_thoughts_404 (by decide) ?_
                          refine W.widen (k := 70) (n := 420) (by omega) (by omega) ?_
                          exact W.zret hx hb hr rfl (fun t ht hW => gQi_of rfl ⟨_, _, hG⟩ hS ht) hS.2.2 dL_thoughts_408
                        refine lv_icmp_eq (tgt := 403) hx hb dL_thoughts_395 (by decide) (fun c395 => ?_) (fun c395 => ?_)
                        · exact K403  _ _ _  hG hS (lv_sub hl [0, 1, 2, 3, 4, 5, 6, 7, 8, 9, 10, 11] rfl)
                        · refine lv_iload hx hb dL_thoughts_398 (lv_at hl 7 rfl) ?_
                          have := be3 c395
                          refine lv_if_le (tgt := 407) hx hb dL_thoughts_400 (by decide) (fun c400 => ?_) (fun c400 => ?_)
                          · have c400 : zc ≤ 0 := (nI_leI (a := zc) (b := 0) (by omega) (by omega)).mp c400
                            exact absurd c400 (by omega)
                          · have c400 : ¬ zc ≤ 0 := fun hh9 => c400 ((nI_leI (a := zc) (b := 0) (by omega) (by omega)).mpr hh9)
                            exact K403  _ _ _  hG hS (lv_sub hl [0, 1, 2, 3, 4, 5, 6, 7, 8, 9, 10, 11] rfl)
                      have K323 : ∀ (H : Heap) (locs : List Loc) (ls : Array Slot) (hG : St D r P Q n H) (hS : va_S (fun q => r ≤ q) s.heap H locs) (hl : lv_has ls 15 [(0, .ref r), (1, .int x), (2, .long (dgP P n)), (4, .int T), (5, .int (nI sn)), (6, .int (nI hr9)), (7, .int (nI (np P))), (8, .int (nI zc)), (9, .int (emptyP P T (nI sn))), (10, .int (nI q)), (11, .int (bestP P q T (nI sn) hr9)), (12, .int (leastP P q T (nI sn) hr9))]), W p l e (headSpec (wA yL_thoughts cL_thoughts 15 (some .boolean)) (rmX 10 70 420)).room s m args below meth c H locs (12 + 3 + 4 + 4) (72 + 18 + 24 + 24) (MQ below (gQi (fun q => r ≤ q) 1 (fun H => ∃ (Q9 : Nat → Nat → Int32) (n9 : Nat), St D r P Q9 n9 H)) args s 70 420 (fun q => r ≤ q)) (F0 m 323 ls []) := by
                        intro H locs ls hG hS hl
                        refine lv_iload hx hb dL_thoughts_323 (lv_at hl 10 rfl) ?_
                        refine lv_if_lt (tgt := 392) hx hb dL_thoughts_325 (by decide) (fun c325 => ?_) (fun c325 => ?_)
                        · refine W.widen (k := 40) (n := 240) (by omega) (by omega) ?_
                          exact K392 _ _ _ _ _  hG hS (lv_sub hl [0, 1, 2, 3, 4, 5, 6, 7, 8, 9, 10, 11] rfl)
                        · obtain ⟨i, bi1, bi0, bi2, bi3⟩ := hbe.resolve_left (fun hh9 => c325 (by rw [hh9.1]; decide))
                          have hsv : svN n + 1 ≤ 4 := svN_le
                          have bi4 := bi2.1
                          refine lv_aload_n hx hb dL_thoughts_328 rfl (lv_at hl 0 rfl) ?_
                          refine lv_iload hx hb dL_thoughts_329 (lv_at hl 9 rfl) ?_
                          refine lv_iload hx hb dL_thoughts_331 (lv_at hl 10 rfl) ?_
                          refine topN (n := i) bi1 ?_
                          refine lv_iconst (v := 1) hx hb dL_thoughts_333 (by decide) ?_
                          refine iaddN (a := i) (b := 1) hx hb dL_thoughts_334 ?_
                          refine lwS (As := [.ref r, .int (nI q), .int (nI (i + 1))]) (rest := []) hx hb hml hown hts hl.1 hK hKx (fun _ h => h) (c_L_stop l hl0 D r P Q n (P (169 + 20 * q + 8 + (i + 1))) (nI q) (nI (i + 1)) (fun C h => R_stop (q := q) (j := i + 1) h hq1 bi2.1)) (gHS qM_L_102 qT_L_stop qK_L qC_L_stop) hds_L_stop ⟨(Nat.le_of_ble_eq_true rfl), (Nat.le_of_ble_eq_true rfl)⟩ hG rfl (Nat.le_of_ble_eq_true rfl) ⟨(by show 12 + 3 + 4 + 4 + 2 ≤ 70; omega), (by show 72 + 18 + 24 + 24 + 12 ≤ 420; omega)⟩ dL_thoughts_335 hS hAr (fun H locs hG hz hq hS => ?_)
                          have hG : St D r P Q n H := hG
                          clear hz hq
                          refine lv_istore (lv' := [(13, .int (P (169 + 20 * q + 8 + (i + 1)))), (0, .ref r), (1, .int x), (2, .long (dgP P n)), (4, .int T), (5, .int (nI sn)), (6, .int (nI hr9)), (7, .int (nI (np P))), (8, .int (nI zc)), (9, .int (emptyP P T (nI sn))), (10, .int (nI q)), (11, .int (bestP P q T (nI sn) hr9)), (12, .int (leastP P q T (nI sn) hr9))]) hx hb dL_thoughts_338 hl (by decide) rfl (fun ls hl => ?_)
                          refine lv_aload_n hx hb dL_thoughts_340 rfl (lv_at hl 1 rfl) ?_
                          refine lv_iload hx hb dL_thoughts_341 (lv_at hl 10 rfl) ?_
                          refine lv_iload hx hb dL_thoughts_343 (lv_at hl 11 rfl) ?_
                          refine topN (n := i) bi1 ?_
                          refine lwS (As := [.ref r, .int (nI q), .int (nI i)]) (rest := []) hx hb hml hown hts hl.1 hK hKx (fun _ h => h) (c_L_exchange l hl0 D r P Q n (fP_X7_exchanges P q i) (svQ Q n P) (svN n + 1) (P (169 + 20 * q + 8 + (i + 1))) (nI q) (nI i) (fun C G hd => E_exchange hq1 bi2.1 bi2.2 hd)) (gHS qM_L_131 qT_L_exchange qK_L qC_L_exchange) hds_L_exchange ⟨(Nat.le_of_ble_eq_true rfl), (Nat.le_of_ble_eq_true rfl)⟩ hG rfl (Nat.le_of_ble_eq_true rfl) ⟨(by show 12 + 3 + 4 + 4 + 2 + 3 ≤ 70; omega), (by show 72 + 18 + 24 + 24 + 12 + 18 ≤ 420; omega)⟩ dL_thoughts_345 hS hAr (fun H locs hG hz hq hS => ?_)
                          have hG : St D r (fP_X7_exchanges P q i) (svQ Q n P) (svN n + 1) H := hG
                          clear hz hq
                          refine lv_iload hx hb dL_thoughts_348 (lv_at hl 0 rfl) ?_
                          refine lv_icmp_ne (tgt := 390) hx hb dL_thoughts_350 (by decide) (fun c350 => ?_) (fun c350 => ?_)
                          · exact absurd rfl c350
                          · refine lv_aload_n hx hb dL_thoughts_353 rfl (lv_at hl 1 rfl) ?_
                            refine lv_iload hx hb dL_thoughts_354 (lv_at hl 4 rfl) ?_
                            refine lv_iload hx hb dL_thoughts_356 (lv_at hl 5 rfl) ?_
                            refine lv_iload hx hb dL_thoughts_358 (lv_at hl 6 rfl) ?_
                            refine lwS (As := [.ref r, .int T, .int (nI sn), .int (nI hr9)]) (rest := []) hx hb hml hown hts hl.1 hK hKx (fun _ h => h) (c_L_creditsIn l hl0 D r (fP_X7_exchanges P q i) (svQ Q n P) (svN n + 1) (fR_X7_hours (fP_X7_exchanges P q i) T (nI sn) hr9) T (nI sn) (nI hr9) (fun C J h => A_credits h hw (by omega))) (gHS qM_L_113 qT_L_creditsIn qK_L qC_L_creditsIn) hds_L_creditsIn ⟨(Nat.le_of_ble_eq_true rfl), (Nat.le_of_ble_eq_true rfl)⟩ hG rfl (Nat.le_of_ble_eq_true rfl) ⟨(by show 12 + 3 + 4 + 4 + 2 + 3 + 3 ≤ 70; omega), (by show 72 + 18 + 24 + 24 + 12 + 18 + 18 ≤ 420; omega)⟩ dL_thoughts_360 hS hAr (fun H locs hG hz hq hS => ?_)
                            have hG : St D r (fP_X7_exchanges P q i) (svQ Q n P) (svN n + 1) H := hG
                            clear hz hq
                            refine lv_iload hx hb dL_thoughts_363 (lv_at hl 8 rfl) ?_
                            refine lv_icmp_ge (tgt := 390) hx hb dL_thoughts_365 (by decide) (fun c365 => ?_) (fun c365 => ?_)
                            · exact absurd c365 (Int32.not_le.mpr bi3)
                            · refine lv_aload_n hx hb dL_thoughts_368 rfl (lv_at hl 1 rfl) ?_
                              refine lwS (As := [.ref r]) (rest := []) hx hb hml hown hts hl.1 hK hKx (fun _ h => h) (c_L_undo l hl0 D r (fP_X7_exchanges P q i) (svQ Q n P) (svN n + 1) P (svQ Q n P) (svN n + 1 - 1) (nI (svN n + 1 - 1))  (fun C G hd => E_undo1 hd)) (gHS qM_L_118 qT_L_undo qK_L qC_L_undo) hds_L_undo ⟨(Nat.le_of_ble_eq_true rfl), (Nat.le_of_ble_eq_true rfl)⟩ hG rfl (Nat.le_of_ble_eq_true rfl) ⟨(by show 12 + 3 + 4 + 4 + 2 + 3 + 3 + 1 ≤ 70; omega), (by show 72 + 18 + 24 + 24 + 12 + 18 + 18 + 6 ≤ 420; omega)⟩ dL_thoughts_369 hS hAr (fun H locs hG hz hq hS => ?_)
                              have hG : St D r P (svQ Q n P) (svN n + 1 - 1) H := hG
                              clear hz hq
                              refine topN (n := svN n + 1 - 1) rfl ?_
                              refine lv_if_lt (tgt := 390) hx hb dL_thoughts_372 (by decide) (fun c372 => ?_) (fun c372 => ?_)
                              · have c372 : svN n + 1 - 1 < 0 := (nI_ltI (a := svN n + 1 - 1) (b := 0) (by omega) (by omega)).mp c372
                                exact absurd c372 (by omega)
                              · have c372 : ¬ svN n + 1 - 1 < 0 := fun hh9 => c372 ((nI_ltI (a := svN n + 1 - 1) (b := 0) (by omega) (by omega)).mpr hh9)
                                refine lv_aload_n hx hb dL_thoughts_375 rfl (lv_at hl 1 rfl) ?_
                                refine lv_iload hx hb dL_thoughts_376 (lv_at hl 10 rfl) ?_
                                refine lv_iload hx hb dL_thoughts_378 (lv_at hl 11 rfl) ?_
                                refine topN (n := i) bi1 ?_
                                refine lv_iconst (v := 1) hx hb dL_thoughts_380 (by decide) ?_
                                refine iaddN (a := i) (b := 1) hx hb dL_thoughts_381 ?_
                                refine lwS (As := [.ref r, .int (nI q), .int (nI (i + 1))]) (rest := []) hx hb hml hown hts hl.1 hK hKx (fun _ h => h) (c_L_stop l hl0 D r P (svQ Q n P) (svN n + 1 - 1) (P (169 + 20 * q + 8 + (i + 1))) (nI q) (nI (i + 1)) (fun C h => R_stop (q := q) (j := i + 1) h hq1 bi2.1)) (gHS qM_L_102 qT_L_stop qK_L qC_L_stop) hds_L_stop ⟨(Nat.le_of_ble_eq_true rfl), (Nat.le_of_ble_eq_true rfl)⟩ hG rfl (Nat.le_of_ble_eq_true rfl) ⟨(by show 12 + 3 + 4 + 4 + 2 + 3 + 3 + 1 + 2 ≤ 70; omega), (by show 72 + 18 + 24 + 24 + 12 + 18 + 18 + 6 + 12 ≤ 420; omega)⟩ dL_thoughts_382 hS hAr (fun H locs hG hz hq hS => ?_)
                                have hG : St D r P (svQ Q n P) (svN n + 1 - 1) H := hG
                                clear hz hq
                                refine lv_iload hx hb dL_thoughts_385 (lv_at hl 0 rfl) ?_
                                refine lv_icmp_eq (tgt := 392) hx hb dL_thoughts_387 (by decide) (fun c387 => ?_) (fun c387 => ?_)
                                · refine W.widen (k := 40) (n := 240) (by omega) (by omega) ?_
                                  exact K392 _ _ _ _ _  hG hS (lv_sub hl [1, 2, 3, 4, 5, 6, 7, 8, 9, 10, 11, 12] rfl)
                                · exact absurd rfl c387
                      refine lv_if_le (tgt := 323) hx hb dL_thoughts_261 (by decide) (fun c261 => ?_) (fun c261 => ?_)
                      · have c261 : zc ≤ 0 := (nI_leI (a := zc) (b := 0) (by omega) (by omega)).mp c261
                        exact K323  _ _ _  hG hS (lv_sub hl [0, 1, 2, 3, 4, 5, 6, 7, 8, 9, 10, 11] rfl)
                      · have c261 : ¬ zc ≤ 0 := fun hh9 => c261 ((nI_leI (a := zc) (b := 0) (by omega) (by omega)).mpr hh9)
                        refine lv_iload hx hb dL_thoughts_264 (lv_at hl 10 rfl) ?_
                        refine lv_iconst (v := (-1)) hx hb dL_thoughts_266 (by decide) ?_
                        refine lv_icmp_ne (tgt := 323) hx hb dL_thoughts_267 (by decide) (fun c267 => ?_) (fun c267 => ?_)
                        · exact K323  _ _ _  hG hS (lv_sub hl [0, 1, 2, 3, 4, 5, 6, 7, 8, 9, 10, 11] rfl)
                        · have hb1 := (hbe.resolve_right (fun hh9 => by obtain ⟨i, b1, b2, -⟩ := hh9; rw [c267] at b1; exact absurd b1.symm (fun h2 => nI_pos (n := i) (by omega) (by rw [h2]; decide)))).2
                          refine lv_iload_n hx hb dL_thoughts_270 rfl (lv_at hl 1 rfl) ?_
                          refine lv_bipush (v := 17) hx hb dL_thoughts_271 (by decide) ?_
                          refine lv_ishr hx hb dL_thoughts_273 ?_
                          refine lv_topi (fun xk exk => ?_)
                          refine lv_bipush (v := 12) hx hb dL_thoughts_274 (by decide) ?_
                          refine topN (n := 12) rfl ?_
                          obtain ⟨k, ezk, hk1⟩ : ∃ z, lowN xk 12 = z ∧ z < 12 := ⟨_, rfl, lowN_lt (by decide)⟩
                          refine gcSi (As := [.int xk, .int (nI 12)]) (rest := []) hx hb hml hown hts hl.1 hK (c_L_low l D (fun H => St D r P Q n H) xk 12 (by decide) (by decide)) (gaS qM_L_121 qT_L_low qK_L qC_L_low) hds_L_low ⟨(Nat.le_of_ble_eq_true rfl), (Nat.le_of_ble_eq_true rfl)⟩ hG rfl (Nat.le_of_ble_eq_true rfl) ⟨(by show 12 + 3 + 4 + 4 ≤ 70; omega), (by show 72 + 18 + 24 + 24 ≤ 420; omega)⟩ dL_thoughts_276 hS (fun _ h => False.elim h) (fun H locs hG _ hq hS => ?_)
                          have hG : St D r P Q n H := hG
                          refine topN (n := k) (by rw [ezk]) ?_
                          refine lv_istore (lv' := [(13, .int (nI k)), (0, .ref r), (1, .int x), (2, .long (dgP P n)), (4, .int T), (5, .int (nI sn)), (6, .int (nI hr9)), (7, .int (nI (np P))), (8, .int (nI zc)), (9, .int (emptyP P T (nI sn))), (10, .int (nI q)), (11, .int (bestP P q T (nI sn) hr9)), (12, .int (leastP P q T (nI sn) hr9))]) hx hb dL_thoughts_279 hl (by decide) rfl (fun ls hl => ?_)
                          rcases th_case (P := P) (q := q) k with hc | hc | hc
                          · refine lv_aload_n hx hb dL_thoughts_281 rfl (lv_at hl 1 rfl) ?_
                            refine lv_iload hx hb dL_thoughts_282 (lv_at hl 10 rfl) ?_
                            refine lv_iload hx hb dL_thoughts_284 (lv_at hl 0 rfl) ?_
                            refine lwS (As := [.ref r, .int (nI q), .int (nI k)]) (rest := []) hx hb hml hown hts hl.1 hK hKx (fun _ h => h) (c_L_exchange l hl0 D r P Q n P Q n (-90300) (nI q) (nI k) (fun C G hd => E_exchange_i hq1 hc (by omega) hd)) (gHS qM_L_131 qT_L_exchange qK_L qC_L_exchange) hds_L_exchange ⟨(Nat.le_of_ble_eq_true rfl), (Nat.le_of_ble_eq_true rfl)⟩ hG rfl (Nat.le_of_ble_eq_true rfl) ⟨(by show 12 + 3 + 4 + 4 + 3 ≤ 70; omega), (by show 72 + 18 + 24 + 24 + 18 ≤ 420; omega)⟩ dL_thoughts_286 hS hAr (fun H locs hG hz hq hS => ?_)
                            have hG : St D r P Q n H := hG
                            clear hz hq
                            refine lv_istore (lv' := [(14, .int (-90300)), (13, .int (nI k)), (0, .ref r), (1, .int x), (2, .long (dgP P n)), (4, .int T), (5, .int (nI sn)), (6, .int (nI hr9)), (7, .int (nI (np P))), (8, .int (nI zc)), (9, .int (emptyP P T (nI sn))), (10, .int (nI q)), (11, .int (bestP P q T (nI sn) hr9)), (12, .int (leastP P q T (nI sn) hr9))]) hx hb dL_thoughts_289 hl (by decide) rfl (fun ls hl => ?_)
                            refine lv_iload hx hb dL_thoughts_291 (lv_at hl 0 rfl) ?_
                            refine lv_if_lt (tgt := 320) hx hb dL_thoughts_293 (by decide) (fun c293 => ?_) (fun c293 => ?_)
                            · refine lv_goto (tgt := 392) hx hb dL_thoughts_320 (by decide) ?_
                              refine W.widen (k := 40) (n := 240) (by omega) (by omega) ?_
                              exact K392 _ _ _ _ _  hG hS (lv_sub hl [2, 3, 4, 5, 6, 7, 8, 9, 10, 11, 12, 13] rfl)
                            · exact absurd c293 (by decide)
                          · refine lv_aload_n hx hb dL_thoughts_281 rfl (lv_at hl 1 rfl) ?_
                            refine lv_iload hx hb dL_thoughts_282 (lv_at hl 10 rfl) ?_
                            refine lv_iload hx hb dL_thoughts_284 (lv_at hl 0 rfl) ?_
                            refine lwS (As := [.ref r, .int (nI q), .int (nI k)]) (rest := []) hx hb hml hown hts hl.1 hK hKx (fun _ h => h) (c_L_exchange l hl0 D r P Q n P Q n (-90200) (nI q) (nI k) (fun C G hd => E_exchange_b hq1 hc.1 hc.2 hd)) (gHS qM_L_131 qT_L_exchange qK_L qC_L_exchange) hds_L_exchange ⟨(Nat.le_of_ble_eq_true rfl), (Nat.le_of_ble_eq_true rfl)⟩ hG rfl (Nat.le_of_ble_eq_true rfl) ⟨(by show 12 + 3 + 4 + 4 + 3 ≤ 70; omega), (by show 72 + 18 + 24 + 24 + 18 ≤ 420; omega)⟩ dL_thoughts_286 hS hAr (fun H locs hG hz hq hS => ?_)
                            have hG : St D r P Q n H := hG
                            clear hz hq
                            refine lv_istore (lv' := [(14, .int (-90200)), (13, .int (nI k)), (0, .ref r), (1, .int x), (2, .long (dgP P n)), (4, .int T), (5, .int (nI sn)), (6, .int (nI hr9)), (7, .int (nI (np P))), (8, .int (nI zc)), (9, .int (emptyP P T (nI sn))), (10, .int (nI q)), (11, .int (bestP P q T (nI sn) hr9)), (12, .int (leastP P q T (nI sn) hr9))]) hx hb dL_thoughts_289 hl (by decide) rfl (fun ls hl => ?_)
                            refine lv_iload hx hb dL_thoughts_291 (lv_at hl 0 rfl) ?_
                            refine lv_if_lt (tgt := 320) hx hb dL_thoughts_293 (by decide) (fun c293 => ?_) (fun c293 => ?_)
                            · refine lv_goto (tgt := 392) hx hb dL_thoughts_320 (by decide) ?_
                              refine W.widen (k := 40) (n := 240) (by omega) (by omega) ?_
                              exact K392 _ _ _ _ _  hG hS (lv_sub hl [2, 3, 4, 5, 6, 7, 8, 9, 10, 11, 12, 13] rfl)
                            · exact absurd c293 (by decide)
                          · obtain ⟨rr, rr1, rr2⟩ := th_route (k := k + 1) hI hq1 hc.1
                            have hsv : svN n + 1 ≤ 4 := svN_le
                            refine lv_aload_n hx hb dL_thoughts_281 rfl (lv_at hl 1 rfl) ?_
                            refine lv_iload hx hb dL_thoughts_282 (lv_at hl 10 rfl) ?_
                            refine lv_iload hx hb dL_thoughts_284 (lv_at hl 0 rfl) ?_
                            refine lwS (As := [.ref r, .int (nI q), .int (nI k)]) (rest := []) hx hb hml hown hts hl.1 hK hKx (fun _ h => h) (c_L_exchange l hl0 D r P Q n (fP_X7_exchanges P q k) (svQ Q n P) (svN n + 1) (P (169 + 20 * q + 8 + (k + 1))) (nI q) (nI k) (fun C G hd => E_exchange hq1 hc.1 hc.2 hd)) (gHS qM_L_131 qT_L_exchange qK_L qC_L_exchange) hds_L_exchange ⟨(Nat.le_of_ble_eq_true rfl), (Nat.le_of_ble_eq_true rfl)⟩ hG rfl (Nat.le_of_ble_eq_true rfl) ⟨(by show 12 + 3 + 4 + 4 + 3 ≤ 70; omega), (by show 72 + 18 + 24 + 24 + 18 ≤ 420; omega)⟩ dL_thoughts_286 hS hAr (fun H locs hG hz hq hS => ?_)
                            have hG : St D r (fP_X7_exchanges P q k) (svQ Q n P) (svN n + 1) H := hG
                            clear hz hq
                            refine topN (n := rr) rr1 ?_
                            refine lv_istore (lv' := [(14, .int (nI rr)), (13, .int (nI k)), (0, .ref r), (1, .int x), (2, .long (dgP P n)), (4, .int T), (5, .int (nI sn)), (6, .int (nI hr9)), (7, .int (nI (np P))), (8, .int (nI zc)), (9, .int (emptyP P T (nI sn))), (10, .int (nI q)), (11, .int (bestP P q T (nI sn) hr9)), (12, .int (leastP P q T (nI sn) hr9))]) hx hb dL_thoughts_289 hl (by decide) rfl (fun ls hl => ?_)
                            refine lv_iload hx hb dL_thoughts_291 (lv_at hl 0 rfl) ?_
                            refine lv_if_lt (tgt := 320) hx hb dL_thoughts_293 (by decide) (fun c293 => ?_) (fun c293 => ?_)
                            · have c293 : rr < 0 := (nI_ltI (a := rr) (b := 0) (by omega) (by omega)).mp c293
                              exact absurd c293 (by omega)
                            · have c293 : ¬ rr < 0 := fun hh9 => c293 ((nI_ltI (a := rr) (b := 0) (by omega) (by omega)).mpr hh9)
                              refine lv_aload_n hx hb dL_thoughts_296 rfl (lv_at hl 2 rfl) ?_
                              refine lv_iload hx hb dL_thoughts_297 (lv_at hl 5 rfl) ?_
                              refine lv_iload hx hb dL_thoughts_299 (lv_at hl 6 rfl) ?_
                              refine lv_iload hx hb dL_thoughts_301 (lv_at hl 7 rfl) ?_
                              refine lwS (As := [.ref r, .int T, .int (nI sn), .int (nI hr9)]) (rest := []) hx hb hml hown hts hl.1 hK hKx (fun _ h => h) (c_L_creditsIn l hl0 D r (fP_X7_exchanges P q k) (svQ Q n P) (svN n + 1) (fR_X7_hours (fP_X7_exchanges P q k) T (nI sn) hr9) T (nI sn) (nI hr9) (fun C J h => A_credits h hw (by omega))) (gHS qM_L_113 qT_L_creditsIn qK_L qC_L_creditsIn) hds_L_creditsIn ⟨(Nat.le_of_ble_eq_true rfl), (Nat.le_of_ble_eq_true rfl)⟩ hG rfl (Nat.le_of_ble_eq_true rfl) ⟨(by show 12 + 3 + 4 + 4 + 3 + 3 ≤ 70; omega), (by show 72 + 18 + 24 + 24 + 18 + 18 ≤ 420; omega)⟩ dL_thoughts_303 hS hAr (fun H locs hG hz hq hS => ?_)
                              have hG : St D r (fP_X7_exchanges P q k) (svQ Q n P) (svN n + 1) H := hG
                              clear hz hq
                              refine lv_iload hx hb dL_thoughts_306 (lv_at hl 9 rfl) ?_
                              refine lv_icmp_lt (tgt := 318) hx hb dL_thoughts_308 (by decide) (fun c308 => ?_) (fun c308 => ?_)
                              · exact absurd c308 (Int32.not_lt.mpr (hb1 k hc))
                              · refine lv_aload_n hx hb dL_thoughts_311 rfl (lv_at hl 2 rfl) ?_
                                refine lwS (As := [.ref r]) (rest := []) hx hb hml hown hts hl.1 hK hKx (fun _ h => h) (c_L_undo l hl0 D r (fP_X7_exchanges P q k) (svQ Q n P) (svN n + 1) P (svQ Q n P) (svN n + 1 - 1) (nI (svN n + 1 - 1))  (fun C G hd => E_undo1 hd)) (gHS qM_L_118 qT_L_undo qK_L qC_L_undo) hds_L_undo ⟨(Nat.le_of_ble_eq_true rfl), (Nat.le_of_ble_eq_true rfl)⟩ hG rfl (Nat.le_of_ble_eq_true rfl) ⟨(by show 12 + 3 + 4 + 4 + 3 + 3 + 1 ≤ 70; omega), (by show 72 + 18 + 24 + 24 + 18 + 18 + 6 ≤ 420; omega)⟩ dL_thoughts_312 hS hAr (fun H locs hG hz hq hS => ?_)
                                have hG : St D r P (svQ Q n P) (svN n + 1 - 1) H := hG
                                clear hz hq
                                refine topN (n := svN n + 1 - 1) rfl ?_
                                refine lv_if_ge (tgt := 320) hx hb dL_thoughts_315 (by decide) (fun c315 => ?_) (fun c315 => ?_)
                                · have c315 : 0 ≤ svN n + 1 - 1 := (nI_leI (a := 0) (b := svN n + 1 - 1) (by omega) (by omega)).mp c315
                                  refine lv_goto (tgt := 392) hx hb dL_thoughts_320 (by decide) ?_
                                  refine W.widen (k := 40) (n := 240) (by omega) (by omega) ?_
                                  exact K392 _ _ _ _ _  hG hS (lv_sub hl [2, 3, 4, 5, 6, 7, 8, 9, 10, 11, 12, 13] rfl)
                                · have c315 : ¬ 0 ≤ svN n + 1 - 1 := fun hh9 => c315 ((nI_leI (a := 0) (b := svN n + 1 - 1) (by omega) (by omega)).mpr hh9)
                                  exact absurd c315 (by omega)
                    · exact absurd be2 c254
                refine lv_icmp_eq (tgt := 244) hx hb dL_thoughts_218 (by decide) (fun c218 => ?_) (fun c218 => ?_)
                · exact K244  _ _ _  hG hS (lv_sub hl [3, 4, 5, 6, 7, 8, 9, 10, 11, 2, 1, 0] rfl)
                · obtain ⟨tt, tt1, tt2, tt3⟩ := lsp.resolve_left c218
                  refine lv_iload hx hb dL_thoughts_221 (lv_at hl 0 rfl) ?_
                  refine topN (n := 100 * tt) tt1 ?_
                  refine lv_bipush (v := 100) hx hb dL_thoughts_223 (by decide) ?_
                  refine lv_icmp_lt (tgt := 257) hx hb dL_thoughts_225 (by decide) (fun c225 => ?_) (fun c225 => ?_)
                  · have c225 : 100 * tt < 100 := (nI_ltI (a := 100 * tt) (b := 100) (by omega) (by omega)).mp c225
                    exact absurd c225 (by omega)
                  · have c225 : ¬ 100 * tt < 100 := fun hh9 => c225 ((nI_ltI (a := 100 * tt) (b := 100) (by omega) (by omega)).mpr hh9)
                    refine lv_iload hx hb dL_thoughts_228 (lv_at hl 0 rfl) ?_
                    refine topN (n := 100 * tt) tt1 ?_
                    refine lv_sipush (v := 5000) hx hb dL_thoughts_230 (by decide) ?_
                    refine lv_icmp_gt (tgt := 257) hx hb dL_thoughts_233 (by decide) (fun c233 => ?_) (fun c233 => ?_)
                    · have c233 : 5000 < 100 * tt := (nI_ltI (a := 5000) (b := 100 * tt) (by omega) (by omega)).mp c233
                      exact absurd c233 (by omega)
                    · have c233 : ¬ 5000 < 100 * tt := fun hh9 => c233 ((nI_ltI (a := 5000) (b := 100 * tt) (by omega) (by omega)).mpr hh9)
                      refine lv_iload hx hb dL_thoughts_236 (lv_at hl 0 rfl) ?_
                      refine topN (n := 100 * tt) tt1 ?_
                      refine lv_bipush (v := 100) hx hb dL_thoughts_238 (by decide) ?_
                      refine lv_irem hx hb dL_thoughts_240 (by decide) ?_
                      refine topE (y := 0) (rem100 tt3) ?_
                      refine lv_if_ne (tgt := 257) hx hb dL_thoughts_241 (by decide) (fun c241 => ?_) (fun c241 => ?_)
                      · exact absurd c241 (by decide)
                      · exact K244  _ _ _  hG hS (lv_sub hl [3, 4, 5, 6, 7, 8, 9, 10, 11, 2, 1, 0] rfl)
            · have c133 : np P = 0 := (nI_eq (a := np P) (b := 0) (by omega) (by omega)).mp c133
              refine lv_aload_n hx hb dL_thoughts_136 rfl (lv_at hl 0 rfl) ?_
              obtain ⟨C, J, G, Y, X, U, Z, F, hN, hd, hf⟩ := hG
              refine gcVl (As := []) (rest := []) hx hb hml hown hts hl.1 hK (c_X6_digest l D r C J G n Y X U Z F hd.wf hd.1.okQ) (gaV qM_L_109 qI_X6_digest qS_X6_digest qK_X6 qC_X6_digest) hdv_X6_digest ⟨(Nat.le_of_ble_eq_true rfl), (Nat.le_of_ble_eq_true rfl)⟩ hN (Sn.recv hK hN) rfl (Nat.le_of_ble_eq_true rfl) ⟨(by show 12 + 3 ≤ 70; omega), (by show 72 + 18 ≤ 420; omega)⟩ dL_thoughts_137 hS hAr (fun H locs hN hz hq hS => ?_)
              refine topLE (digest_c hd.1 hf) ?_
              have hG : St D r P Q n H := ⟨C, J, G, Y, X, U, Z, F, hN, hd, hf⟩
              clear hN hz hq
              refine lv_lload_n hx hb dL_thoughts_140 rfl (lv_at hl 2 rfl) ?_
              refine W.lcmp hx hb dL_thoughts_141 ?_
              refine topE (y := 0) (lgc_self _) ?_
              refine lv_if_ne (tgt := 165) hx hb dL_thoughts_142 (by decide) (fun c142 => ?_) (fun c142 => ?_)
              · exact absurd c142 (by decide)
              · refine lv_aload_n hx hb dL_thoughts_145 rfl (lv_at hl 0 rfl) ?_
                refine lv_iconst (v := 0) hx hb dL_thoughts_146 (by decide) ?_
                refine lv_iload hx hb dL_thoughts_147 (lv_at hl 3 rfl) ?_
                refine lv_iload hx hb dL_thoughts_149 (lv_at hl 4 rfl) ?_
                refine lv_iload hx hb dL_thoughts_151 (lv_at hl 5 rfl) ?_
                refine lwS (As := [.ref r, .int 0, .int T, .int (nI sn), .int (nI hr9)]) (rest := []) hx hb hml hown hts hl.1 hK hKx (fun _ h => h) (c_L_bestExchange l hl0 D r P Q n (-90300) 0 T (nI sn) (nI hr9) (fun C J h => X_be2 h (by omega))) (gHS qM_L_126 qT_L_bestExchange qK_L qC_L_bestExchange) hds_L_bestExchange ⟨(Nat.le_of_ble_eq_true rfl), (Nat.le_of_ble_eq_true rfl)⟩ hG rfl (Nat.le_of_ble_eq_true rfl) ⟨(by show 12 + 3 + 4 ≤ 70; omega), (by show 72 + 18 + 24 ≤ 420; omega)⟩ dL_thoughts_153 hS hAr (fun H locs hG hz hq hS => ?_)
                have hG : St D r P Q n H := hG
                clear hz hq
                refine lv_ldc hx hb hown (hts _ qV_L_29) dL_thoughts_156 ?_
                refine lv_icmp_ne (tgt := 165) hx hb dL_thoughts_158 (by decide) (fun c158 => ?_) (fun c158 => ?_)
                · exact absurd c158 (by decide)
                · refine lv_iconst (v := 1) hx hb dL_thoughts_161 (by decide) ?_
                  refine lv_goto (tgt := 166) hx hb dL_thoughts_162 (by decide) ?_
                  refine W.widen (k := 70) (n := 420) (by omega) (by omega) ?_
                  exact W.zret hx hb hr rfl (fun t ht hW => gQi_of rfl ⟨_, _, hG⟩ hS ht) hS.2.2 dL_thoughts_166
          · have c126 : ¬ zc ≤ zc + yc := fun hh9 => c126 ((nI_leI (a := zc) (b := zc + yc) (by omega) (by omega)).mpr hh9)
            exact absurd c126 (by omega)
  refine lv_if_ne (tgt := 76) hx hb dL_thoughts_69 (by decide) (fun c69 => ?_) (fun c69 => ?_)
  · refine lv_iconst (v := 0) hx hb dL_thoughts_76 (by decide) ?_
    refine lv_aload_n hx hb dL_thoughts_77 rfl (lv_at hl 7 rfl) ?_
    refine lv_iconst (v := 3) hx hb dL_thoughts_78 (by decide) ?_
    refine lwS (As := [.ref r, .int 3]) (rest := [.int 0]) hx hb hml hown hts hl.1 hK hKx (fun _ h => h) (c_L_value l hl0 D r P Q n (P 3) 3 (fun C h => (R_value (k := 3) h rfl (by decide)).trans rfl)) (gHS qM_L_88 qT_L_value qK_L qC_L_value) hds_L_value ⟨(Nat.le_of_ble_eq_true rfl), (Nat.le_of_ble_eq_true rfl)⟩ hG rfl (Nat.le_of_ble_eq_true rfl) ⟨(by show 0 + 1 + 3 + 2 + 1 ≤ 70; omega), (by show 0 + 6 + 18 + 12 + 6 ≤ 420; omega)⟩ dL_thoughts_79 hS hAr (fun H locs hG hz hq hS => ?_)
    have hG : St D r P Q n H := hG
    clear hz hq
    refine topN (n := S9) z3 ?_
    refine lv_if_ne (tgt := 89) hx hb dL_thoughts_82 (by decide) (fun c82 => ?_) (fun c82 => ?_)
    · have c82 : ¬ S9 = 0 := fun hh9 => c82 ((nI_eq (a := S9) (b := 0) (by omega) (by omega)).mpr hh9)
      refine lv_iconst (v := 0) hx hb dL_thoughts_89 (by decide) ?_
      refine lv_icmp_ne (tgt := 129) hx hb dL_thoughts_90 (by decide) (fun c90 => ?_) (fun c90 => ?_)
      · exact absurd c90 (by decide)
      · refine W.widen (k := 12) (n := 72) (by omega) (by omega) ?_
        exact K93  _ _ _  hG hS (lv_sub hl [7, 8, 6, 5, 4, 3, 2, 1, 0] rfl)
    · have c82 : S9 = 0 := (nI_eq (a := S9) (b := 0) (by omega) (by omega)).mp c82
      exact absurd (em0.mpr c82) c69
  · refine lv_iconst (v := 1) hx hb dL_thoughts_72 (by decide) ?_
    refine lv_goto (tgt := 77) hx hb dL_thoughts_73 (by decide) ?_
    refine lv_aload_n hx hb dL_thoughts_77 rfl (lv_at hl 7 rfl) ?_
    refine lv_iconst (v := 3) hx hb dL_thoughts_78 (by decide) ?_
    refine lwS (As := [.ref r, .int 3]) (rest := [.int 1]) hx hb hml hown hts hl.1 hK hKx (fun _ h => h) (c_L_value l hl0 D r P Q n (P 3) 3 (fun C h => (R_value (k := 3) h rfl (by decide)).trans rfl)) (gHS qM_L_88 qT_L_value qK_L qC_L_value) hds_L_value ⟨(Nat.le_of_ble_eq_true rfl), (Nat.le_of_ble_eq_true rfl)⟩ hG rfl (Nat.le_of_ble_eq_true rfl) ⟨(by show 0 + 1 + 3 + 2 + 1 ≤ 70; omega), (by show 0 + 6 + 18 + 12 + 6 ≤ 420; omega)⟩ dL_thoughts_79 hS hAr (fun H locs hG hz hq hS => ?_)
    have hG : St D r P Q n H := hG
    clear hz hq
    refine topN (n := S9) z3 ?_
    refine lv_if_ne (tgt := 89) hx hb dL_thoughts_82 (by decide) (fun c82 => ?_) (fun c82 => ?_)
    · have c82 : ¬ S9 = 0 := fun hh9 => c82 ((nI_eq (a := S9) (b := 0) (by omega) (by omega)).mpr hh9)
      exact absurd (em0.mp c69) c82
    · have c82 : S9 = 0 := (nI_eq (a := S9) (b := 0) (by omega) (by omega)).mp c82
      refine lv_iconst (v := 1) hx hb dL_thoughts_85 (by decide) ?_
      refine lv_goto (tgt := 90) hx hb dL_thoughts_86 (by decide) ?_
      refine lv_icmp_ne (tgt := 129) hx hb dL_thoughts_90 (by decide) (fun c90 => ?_) (fun c90 => ?_)
      · exact absurd c90 (by decide)
      · refine W.widen (k := 12) (n := 72) (by omega) (by omega) ?_
        exact K93  _ _ _  hG hS (lv_sub hl [7, 8, 6, 5, 4, 3, 2, 1, 0] rfl)
