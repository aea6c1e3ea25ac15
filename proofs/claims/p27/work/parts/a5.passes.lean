theorem hds_L_passes : yL_passes.cls ≠ "java/lang/invoke/MethodHandle" ∧ yL_passes.cls ≠ "java/lang/invoke/VarHandle" ∧ (parseMethodDescriptor yL_passes.desc).map (fun d => d.parameters.length) = some 4 := by decide +kernel
set_option maxHeartbeats 4000000 in
set_option maxRecDepth 100000 in
theorem c_L_passes (l : Launch) (hl0 : l.stackTraces = false) (D : va_G) (r : Nat) (P : Nat → Int32) (Q : Nat → Nat → Int32) (n h u : Nat) (T S : Int32) (hI : Iv h P) (hw : ¬ fR_X7_isWeather T S = 0) (hu : u ≤ 49) : Met l yL_passes (wA yL_passes cL_passes 15 (some .boolean)) (rmX 10 320 2000) (xPc D r [.ref r, .int T, .int S, .int (nI u)] (fun H => St D r P Q n H)) (gQi (fun q => r ≤ q) 1 (fun H => ∃ (P9 : Nat → Int32) (Q9 : Nat → Nat → Int32) (n9 h9 : Nat), St D r P9 Q9 n9 H ∧ Iv h9 P9 ∧ ns P9 = ns P ∧ np P9 = np P)) 320 2000 (fun q => r ≤ q) := by
  refine Met.ofW (cc := cL_passes) (maxL := 15) (ret := (some .boolean)) (by decide) rfl ?_
  intro p e s m args below meth c s₁ B hml hv
  obtain ⟨hav, hG, hK, hKx⟩ := hv
  have hx := B.exec
  have hb := B.bytes
  have hr := B.returns
  have hts0 := atoms_spec (ws := wA yL_passes cL_passes 15 (some .boolean)) B.pre
  have hts : ∀ w ∈ AW, w.before _ s = true := fun w h => hts0 w (List.mem_cons_of_mem _ h)
  have hown : s.vm.findClass RL = some m.cls := findClass_of_methodNamed B.named
  have hlocks := B.notSynchronized
  have hAr : ∀ q, inS r q → r ≤ q := fun q h => h.1
  have hS : va_S (fun q => r ≤ q) s.heap s.heap [] := va_S.rf
  have hG : St D r P Q n s.heap := hG
  have hl := lv_entry ([.ref r, .int T, .int S, .int (nI u)]) (n := 15) (Nat.le_of_ble_eq_true rfl)
  refine W.eq (g2 := entryFrame m ([.ref r, .int T, .int S, .int (nI u)] : List Value).toArray 15) (by rw [hav]) ?_
  rw [lg_entry_eq]
  generalize (lg_sl ([.ref r, .int T, .int S, .int (nI u)]) ++ List.replicate (15 - (lg_sl ([.ref r, .int T, .int S, .int (nI u)])).length) Slot.unset).toArray = ls at hl ⊢
  have hl : lv_has ls 15 [(0, .ref r), (1, .int T), (2, .int S), (3, .int (nI u))] := hl
  obtain ⟨z0, z00, z1, z2, hN1, hN2, z5, z7, ⟨S9, S91, z3⟩, k9, k91, z6⟩ := snd_rest hI
  obtain ⟨zc, zc1, zc2, zc3⟩ := pass_f (k9 := k9) hI hw hu
  refine lv_aload_n hx hb dL_passes_0 rfl (lv_at hl 0 rfl) ?_
  obtain ⟨C, J, G, Y, X, U, Z, F, hN, hd, hf⟩ := hG
  refine gcVl (As := []) (rest := []) hx hb hml hown hts hl.1 hK (c_X6_digest l D r C J G n Y X U Z F hd.wf hd.1.okQ) (gaV qM_L_109 qI_X6_digest qS_X6_digest qK_X6 qC_X6_digest) hdv_X6_digest ⟨(Nat.le_of_ble_eq_true rfl), (Nat.le_of_ble_eq_true rfl)⟩ hN (Sn.recv hK hN) rfl (Nat.le_of_ble_eq_true rfl) ⟨(by show 0 ≤ 320; omega), (by show 0 ≤ 2000; omega)⟩ dL_passes_1 hS hAr (fun H locs hN hz hq hS => ?_)
  refine topLE (digest_c hd.1 hf) ?_
  have hG : St D r P Q n H := ⟨C, J, G, Y, X, U, Z, F, hN, hd, hf⟩
  clear hN hz hq
  refine lv_lstore (lv' := [(4, .long (dgP P n)), (0, .ref r), (1, .int T), (2, .int S), (3, .int (nI u))]) hx hb dL_passes_4 hl (by decide) rfl (fun ls hl => ?_)
  refine lv_aload_n hx hb dL_passes_6 rfl (lv_at hl 1 rfl) ?_
  refine lv_iload_n hx hb dL_passes_7 rfl (lv_at hl 2 rfl) ?_
  refine lv_iload_n hx hb dL_passes_8 rfl (lv_at hl 3 rfl) ?_
  refine lv_iload_n hx hb dL_passes_9 rfl (lv_at hl 4 rfl) ?_
  refine lwS (As := [.ref r, .int T, .int S, .int (nI u)]) (rest := []) hx hb hml hown hts hl.1 hK hKx (fun _ h => h) (c_L_creditsIn l hl0 D r P Q n (fR_X7_hours P T S u) T S (nI u) (fun C J h => A_credits h hw (by omega))) (gHS qM_L_113 qT_L_creditsIn qK_L qC_L_creditsIn) hds_L_creditsIn ⟨(Nat.le_of_ble_eq_true rfl), (Nat.le_of_ble_eq_true rfl)⟩ hG rfl (Nat.le_of_ble_eq_true rfl) ⟨(by show 0 + 3 ≤ 320; omega), (by show 0 + 18 ≤ 2000; omega)⟩ dL_passes_10 hS hAr (fun H locs hG hz hq hS => ?_)
  have hG : St D r P Q n H := hG
  clear hz hq
  refine topN (n := zc) zc2 ?_
  refine lv_istore (lv' := [(6, .int (nI zc)), (4, .long (dgP P n)), (0, .ref r), (1, .int T), (2, .int S), (3, .int (nI u))]) hx hb dL_passes_13 hl (by decide) rfl (fun ls hl => ?_)
  refine lv_aload_n hx hb dL_passes_15 rfl (lv_at hl 2 rfl) ?_
  refine lv_bipush (v := 6) hx hb dL_passes_16 (by decide) ?_
  refine lwS (As := [.ref r, .int 6]) (rest := []) hx hb hml hown hts hl.1 hK hKx (fun _ h => h) (c_L_value l hl0 D r P Q n (P 6) 6 (fun C h => (R_value (k := 6) h rfl (by decide)).trans rfl)) (gHS qM_L_88 qT_L_value qK_L qC_L_value) hds_L_value ⟨(Nat.le_of_ble_eq_true rfl), (Nat.le_of_ble_eq_true rfl)⟩ hG rfl (Nat.le_of_ble_eq_true rfl) ⟨(by show 0 + 3 + 1 ≤ 320; omega), (by show 0 + 18 + 6 ≤ 2000; omega)⟩ dL_passes_18 hS hAr (fun H locs hG hz hq hS => ?_)
  have hG : St D r P Q n H := hG
  clear hz hq
  refine topN (n := k9) z6 ?_
  refine lv_istore (lv' := [(7, .int (nI k9)), (6, .int (nI zc)), (4, .long (dgP P n)), (0, .ref r), (1, .int T), (2, .int S), (3, .int (nI u))]) hx hb dL_passes_21 hl (by decide) rfl (fun ls hl => ?_)
  refine lv_aload_n hx hb dL_passes_23 rfl (lv_at hl 3 rfl) ?_
  refine lv_iconst (v := 0) hx hb dL_passes_24 (by decide) ?_
  refine lwS (As := [.ref r, .int 0]) (rest := []) hx hb hml hown hts hl.1 hK hKx (fun _ h => h) (c_L_value l hl0 D r P Q n (P 0) 0 (fun C h => (R_value (k := 0) h rfl (by decide)).trans rfl)) (gHS qM_L_88 qT_L_value qK_L qC_L_value) hds_L_value ⟨(Nat.le_of_ble_eq_true rfl), (Nat.le_of_ble_eq_true rfl)⟩ hG rfl (Nat.le_of_ble_eq_true rfl) ⟨(by show 0 + 3 + 1 + 1 ≤ 320; omega), (by show 0 + 18 + 6 + 6 ≤ 2000; omega)⟩ dL_passes_25 hS hAr (fun H locs hG hz hq hS => ?_)
  have hG : St D r P Q n H := hG
  clear hz hq
  refine topN (n := h) z0 ?_
  refine lv_istore (lv' := [(8, .int (nI h)), (7, .int (nI k9)), (6, .int (nI zc)), (4, .long (dgP P n)), (0, .ref r), (1, .int T), (2, .int S), (3, .int (nI u))]) hx hb dL_passes_28 hl (by decide) rfl (fun ls hl => ?_)
  refine lv_iconst (v := 3) hx hb dL_passes_30 (by decide) ?_
  obtain ⟨w9, hww9⟩ : ∃ w : Nat, H.size = w := ⟨_, rfl⟩
  have hw9w : r + 206 ≤ w9 := by have := hG.lt; omega
  refine gnewI (N := 3) (n0 := w9) (ws := []) hx hb hts hK (fun k q h => by simp at h) hS hww9 (by decide) rfl (by decide) (by show 0 + 3 + 1 + 1 + 1 ≤ 320; omega) (by show 0 + 18 + 6 + 6 + 3 ≤ 2000; omega) dL_passes_31 (fun H hw9 hz1 hq1 hS => ?_)
  have hw9 : IA D w9 3 (fun _ => 0) H := hw9
  have hG : St D r P Q n H := St.kept hG hq1
  clear hz1 hq1 hww9
  refine lv_astore (lv' := [(9, .ref w9), (8, .int (nI h)), (7, .int (nI k9)), (6, .int (nI zc)), (4, .long (dgP P n)), (0, .ref r), (1, .int T), (2, .int S), (3, .int (nI u))]) hx hb dL_passes_33 hl (by decide) rfl (fun ls hl => ?_)
  refine lv_iconst (v := 3) hx hb dL_passes_35 (by decide) ?_
  obtain ⟨w10, hww10⟩ : ∃ w : Nat, H.size = w := ⟨_, rfl⟩
  have hw10w : r + 206 ≤ w10 := by have := hG.lt; omega
  have hltw9w10 : w9 < w10 := by have := hw9.lt; omega
  refine gnewI (N := 3) (n0 := w10) (ws := []) hx hb hts hK (fun k q h => by simp at h) hS hww10 (by decide) rfl (by decide) (by show 0 + 3 + 1 + 1 + 1 + 1 ≤ 320; omega) (by show 0 + 18 + 6 + 6 + 3 + 3 ≤ 2000; omega) dL_passes_36 (fun H hw10 hz1 hq1 hS => ?_)
  have hw10 : IA D w10 3 (fun _ => 0) H := hw10
  have hG : St D r P Q n H := St.kept hG hq1
  have hw9 := hw9.kept (hq1 _ hw9.lt)
  clear hz1 hq1 hww10
  refine lv_astore (lv' := [(10, .ref w10), (9, .ref w9), (8, .int (nI h)), (7, .int (nI k9)), (6, .int (nI zc)), (4, .long (dgP P n)), (0, .ref r), (1, .int T), (2, .int S), (3, .int (nI u))]) hx hb dL_passes_38 hl (by decide) rfl (fun ls hl => ?_)
  refine lv_iconst (v := 3) hx hb dL_passes_40 (by decide) ?_
  obtain ⟨w11, hww11⟩ : ∃ w : Nat, H.size = w := ⟨_, rfl⟩
  have hw11w : r + 206 ≤ w11 := by have := hG.lt; omega
  have hltw9w11 : w9 < w11 := by have := hw9.lt; omega
  have hltw10w11 : w10 < w11 := by have := hw10.lt; omega
  refine gnewI (N := 3) (n0 := w11) (ws := []) hx hb hts hK (fun k q h => by simp at h) hS hww11 (by decide) rfl (by decide) (by show 0 + 3 + 1 + 1 + 1 + 1 + 1 ≤ 320; omega) (by show 0 + 18 + 6 + 6 + 3 + 3 + 3 ≤ 2000; omega) dL_passes_41 (fun H hw11 hz1 hq1 hS => ?_)
  have hw11 : IA D w11 3 (fun _ => 0) H := hw11
  have hG : St D r P Q n H := St.kept hG hq1
  have hw9 := hw9.kept (hq1 _ hw9.lt)
  have hw10 := hw10.kept (hq1 _ hw10.lt)
  clear hz1 hq1 hww11
  refine lv_astore (lv' := [(11, .ref w11), (10, .ref w10), (9, .ref w9), (8, .int (nI h)), (7, .int (nI k9)), (6, .int (nI zc)), (4, .long (dgP P n)), (0, .ref r), (1, .int T), (2, .int S), (3, .int (nI u))]) hx hb dL_passes_43 hl (by decide) rfl (fun ls hl => ?_)
  refine lv_bipush (v := 20) hx hb dL_passes_45 (by decide) ?_
  obtain ⟨w12, hww12⟩ : ∃ w : Nat, H.size = w := ⟨_, rfl⟩
  have hw12w : r + 206 ≤ w12 := by have := hG.lt; omega
  have hltw9w12 : w9 < w12 := by have := hw9.lt; omega
  have hltw10w12 : w10 < w12 := by have := hw10.lt; omega
  have hltw11w12 : w11 < w12 := by have := hw11.lt; omega
  refine gnewI (N := 20) (n0 := w12) (ws := []) hx hb hts hK (fun k q h => by simp at h) hS hww12 (by decide) rfl (by decide) (by show 0 + 3 + 1 + 1 + 1 + 1 + 1 + 1 ≤ 320; omega) (by show 0 + 18 + 6 + 6 + 3 + 3 + 3 + 20 ≤ 2000; omega) dL_passes_47 (fun H hw12 hz1 hq1 hS => ?_)
  have hw12 : IA D w12 20 (fun _ => 0) H := hw12
  have hG : St D r P Q n H := St.kept hG hq1
  have hw9 := hw9.kept (hq1 _ hw9.lt)
  have hw10 := hw10.kept (hq1 _ hw10.lt)
  have hw11 := hw11.kept (hq1 _ hw11.lt)
  clear hz1 hq1 hww12
  refine lv_astore (lv' := [(12, .ref w12), (11, .ref w11), (10, .ref w10), (9, .ref w9), (8, .int (nI h)), (7, .int (nI k9)), (6, .int (nI zc)), (4, .long (dgP P n)), (0, .ref r), (1, .int T), (2, .int S), (3, .int (nI u))]) hx hb dL_passes_49 hl (by decide) rfl (fun ls hl => ?_)
  refine lv_iconst (v := 0) hx hb dL_passes_51 (by decide) ?_
  refine topN (n := 0) rfl ?_
  refine lv_istore (lv' := [(13, .int (nI 0)), (12, .ref w12), (11, .ref w11), (10, .ref w10), (9, .ref w9), (8, .int (nI h)), (7, .int (nI k9)), (6, .int (nI zc)), (4, .long (dgP P n)), (0, .ref r), (1, .int T), (2, .int S), (3, .int (nI u))]) hx hb dL_passes_52 hl (by decide) rfl (fun ls hl => ?_)
  have K108 : ∀ (X9 : Nat → Int32) (X10 : Nat → Int32) (X11 : Nat → Int32) (H : Heap) (locs : List Loc) (ls : Array Slot) (hX : ∀ p, p < np P → X9 p = P (169 + 20 * p + 7) ∧ X10 p = P (169 + 20 * p + 6) ∧ X11 p = P (169 + 20 * p + 2)) (hG : St D r P Q n H) (hS : va_S (fun q => r ≤ q) s.heap H locs) (hw9 : IA D w9 3 X9 H) (hw10 : IA D w10 3 X10 H) (hw11 : IA D w11 3 X11 H) (hw12 : IA D w12 20 (fun _ => 0) H) (hl : lv_has ls 15 [(0, .ref r), (1, .int T), (2, .int S), (3, .int (nI u)), (4, .long (dgP P n)), (6, .int (nI zc)), (7, .int (nI k9)), (8, .int (nI h)), (9, .ref w9), (10, .ref w10), (11, .ref w11), (12, .ref w12)]), W p l e (headSpec (wA yL_passes cL_passes 15 (some .boolean)) (rmX 10 320 2000)).room s m args below meth c H locs (31) (191) (MQ below (gQi (fun q => r ≤ q) 1 (fun H => ∃ (P9 : Nat → Int32) (Q9 : Nat → Nat → Int32) (n9 h9 : Nat), St D r P9 Q9 n9 H ∧ Iv h9 P9 ∧ ns P9 = ns P ∧ np P9 = np P)) args s 320 2000 (fun q => r ≤ q)) (F0 m 108 ls []) := by
    intro X9 X10 X11 H locs ls hX hG hS hw9 hw10 hw11 hw12 hl
    refine lv_iconst (v := 0) hx hb dL_passes_108 (by decide) ?_
    refine topN (n := 0) rfl ?_
    refine lv_istore (lv' := [(13, .int (nI 0)), (0, .ref r), (1, .int T), (2, .int S), (3, .int (nI u)), (4, .long (dgP P n)), (6, .int (nI zc)), (7, .int (nI k9)), (8, .int (nI h)), (9, .ref w9), (10, .ref w10), (11, .ref w11), (12, .ref w12)]) hx hb dL_passes_109 hl (by decide) rfl (fun ls hl => ?_)
    have K140 : ∀ (X12 : Nat → Int32) (H : Heap) (locs : List Loc) (ls : Array Slot) (hY : ∀ i, i < ns P → X12 i = P (9 + 8 * i + 6)) (hG : St D r P Q n H) (hS : va_S (fun q => r ≤ q) s.heap H locs) (hw9 : IA D w9 3 X9 H) (hw10 : IA D w10 3 X10 H) (hw11 : IA D w11 3 X11 H) (hw12 : IA D w12 20 X12 H) (hl : lv_has ls 15 [(0, .ref r), (1, .int T), (2, .int S), (3, .int (nI u)), (4, .long (dgP P n)), (6, .int (nI zc)), (7, .int (nI k9)), (8, .int (nI h)), (9, .ref w9), (10, .ref w10), (11, .ref w11), (12, .ref w12)]), W p l e (headSpec (wA yL_passes cL_passes 15 (some .boolean)) (rmX 10 320 2000)).room s m args below meth c H locs (92) (557) (MQ below (gQi (fun q => r ≤ q) 1 (fun H => ∃ (P9 : Nat → Int32) (Q9 : Nat → Nat → Int32) (n9 h9 : Nat), St D r P9 Q9 n9 H ∧ Iv h9 P9 ∧ ns P9 = ns P ∧ np P9 = np P)) args s 320 2000 (fun q => r ≤ q)) (F0 m 140 ls []) := by
      intro X12 H locs ls hY hG hS hw9 hw10 hw11 hw12 hl
      refine lv_aload_n hx hb dL_passes_140 rfl (lv_at hl 0 rfl) ?_
      obtain ⟨C, J, G, Y, X, U, Z, F, hN, hd, hf⟩ := hG
      refine gcVl (As := []) (rest := []) hx hb hml hown hts hl.1 hK (c_X6_digest l D r C J G n Y X U Z F hd.wf hd.1.okQ) (gaV qM_L_109 qI_X6_digest qS_X6_digest qK_X6 qC_X6_digest) hdv_X6_digest ⟨(Nat.le_of_ble_eq_true rfl), (Nat.le_of_ble_eq_true rfl)⟩ hN (Sn.recv hK hN) rfl (Nat.le_of_ble_eq_true rfl) ⟨(by show 92 ≤ 320; omega), (by show 557 ≤ 2000; omega)⟩ dL_passes_141 hS hAr (fun H locs hN hz hq hS => ?_)
      have hw9 := hw9.kept (hq _ hw9.lt (fun h => by unfold inS at h; omega))
      have hw10 := hw10.kept (hq _ hw10.lt (fun h => by unfold inS at h; omega))
      have hw11 := hw11.kept (hq _ hw11.lt (fun h => by unfold inS at h; omega))
      have hw12 := hw12.kept (hq _ hw12.lt (fun h => by unfold inS at h; omega))
      refine topLE (digest_c hd.1 hf) ?_
      have hG : St D r P Q n H := ⟨C, J, G, Y, X, U, Z, F, hN, hd, hf⟩
      clear hN hz hq
      refine lv_lload hx hb dL_passes_144 (lv_at hl 4 rfl) ?_
      refine W.lcmp hx hb dL_passes_146 ?_
      refine topE (y := 0) (lgc_self _) ?_
      refine lv_if_eq (tgt := 152) hx hb dL_passes_147 (by decide) (fun c147 => ?_) (fun c147 => ?_)
      · refine lv_iload hx hb dL_passes_152 (lv_at hl 7 rfl) ?_
        refine lv_iload_n hx hb dL_passes_154 rfl (lv_at hl 3 rfl) ?_
        refine iaddN (a := h) (b := u) hx hb dL_passes_155 ?_
        refine lv_sipush (v := 2000) hx hb dL_passes_156 (by decide) ?_
        refine lv_icmp_le (tgt := 190) hx hb dL_passes_159 (by decide) (fun c159 => ?_) (fun c159 => ?_)
        · have c159 : h + u ≤ 2000 := (nI_leI (a := h + u) (b := 2000) (by omega) (by omega)).mp c159
          obtain ⟨I2, n2, m2, y6⟩ := zc3 (by omega)
          obtain ⟨y0, -, -, -, y1, y2, -⟩ := snd_rest I2
          rw [n2] at y1
          rw [m2] at y2
          have hN1b := y1
          have hN2b := y2
          rw [z6, nI_add] at y6
          have hsv : svN n + 1 ≤ 4 := svN_le
          refine lv_aload_n hx hb dL_passes_190 rfl (lv_at hl 0 rfl) ?_
          refine lv_iload_n hx hb dL_passes_191 rfl (lv_at hl 1 rfl) ?_
          refine lv_iload_n hx hb dL_passes_192 rfl (lv_at hl 2 rfl) ?_
          refine lv_iload_n hx hb dL_passes_193 rfl (lv_at hl 3 rfl) ?_
          refine lwS (As := [.ref r, .int T, .int S, .int (nI u)]) (rest := []) hx hb hml hown hts hl.1 hK hKx (fun _ h => h) (c_L_run l hl0 D r P Q n (fP_X7_hours P T S u) (svQ Q n P) (svN n + 1) (fR_X7_hours P T S u) T S (nI u) (fun C G hd => E_run hw (by omega) z0 (by omega) hd)) (gHS qM_L_116 qT_L_run qK_L qC_L_run) hds_L_run ⟨(Nat.le_of_ble_eq_true rfl), (Nat.le_of_ble_eq_true rfl)⟩ hG rfl (Nat.le_of_ble_eq_true rfl) ⟨(by show 92 + 4 ≤ 320; omega), (by show 557 + 24 ≤ 2000; omega)⟩ dL_passes_194 hS hAr (fun H locs hG hz hq hS => ?_)
          have hG : St D r (fP_X7_hours P T S u) (svQ Q n P) (svN n + 1) H := hG
          have hw9 := hw9.kept (hq _ hw9.lt (fun h => by unfold inS at h; omega))
          have hw10 := hw10.kept (hq _ hw10.lt (fun h => by unfold inS at h; omega))
          have hw11 := hw11.kept (hq _ hw11.lt (fun h => by unfold inS at h; omega))
          have hw12 := hw12.kept (hq _ hw12.lt (fun h => by unfold inS at h; omega))
          clear hz hq
          refine topN (n := zc) zc2 ?_
          refine lv_iload hx hb dL_passes_197 (lv_at hl 5 rfl) ?_
          refine lv_icmp_ne (tgt := 228) hx hb dL_passes_199 (by decide) (fun c199 => ?_) (fun c199 => ?_)
          · have c199 : ¬ zc = zc := fun hh9 => c199 ((nI_eq (a := zc) (b := zc) (by omega) (by omega)).mpr hh9)
            exact absurd c199 (by omega)
          · have c199 : zc = zc := (nI_eq (a := zc) (b := zc) (by omega) (by omega)).mp c199
            refine lv_aload_n hx hb dL_passes_202 rfl (lv_at hl 0 rfl) ?_
            refine lv_bipush (v := 6) hx hb dL_passes_203 (by decide) ?_
            refine lwS (As := [.ref r, .int 6]) (rest := []) hx hb hml hown hts hl.1 hK hKx (fun _ h => h) (c_L_value l hl0 D r (fP_X7_hours P T S u) (svQ Q n P) (svN n + 1) ((fP_X7_hours P T S u) 6) 6 (fun C h => (R_value (k := 6) h rfl (by decide)).trans rfl)) (gHS qM_L_88 qT_L_value qK_L qC_L_value) hds_L_value ⟨(Nat.le_of_ble_eq_true rfl), (Nat.le_of_ble_eq_true rfl)⟩ hG rfl (Nat.le_of_ble_eq_true rfl) ⟨(by show 92 + 4 + 1 ≤ 320; omega), (by show 557 + 24 + 6 ≤ 2000; omega)⟩ dL_passes_205 hS hAr (fun H locs hG hz hq hS => ?_)
            have hG : St D r (fP_X7_hours P T S u) (svQ Q n P) (svN n + 1) H := hG
            have hw9 := hw9.kept (hq _ hw9.lt (fun h => by unfold inS at h; omega))
            have hw10 := hw10.kept (hq _ hw10.lt (fun h => by unfold inS at h; omega))
            have hw11 := hw11.kept (hq _ hw11.lt (fun h => by unfold inS at h; omega))
            have hw12 := hw12.kept (hq _ hw12.lt (fun h => by unfold inS at h; omega))
            clear hz hq
            refine topN (n := k9 + zc) y6 ?_
            refine lv_iload hx hb dL_passes_208 (lv_at hl 6 rfl) ?_
            refine lv_iload hx hb dL_passes_210 (lv_at hl 5 rfl) ?_
            refine iaddN (a := k9) (b := zc) hx hb dL_passes_212 ?_
            refine lv_icmp_ne (tgt := 228) hx hb dL_passes_213 (by decide) (fun c213 => ?_) (fun c213 => ?_)
            · have c213 : ¬ k9 + zc = k9 + zc := fun hh9 => c213 ((nI_eq (a := k9 + zc) (b := k9 + zc) (by omega) (by omega)).mpr hh9)
              exact absurd c213 (by omega)
            · have c213 : k9 + zc = k9 + zc := (nI_eq (a := k9 + zc) (b := k9 + zc) (by omega) (by omega)).mp c213
              refine lv_aload_n hx hb dL_passes_216 rfl (lv_at hl 0 rfl) ?_
              refine lv_iconst (v := 0) hx hb dL_passes_217 (by decide) ?_
              refine lwS (As := [.ref r, .int 0]) (rest := []) hx hb hml hown hts hl.1 hK hKx (fun _ h => h) (c_L_value l hl0 D r (fP_X7_hours P T S u) (svQ Q n P) (svN n + 1) ((fP_X7_hours P T S u) 0) 0 (fun C h => (R_value (k := 0) h rfl (by decide)).trans rfl)) (gHS qM_L_88 qT_L_value qK_L qC_L_value) hds_L_value ⟨(Nat.le_of_ble_eq_true rfl), (Nat.le_of_ble_eq_true rfl)⟩ hG rfl (Nat.le_of_ble_eq_true rfl) ⟨(by show 92 + 4 + 1 + 1 ≤ 320; omega), (by show 557 + 24 + 6 + 6 ≤ 2000; omega)⟩ dL_passes_218 hS hAr (fun H locs hG hz hq hS => ?_)
              have hG : St D r (fP_X7_hours P T S u) (svQ Q n P) (svN n + 1) H := hG
              have hw9 := hw9.kept (hq _ hw9.lt (fun h => by unfold inS at h; omega))
              have hw10 := hw10.kept (hq _ hw10.lt (fun h => by unfold inS at h; omega))
              have hw11 := hw11.kept (hq _ hw11.lt (fun h => by unfold inS at h; omega))
              have hw12 := hw12.kept (hq _ hw12.lt (fun h => by unfold inS at h; omega))
              clear hz hq
              refine topN (n := h + u) y0 ?_
              refine lv_iload hx hb dL_passes_221 (lv_at hl 7 rfl) ?_
              refine lv_iload_n hx hb dL_passes_223 rfl (lv_at hl 3 rfl) ?_
              refine iaddN (a := h) (b := u) hx hb dL_passes_224 ?_
              refine lv_icmp_eq (tgt := 230) hx hb dL_passes_225 (by decide) (fun c225 => ?_) (fun c225 => ?_)
              · have c225 : h + u = h + u := (nI_eq (a := h + u) (b := h + u) (by omega) (by omega)).mp c225
                refine lv_iconst (v := 0) hx hb dL_passes_230 (by decide) ?_
                refine topN (n := 0) rfl ?_
                refine lv_istore (lv' := [(13, .int (nI 0)), (0, .ref r), (1, .int T), (2, .int S), (3, .int (nI u)), (4, .long (dgP P n)), (6, .int (nI zc)), (7, .int (nI k9)), (8, .int (nI h)), (9, .ref w9), (10, .ref w10), (11, .ref w11), (12, .ref w12)]) hx hb dL_passes_231 hl (by decide) rfl (fun ls hl => ?_)
                have K350 : ∀ (H : Heap) (locs : List Loc) (ls : Array Slot) (hG : St D r (fP_X7_hours P T S u) (svQ Q n P) (svN n + 1) H) (hS : va_S (fun q => r ≤ q) s.heap H locs) (hw9 : IA D w9 3 X9 H) (hw10 : IA D w10 3 X10 H) (hw11 : IA D w11 3 X11 H) (hw12 : IA D w12 20 X12 H) (hl : lv_has ls 15 [(0, .ref r), (1, .int T), (2, .int S), (3, .int (nI u)), (4, .long (dgP P n)), (6, .int (nI zc)), (7, .int (nI k9)), (8, .int (nI h)), (9, .ref w9), (10, .ref w10), (11, .ref w11), (12, .ref w12)]), W p l e (headSpec (wA yL_passes cL_passes 15 (some .boolean)) (rmX 10 320 2000)).room s m args below meth c H locs (138) (833) (MQ below (gQi (fun q => r ≤ q) 1 (fun H => ∃ (P9 : Nat → Int32) (Q9 : Nat → Nat → Int32) (n9 h9 : Nat), St D r P9 Q9 n9 H ∧ Iv h9 P9 ∧ ns P9 = ns P ∧ np P9 = np P)) args s 320 2000 (fun q => r ≤ q)) (F0 m 350 ls []) := by
                  intro H locs ls hG hS hw9 hw10 hw11 hw12 hl
                  refine lv_iconst (v := 0) hx hb dL_passes_350 (by decide) ?_
                  refine topN (n := 0) rfl ?_
                  refine lv_istore (lv' := [(13, .int (nI 0)), (0, .ref r), (1, .int T), (2, .int S), (3, .int (nI u)), (4, .long (dgP P n)), (6, .int (nI zc)), (7, .int (nI k9)), (8, .int (nI h)), (9, .ref w9), (10, .ref w10), (11, .ref w11), (12, .ref w12)]) hx hb dL_passes_351 hl (by decide) rfl (fun ls hl => ?_)
                  have K432 : ∀ (H : Heap) (locs : List Loc) (ls : Array Slot) (hG : St D r (fP_X7_hours P T S u) (svQ Q n P) (svN n + 1) H) (hS : va_S (fun q => r ≤ q) s.heap H locs) (hw9 : IA D w9 3 X9 H) (hw10 : IA D w10 3 X10 H) (hw11 : IA D w11 3 X11 H) (hw12 : IA D w12 20 X12 H) (hl : lv_has ls 15 [(0, .ref r), (1, .int T), (2, .int S), (3, .int (nI u)), (4, .long (dgP P n)), (6, .int (nI zc)), (7, .int (nI k9)), (8, .int (nI h)), (9, .ref w9), (10, .ref w10), (11, .ref w11), (12, .ref w12)]), W p l e (headSpec (wA yL_passes cL_passes 15 (some .boolean)) (rmX 10 320 2000)).room s m args below meth c H locs (279) (1679) (MQ below (gQi (fun q => r ≤ q) 1 (fun H => ∃ (P9 : Nat → Int32) (Q9 : Nat → Nat → Int32) (n9 h9 : Nat), St D r P9 Q9 n9 H ∧ Iv h9 P9 ∧ ns P9 = ns P ∧ np P9 = np P)) args s 320 2000 (fun q => r ≤ q)) (F0 m 432 ls []) := by
                    intro H locs ls hG hS hw9 hw10 hw11 hw12 hl
                    refine lv_aload_n hx hb dL_passes_432 rfl (lv_at hl 0 rfl) ?_
                    refine lwS (As := [.ref r]) (rest := []) hx hb hml hown hts hl.1 hK hKx (fun _ h => h) (c_L_undo l hl0 D r (fP_X7_hours P T S u) (svQ Q n P) (svN n + 1) P (svQ Q n P) (svN n + 1 - 1) (nI (svN n + 1 - 1))  (fun C G hd => E_undo1 hd)) (gHS qM_L_118 qT_L_undo qK_L qC_L_undo) hds_L_undo ⟨(Nat.le_of_ble_eq_true rfl), (Nat.le_of_ble_eq_true rfl)⟩ hG rfl (Nat.le_of_ble_eq_true rfl) ⟨(by show 279 + 1 ≤ 320; omega), (by show 1679 + 6 ≤ 2000; omega)⟩ dL_passes_433 hS hAr (fun H locs hG hz hq hS => ?_)
                    have hG : St D r P (svQ Q n P) (svN n + 1 - 1) H := hG
                    have hw9 := hw9.kept (hq _ hw9.lt (fun h => by unfold inS at h; omega))
                    have hw10 := hw10.kept (hq _ hw10.lt (fun h => by unfold inS at h; omega))
                    have hw11 := hw11.kept (hq _ hw11.lt (fun h => by unfold inS at h; omega))
                    have hw12 := hw12.kept (hq _ hw12.lt (fun h => by unfold inS at h; omega))
                    clear hz hq
                    refine topN (n := svN n + 1 - 1) rfl ?_
                    refine lv_if_lt (tgt := 460) hx hb dL_passes_436 (by decide) (fun c436 => ?_) (fun c436 => ?_)
                    · have c436 : svN n + 1 - 1 < 0 := (nI_ltI (a := svN n + 1 - 1) (b := 0) (by omega) (by omega)).mp c436
                      exact absurd c436 (by omega)
                    · have c436 : ¬ svN n + 1 - 1 < 0 := fun hh9 => c436 ((nI_ltI (a := svN n + 1 - 1) (b := 0) (by omega) (by omega)).mpr hh9)
                      refine lv_aload_n hx hb dL_passes_439 rfl (lv_at hl 0 rfl) ?_
                      refine lv_iconst (v := 0) hx hb dL_passes_440 (by decide) ?_
                      refine lwS (As := [.ref r, .int 0]) (rest := []) hx hb hml hown hts hl.1 hK hKx (fun _ h => h) (c_L_value l hl0 D r P (svQ Q n P) (svN n + 1 - 1) (P 0) 0 (fun C h => (R_value (k := 0) h rfl (by decide)).trans rfl)) (gHS qM_L_88 qT_L_value qK_L qC_L_value) hds_L_value ⟨(Nat.le_of_ble_eq_true rfl), (Nat.le_of_ble_eq_true rfl)⟩ hG rfl (Nat.le_of_ble_eq_true rfl) ⟨(by show 279 + 1 + 1 ≤ 320; omega), (by show 1679 + 6 + 6 ≤ 2000; omega)⟩ dL_passes_441 hS hAr (fun H locs hG hz hq hS => ?_)
                      have hG : St D r P (svQ Q n P) (svN n + 1 - 1) H := hG
                      have hw9 := hw9.kept (hq _ hw9.lt (fun h => by unfold inS at h; omega))
                      have hw10 := hw10.kept (hq _ hw10.lt (fun h => by unfold inS at h; omega))
                      have hw11 := hw11.kept (hq _ hw11.lt (fun h => by unfold inS at h; omega))
                      have hw12 := hw12.kept (hq _ hw12.lt (fun h => by unfold inS at h; omega))
                      clear hz hq
                      refine topN (n := h) z0 ?_
                      refine lv_iload hx hb dL_passes_444 (lv_at hl 7 rfl) ?_
                      refine lv_icmp_ne (tgt := 460) hx hb dL_passes_446 (by decide) (fun c446 => ?_) (fun c446 => ?_)
                      · have c446 : ¬ h = h := fun hh9 => c446 ((nI_eq (a := h) (b := h) (by omega) (by omega)).mpr hh9)
                        exact absurd c446 (by omega)
                      · have c446 : h = h := (nI_eq (a := h) (b := h) (by omega) (by omega)).mp c446
                        refine lv_aload_n hx hb dL_passes_449 rfl (lv_at hl 0 rfl) ?_
                        refine lv_bipush (v := 6) hx hb dL_passes_450 (by decide) ?_
                        refine lwS (As := [.ref r, .int 6]) (rest := []) hx hb hml hown hts hl.1 hK hKx (fun _ h => h) (c_L_value l hl0 D r P (svQ Q n P) (svN n + 1 - 1) (P 6) 6 (fun C h => (R_value (k := 6) h rfl (by decide)).trans rfl)) (gHS qM_L_88 qT_L_value qK_L qC_L_value) hds_L_value ⟨(Nat.le_of_ble_eq_true rfl), (Nat.le_of_ble_eq_true rfl)⟩ hG rfl (Nat.le_of_ble_eq_true rfl) ⟨(by show 279 + 1 + 1 + 1 ≤ 320; omega), (by show 1679 + 6 + 6 + 6 ≤ 2000; omega)⟩ dL_passes_452 hS hAr (fun H locs hG hz hq hS => ?_)
                        have hG : St D r P (svQ Q n P) (svN n + 1 - 1) H := hG
                        have hw9 := hw9.kept (hq _ hw9.lt (fun h => by unfold inS at h; omega))
                        have hw10 := hw10.kept (hq _ hw10.lt (fun h => by unfold inS at h; omega))
                        have hw11 := hw11.kept (hq _ hw11.lt (fun h => by unfold inS at h; omega))
                        have hw12 := hw12.kept (hq _ hw12.lt (fun h => by unfold inS at h; omega))
                        clear hz hq
                        refine topN (n := k9) z6 ?_
                        refine lv_iload hx hb dL_passes_455 (lv_at hl 6 rfl) ?_
                        refine lv_icmp_eq (tgt := 462) hx hb dL_passes_457 (by decide) (fun c457 => ?_) (fun c457 => ?_)
                        · have c457 : k9 = k9 := (nI_eq (a := k9) (b := k9) (by omega) (by omega)).mp c457
                          refine lv_aload_n hx hb dL_passes_462 rfl (lv_at hl 0 rfl) ?_
                          refine lv_iload_n hx hb dL_passes_463 rfl (lv_at hl 1 rfl) ?_
                          refine lv_iload_n hx hb dL_passes_464 rfl (lv_at hl 2 rfl) ?_
                          refine lv_iload_n hx hb dL_passes_465 rfl (lv_at hl 3 rfl) ?_
                          refine lwS (As := [.ref r, .int T, .int S, .int (nI u)]) (rest := []) hx hb hml hown hts hl.1 hK hKx (fun _ h => h) (c_L_run l hl0 D r P (svQ Q n P) (svN n + 1 - 1) (fP_X7_hours P T S u) (svQ (svQ Q n P) (svN n + 1 - 1) P) (svN (svN n + 1 - 1) + 1) (fR_X7_hours P T S u) T S (nI u) (fun C G hd => E_run hw (by omega) z0 (by omega) hd)) (gHS qM_L_116 qT_L_run qK_L qC_L_run) hds_L_run ⟨(Nat.le_of_ble_eq_true rfl), (Nat.le_of_ble_eq_true rfl)⟩ hG rfl (Nat.le_of_ble_eq_true rfl) ⟨(by show 279 + 1 + 1 + 1 + 4 ≤ 320; omega), (by show 1679 + 6 + 6 + 6 + 24 ≤ 2000; omega)⟩ dL_passes_466 hS hAr (fun H locs hG hz hq hS => ?_)
                          have hG : St D r (fP_X7_hours P T S u) (svQ (svQ Q n P) (svN n + 1 - 1) P) (svN (svN n + 1 - 1) + 1) H := hG
                          have hw9 := hw9.kept (hq _ hw9.lt (fun h => by unfold inS at h; omega))
                          have hw10 := hw10.kept (hq _ hw10.lt (fun h => by unfold inS at h; omega))
                          have hw11 := hw11.kept (hq _ hw11.lt (fun h => by unfold inS at h; omega))
                          have hw12 := hw12.kept (hq _ hw12.lt (fun h => by unfold inS at h; omega))
                          clear hz hq
                          refine topN (n := zc) zc2 ?_
                          refine lv_iload hx hb dL_passes_469 (lv_at hl 5 rfl) ?_
                          refine lv_icmp_ne (tgt := 478) hx hb dL_passes_471 (by decide) (fun c471 => ?_) (fun c471 => ?_)
                          · have c471 : ¬ zc = zc := fun hh9 => c471 ((nI_eq (a := zc) (b := zc) (by omega) (by omega)).mpr hh9)
                            exact absurd c471 (by omega)
                          · have c471 : zc = zc := (nI_eq (a := zc) (b := zc) (by omega) (by omega)).mp c471
                            refine lv_iconst (v := 1) hx hb dL_passes_474 (by decide) ?_
                            refine lv_goto (tgt := 479) hx hb dL_passes_475 (by decide) ?_
                            refine W.widen (k := 320) (n := 2000) (by omega) (by omega) ?_
                            exact W.zret hx hb hr rfl (fun t ht hW => gQi_of rfl ⟨_, _, _, _, hG, I2, n2, m2⟩ hS ht) hS.2.2 dL_passes_479
                        · have c457 : ¬ k9 = k9 := fun hh9 => c457 ((nI_eq (a := k9) (b := k9) (by omega) (by omega)).mpr hh9)
                          exact absurd c457 (by omega)
                  have L353 : ∀ (k : Nat) (j : Nat) (H : Heap) (locs : List Loc) (ls : Array Slot) (hj0 : j + k = ns P) (hG : St D r (fP_X7_hours P T S u) (svQ Q n P) (svN n + 1) H) (hS : va_S (fun q => r ≤ q) s.heap H locs) (hw9 : IA D w9 3 X9 H) (hw10 : IA D w10 3 X10 H) (hw11 : IA D w11 3 X11 H) (hw12 : IA D w12 20 X12 H) (hl : lv_has ls 15 [(0, .ref r), (1, .int T), (2, .int S), (3, .int (nI u)), (4, .long (dgP P n)), (6, .int (nI zc)), (7, .int (nI k9)), (8, .int (nI h)), (9, .ref w9), (10, .ref w10), (11, .ref w11), (12, .ref w12), (13, .int (nI j))]), W p l e (headSpec (wA yL_passes cL_passes 15 (some .boolean)) (rmX 10 320 2000)).room s m args below meth c H locs (138 + 7 * j) (833 + 42 * j) (MQ below (gQi (fun q => r ≤ q) 1 (fun H => ∃ (P9 : Nat → Int32) (Q9 : Nat → Nat → Int32) (n9 h9 : Nat), St D r P9 Q9 n9 H ∧ Iv h9 P9 ∧ ns P9 = ns P ∧ np P9 = np P)) args s 320 2000 (fun q => r ≤ q)) (F0 m 353 ls []) := by
                    intro k
                    induction k with
                    | zero =>
                      intro j H locs ls hj0 hG hS hw9 hw10 hw11 hw12 hl
                      refine lv_iload hx hb dL_passes_353 (lv_at hl 12 rfl) ?_
                      refine lv_aload_n hx hb dL_passes_355 rfl (lv_at hl 0 rfl) ?_
                      refine lv_iconst (v := 1) hx hb dL_passes_356 (by decide) ?_
                      refine lwS (As := [.ref r, .int 1]) (rest := [.int (nI j)]) hx hb hml hown hts hl.1 hK hKx (fun _ h => h) (c_L_value l hl0 D r (fP_X7_hours P T S u) (svQ Q n P) (svN n + 1) ((fP_X7_hours P T S u) 1) 1 (fun C h => (R_value (k := 1) h rfl (by decide)).trans rfl)) (gHS qM_L_88 qT_L_value qK_L qC_L_value) hds_L_value ⟨(Nat.le_of_ble_eq_true rfl), (Nat.le_of_ble_eq_true rfl)⟩ hG rfl (Nat.le_of_ble_eq_true rfl) ⟨(by show 138 + 7 * j + 1 ≤ 320; omega), (by show 833 + 42 * j + 6 ≤ 2000; omega)⟩ dL_passes_357 hS hAr (fun H locs hG hz hq hS => ?_)
                      have hG : St D r (fP_X7_hours P T S u) (svQ Q n P) (svN n + 1) H := hG
                      have hw9 := hw9.kept (hq _ hw9.lt (fun h => by unfold inS at h; omega))
                      have hw10 := hw10.kept (hq _ hw10.lt (fun h => by unfold inS at h; omega))
                      have hw11 := hw11.kept (hq _ hw11.lt (fun h => by unfold inS at h; omega))
                      have hw12 := hw12.kept (hq _ hw12.lt (fun h => by unfold inS at h; omega))
                      clear hz hq
                      refine topN (n := ns P) hN1b ?_
                      refine lv_icmp_ge (tgt := 432) hx hb dL_passes_360 (by decide) (fun c360 => ?_) (fun c360 => ?_)
                      · have c360 : ns P ≤ j := (nI_leI (a := ns P) (b := j) (by omega) (by omega)).mp c360
                        obtain rfl : j = ns P := by omega
                        refine W.widen (k := 279) (n := 1679) (by omega) (by omega) ?_
                        exact K432  _ _ _  hG hS hw9 hw10 hw11 hw12 (lv_sub hl [0, 1, 2, 3, 4, 5, 6, 7, 8, 9, 10, 11] rfl)
                      · have c360 : ¬ ns P ≤ j := fun hh9 => c360 ((nI_leI (a := ns P) (b := j) (by omega) (by omega)).mpr hh9)
                        exact absurd c360 (by omega)
                    | succ k ih =>
                      intro j H locs ls hj0 hG hS hw9 hw10 hw11 hw12 hl
                      refine lv_iload hx hb dL_passes_353 (lv_at hl 12 rfl) ?_
                      refine lv_aload_n hx hb dL_passes_355 rfl (lv_at hl 0 rfl) ?_
                      refine lv_iconst (v := 1) hx hb dL_passes_356 (by decide) ?_
                      refine lwS (As := [.ref r, .int 1]) (rest := [.int (nI j)]) hx hb hml hown hts hl.1 hK hKx (fun _ h => h) (c_L_value l hl0 D r (fP_X7_hours P T S u) (svQ Q n P) (svN n + 1) ((fP_X7_hours P T S u) 1) 1 (fun C h => (R_value (k := 1) h rfl (by decide)).trans rfl)) (gHS qM_L_88 qT_L_value qK_L qC_L_value) hds_L_value ⟨(Nat.le_of_ble_eq_true rfl), (Nat.le_of_ble_eq_true rfl)⟩ hG rfl (Nat.le_of_ble_eq_true rfl) ⟨(by show 138 + 7 * j + 1 ≤ 320; omega), (by show 833 + 42 * j + 6 ≤ 2000; omega)⟩ dL_passes_357 hS hAr (fun H locs hG hz hq hS => ?_)
                      have hG : St D r (fP_X7_hours P T S u) (svQ Q n P) (svN n + 1) H := hG
                      have hw9 := hw9.kept (hq _ hw9.lt (fun h => by unfold inS at h; omega))
                      have hw10 := hw10.kept (hq _ hw10.lt (fun h => by unfold inS at h; omega))
                      have hw11 := hw11.kept (hq _ hw11.lt (fun h => by unfold inS at h; omega))
                      have hw12 := hw12.kept (hq _ hw12.lt (fun h => by unfold inS at h; omega))
                      clear hz hq
                      refine topN (n := ns P) hN1b ?_
                      refine lv_icmp_ge (tgt := 432) hx hb dL_passes_360 (by decide) (fun c360 => ?_) (fun c360 => ?_)
                      · have c360 : ns P ≤ j := (nI_leI (a := ns P) (b := j) (by omega) (by omega)).mp c360
                        exact absurd c360 (by omega)
                      · have c360 : ¬ ns P ≤ j := fun hh9 => c360 ((nI_leI (a := ns P) (b := j) (by omega) (by omega)).mpr hh9)
                        obtain ⟨cl, a, f6, cl1, f6b, a1, f8, f9⟩ := pass_s hI hw hu (by omega) (show j < ns P by omega)
                        refine lv_aload_n hx hb dL_passes_363 rfl (lv_at hl 0 rfl) ?_
                        refine lv_iload hx hb dL_passes_364 (lv_at hl 12 rfl) ?_
                        refine lv_bipush (v := 7) hx hb dL_passes_366 (by decide) ?_
                        refine lwS (As := [.ref r, .int (nI j), .int 7]) (rest := []) hx hb hml hown hts hl.1 hK hKx (fun _ h => h) (c_L_street l hl0 D r (fP_X7_hours P T S u) (svQ Q n P) (svN n + 1) ((fP_X7_hours P T S u) (9 + 8 * j + 6)) (nI j) 7 (fun C h => (R_street (i := j) (k := 7) h (by omega) rfl (by decide)).trans rfl)) (gHS qM_L_95 qT_L_street qK_L qC_L_street) hds_L_street ⟨(Nat.le_of_ble_eq_true rfl), (Nat.le_of_ble_eq_true rfl)⟩ hG rfl (Nat.le_of_ble_eq_true rfl) ⟨(by show 138 + 7 * j + 1 + 2 ≤ 320; omega), (by show 833 + 42 * j + 6 + 12 ≤ 2000; omega)⟩ dL_passes_368 hS hAr (fun H locs hG hz hq hS => ?_)
                        have hG : St D r (fP_X7_hours P T S u) (svQ Q n P) (svN n + 1) H := hG
                        have hw9 := hw9.kept (hq _ hw9.lt (fun h => by unfold inS at h; omega))
                        have hw10 := hw10.kept (hq _ hw10.lt (fun h => by unfold inS at h; omega))
                        have hw11 := hw11.kept (hq _ hw11.lt (fun h => by unfold inS at h; omega))
                        have hw12 := hw12.kept (hq _ hw12.lt (fun h => by unfold inS at h; omega))
                        clear hz hq
                        refine topN (n := cl + a) f6b ?_
                        refine lv_aload hx hb dL_passes_371 (lv_at hl 11 rfl) ?_
                        refine lv_iload hx hb dL_passes_373 (lv_at hl 12 rfl) ?_
                        refine lwAl (k := j) hx hb hK hw12 (by omega) (by decide) dL_passes_375 ?_
                        refine topN (n := cl) ((hY j (by omega)).trans f6) ?_
                        refine isubN (a := cl + a) (b := cl) (by omega) hx hb dL_passes_376 ?_
                        refine topN (n := a) (by rw [Nat.add_sub_cancel_left]) ?_
                        refine lv_istore (lv' := [(14, .int (nI a)), (0, .ref r), (1, .int T), (2, .int S), (3, .int (nI u)), (4, .long (dgP P n)), (6, .int (nI zc)), (7, .int (nI k9)), (8, .int (nI h)), (9, .ref w9), (10, .ref w10), (11, .ref w11), (12, .ref w12), (13, .int (nI j))]) hx hb dL_passes_377 hl (by decide) rfl (fun ls hl => ?_)
                        refine lv_iload hx hb dL_passes_379 (lv_at hl 0 rfl) ?_
                        refine lv_if_lt (tgt := 424) hx hb dL_passes_381 (by decide) (fun c381 => ?_) (fun c381 => ?_)
                        · have c381 : a < 0 := (nI_ltI (a := a) (b := 0) (by omega) (by omega)).mp c381
                          exact absurd c381 (by omega)
                        · have c381 : ¬ a < 0 := fun hh9 => c381 ((nI_ltI (a := a) (b := 0) (by omega) (by omega)).mpr hh9)
                          refine lv_iload hx hb dL_passes_384 (lv_at hl 0 rfl) ?_
                          have K426 : ∀ (H : Heap) (locs : List Loc) (ls : Array Slot) (hG : St D r (fP_X7_hours P T S u) (svQ Q n P) (svN n + 1) H) (hS : va_S (fun q => r ≤ q) s.heap H locs) (hw9 : IA D w9 3 X9 H) (hw10 : IA D w10 3 X10 H) (hw11 : IA D w11 3 X11 H) (hw12 : IA D w12 20 X12 H) (hl : lv_has ls 15 [(0, .ref r), (1, .int T), (2, .int S), (3, .int (nI u)), (4, .long (dgP P n)), (6, .int (nI zc)), (7, .int (nI k9)), (8, .int (nI h)), (9, .ref w9), (10, .ref w10), (11, .ref w11), (12, .ref w12), (13, .int (nI j)), (14, .int (nI a))]), W p l e (headSpec (wA yL_passes cL_passes 15 (some .boolean)) (rmX 10 320 2000)).room s m args below meth c H locs (138 + 7 * j + 7) (833 + 42 * j + 42) (MQ below (gQi (fun q => r ≤ q) 1 (fun H => ∃ (P9 : Nat → Int32) (Q9 : Nat → Nat → Int32) (n9 h9 : Nat), St D r P9 Q9 n9 H ∧ Iv h9 P9 ∧ ns P9 = ns P ∧ np P9 = np P)) args s 320 2000 (fun q => r ≤ q)) (F0 m 426 ls []) := by
                            intro H locs ls hG hS hw9 hw10 hw11 hw12 hl
                            refine lv_iinc (v := nI (j + 1)) (lv' := [(13, .int (nI (j + 1))), (0, .ref r), (1, .int T), (2, .int S), (3, .int (nI u)), (4, .long (dgP P n)), (6, .int (nI zc)), (7, .int (nI k9)), (8, .int (nI h)), (9, .ref w9), (10, .ref w10), (11, .ref w11), (12, .ref w12), (14, .int (nI a))]) hx hb dL_passes_426 hl (k := 12) rfl (nI_add j 1) (by decide) rfl (fun ls hl => ?_)
                            refine lv_goto (tgt := 353) hx hb dL_passes_429 (by decide) ?_
                            refine W.widen (k := 138 + 7 * (j + 1)) (n := 833 + 42 * (j + 1)) (by omega) (by omega) ?_
                            exact ih (j + 1) _ _ _ (by omega) hG hS hw9 hw10 hw11 hw12 (lv_sub hl [1, 2, 3, 4, 5, 6, 7, 8, 9, 10, 11, 12, 0] rfl)
                          have K402 : ∀ (H : Heap) (locs : List Loc) (ls : Array Slot) (hG : St D r (fP_X7_hours P T S u) (svQ Q n P) (svN n + 1) H) (hS : va_S (fun q => r ≤ q) s.heap H locs) (hw9 : IA D w9 3 X9 H) (hw10 : IA D w10 3 X10 H) (hw11 : IA D w11 3 X11 H) (hw12 : IA D w12 20 X12 H) (hl : lv_has ls 15 [(0, .ref r), (1, .int T), (2, .int S), (3, .int (nI u)), (4, .long (dgP P n)), (6, .int (nI zc)), (7, .int (nI k9)), (8, .int (nI h)), (9, .ref w9), (10, .ref w10), (11, .ref w11), (12, .ref w12), (13, .int (nI j)), (14, .int (nI a))]), W p l e (headSpec (wA yL_passes cL_passes 15 (some .boolean)) (rmX 10 320 2000)).room s m args below meth c H locs (138 + 7 * j + 5) (833 + 42 * j + 30) (MQ below (gQi (fun q => r ≤ q) 1 (fun H => ∃ (P9 : Nat → Int32) (Q9 : Nat → Nat → Int32) (n9 h9 : Nat), St D r P9 Q9 n9 H ∧ Iv h9 P9 ∧ ns P9 = ns P ∧ np P9 = np P)) args s 320 2000 (fun q => r ≤ q)) (F0 m 402 ls []) := by
                            intro H locs ls hG hS hw9 hw10 hw11 hw12 hl
                            refine lv_iload hx hb dL_passes_402 (lv_at hl 13 rfl) ?_
                            refine lv_if_ne (tgt := 426) hx hb dL_passes_404 (by decide) (fun c404 => ?_) (fun c404 => ?_)
                            · have c404 : ¬ a = 0 := fun hh9 => c404 ((nI_eq (a := a) (b := 0) (by omega) (by omega)).mpr hh9)
                              refine W.widen (k := 138 + 7 * j + 7) (n := 833 + 42 * j + 42) (by omega) (by omega) ?_
                              exact K426  _ _ _  hG hS hw9 hw10 hw11 hw12 (lv_sub hl [0, 1, 2, 3, 4, 5, 6, 7, 8, 9, 10, 11, 12, 13] rfl)
                            · have c404 : a = 0 := (nI_eq (a := a) (b := 0) (by omega) (by omega)).mp c404
                              refine lv_iload_n hx hb dL_passes_407 rfl (lv_at hl 3 rfl) ?_
                              refine lv_if_ne (tgt := 426) hx hb dL_passes_408 (by decide) (fun c408 => ?_) (fun c408 => ?_)
                              · have c408 : ¬ u = 0 := fun hh9 => c408 ((nI_eq (a := u) (b := 0) (by omega) (by omega)).mpr hh9)
                                refine W.widen (k := 138 + 7 * j + 7) (n := 833 + 42 * j + 42) (by omega) (by omega) ?_
                                exact K426  _ _ _  hG hS hw9 hw10 hw11 hw12 (lv_sub hl [0, 1, 2, 3, 4, 5, 6, 7, 8, 9, 10, 11, 12, 13] rfl)
                              · have c408 : u = 0 := (nI_eq (a := u) (b := 0) (by omega) (by omega)).mp c408
                                refine lv_aload_n hx hb dL_passes_411 rfl (lv_at hl 0 rfl) ?_
                                refine lv_iload hx hb dL_passes_412 (lv_at hl 12 rfl) ?_
                                refine lv_bipush (v := 8) hx hb dL_passes_414 (by decide) ?_
                                refine lwS (As := [.ref r, .int (nI j), .int 8]) (rest := []) hx hb hml hown hts hl.1 hK hKx (fun _ h => h) (c_L_street l hl0 D r (fP_X7_hours P T S u) (svQ Q n P) (svN n + 1) ((fP_X7_hours P T S u) (9 + 8 * j + 7)) (nI j) 8 (fun C h => (R_street (i := j) (k := 8) h (by omega) rfl (by decide)).trans rfl)) (gHS qM_L_95 qT_L_street qK_L qC_L_street) hds_L_street ⟨(Nat.le_of_ble_eq_true rfl), (Nat.le_of_ble_eq_true rfl)⟩ hG rfl (Nat.le_of_ble_eq_true rfl) ⟨(by show 138 + 7 * j + 5 + 2 ≤ 320; omega), (by show 833 + 42 * j + 30 + 12 ≤ 2000; omega)⟩ dL_passes_416 hS hAr (fun H locs hG hz hq hS => ?_)
                                have hG : St D r (fP_X7_hours P T S u) (svQ Q n P) (svN n + 1) H := hG
                                have hw9 := hw9.kept (hq _ hw9.lt (fun h => by unfold inS at h; omega))
                                have hw10 := hw10.kept (hq _ hw10.lt (fun h => by unfold inS at h; omega))
                                have hw11 := hw11.kept (hq _ hw11.lt (fun h => by unfold inS at h; omega))
                                have hw12 := hw12.kept (hq _ hw12.lt (fun h => by unfold inS at h; omega))
                                clear hz hq
                                refine lv_iload hx hb dL_passes_419 (lv_at hl 7 rfl) ?_
                                refine lv_icmp_lt (tgt := 426) hx hb dL_passes_421 (by decide) (fun c421 => ?_) (fun c421 => ?_)
                                · refine W.widen (k := 138 + 7 * j + 7) (n := 833 + 42 * j + 42) (by omega) (by omega) ?_
                                  exact K426  _ _ _  hG hS hw9 hw10 hw11 hw12 (lv_sub hl [0, 1, 2, 3, 4, 5, 6, 7, 8, 9, 10, 11, 12, 13] rfl)
                                · exact absurd (f9 (by omega)) c421
                          refine lv_if_le (tgt := 402) hx hb dL_passes_386 (by decide) (fun c386 => ?_) (fun c386 => ?_)
                          · have c386 : a ≤ 0 := (nI_leI (a := a) (b := 0) (by omega) (by omega)).mp c386
                            refine W.widen (k := 138 + 7 * j + 5) (n := 833 + 42 * j + 30) (by omega) (by omega) ?_
                            exact K402  _ _ _  hG hS hw9 hw10 hw11 hw12 (lv_sub hl [1, 2, 3, 4, 5, 6, 7, 8, 9, 10, 11, 12, 13, 0] rfl)
                          · have c386 : ¬ a ≤ 0 := fun hh9 => c386 ((nI_leI (a := a) (b := 0) (by omega) (by omega)).mpr hh9)
                            refine lv_aload_n hx hb dL_passes_389 rfl (lv_at hl 1 rfl) ?_
                            refine lv_iload hx hb dL_passes_390 (lv_at hl 13 rfl) ?_
                            refine lv_bipush (v := 8) hx hb dL_passes_392 (by decide) ?_
                            refine lwS (As := [.ref r, .int (nI j), .int 8]) (rest := []) hx hb hml hown hts hl.1 hK hKx (fun _ h => h) (c_L_street l hl0 D r (fP_X7_hours P T S u) (svQ Q n P) (svN n + 1) ((fP_X7_hours P T S u) (9 + 8 * j + 7)) (nI j) 8 (fun C h => (R_street (i := j) (k := 8) h (by omega) rfl (by decide)).trans rfl)) (gHS qM_L_95 qT_L_street qK_L qC_L_street) hds_L_street ⟨(Nat.le_of_ble_eq_true rfl), (Nat.le_of_ble_eq_true rfl)⟩ hG rfl (Nat.le_of_ble_eq_true rfl) ⟨(by show 138 + 7 * j + 1 + 2 + 2 ≤ 320; omega), (by show 833 + 42 * j + 6 + 12 + 12 ≤ 2000; omega)⟩ dL_passes_394 hS hAr (fun H locs hG hz hq hS => ?_)
                            have hG : St D r (fP_X7_hours P T S u) (svQ Q n P) (svN n + 1) H := hG
                            have hw9 := hw9.kept (hq _ hw9.lt (fun h => by unfold inS at h; omega))
                            have hw10 := hw10.kept (hq _ hw10.lt (fun h => by unfold inS at h; omega))
                            have hw11 := hw11.kept (hq _ hw11.lt (fun h => by unfold inS at h; omega))
                            have hw12 := hw12.kept (hq _ hw12.lt (fun h => by unfold inS at h; omega))
                            clear hz hq
                            refine lv_iload hx hb dL_passes_397 (lv_at hl 8 rfl) ?_
                            refine lv_icmp_lt (tgt := 424) hx hb dL_passes_399 (by decide) (fun c399 => ?_) (fun c399 => ?_)
                            · exact absurd c399 (f8 (by omega))
                            · refine W.widen (k := 138 + 7 * j + 5) (n := 833 + 42 * j + 30) (by omega) (by omega) ?_
                              exact K402  _ _ _  hG hS hw9 hw10 hw11 hw12 (lv_sub hl [1, 2, 3, 4, 5, 6, 7, 8, 9, 10, 11, 12, 13, 0] rfl)
                  refine W.widen (k := 138 + 7 * 0) (n := 833 + 42 * 0) (by omega) (by omega) ?_
                  exact L353 (ns P) 0 _ _ _ (by omega) hG hS hw9 hw10 hw11 hw12 (lv_sub hl [1, 2, 3, 4, 5, 6, 7, 8, 9, 10, 11, 12, 0] rfl)
                have L233 : ∀ (k : Nat) (q : Nat) (H : Heap) (locs : List Loc) (ls : Array Slot) (hq0 : q + k = np P) (hG : St D r (fP_X7_hours P T S u) (svQ Q n P) (svN n + 1) H) (hS : va_S (fun q => r ≤ q) s.heap H locs) (hw9 : IA D w9 3 X9 H) (hw10 : IA D w10 3 X10 H) (hw11 : IA D w11 3 X11 H) (hw12 : IA D w12 20 X12 H) (hl : lv_has ls 15 [(0, .ref r), (1, .int T), (2, .int S), (3, .int (nI u)), (4, .long (dgP P n)), (6, .int (nI zc)), (7, .int (nI k9)), (8, .int (nI h)), (9, .ref w9), (10, .ref w10), (11, .ref w11), (12, .ref w12), (13, .int (nI q))]), W p l e (headSpec (wA yL_passes cL_passes 15 (some .boolean)) (rmX 10 320 2000)).room s m args below meth c H locs (98 + 13 * q) (593 + 78 * q) (MQ below (gQi (fun q => r ≤ q) 1 (fun H => ∃ (P9 : Nat → Int32) (Q9 : Nat → Nat → Int32) (n9 h9 : Nat), St D r P9 Q9 n9 H ∧ Iv h9 P9 ∧ ns P9 = ns P ∧ np P9 = np P)) args s 320 2000 (fun q => r ≤ q)) (F0 m 233 ls []) := by
                  intro k
                  induction k with
                  | zero =>
                    intro q H locs ls hq0 hG hS hw9 hw10 hw11 hw12 hl
                    refine lv_iload hx hb dL_passes_233 (lv_at hl 12 rfl) ?_
                    refine lv_aload_n hx hb dL_passes_235 rfl (lv_at hl 0 rfl) ?_
                    refine lv_iconst (v := 2) hx hb dL_passes_236 (by decide) ?_
                    refine lwS (As := [.ref r, .int 2]) (rest := [.int (nI q)]) hx hb hml hown hts hl.1 hK hKx (fun _ h => h) (c_L_value l hl0 D r (fP_X7_hours P T S u) (svQ Q n P) (svN n + 1) ((fP_X7_hours P T S u) 2) 2 (fun C h => (R_value (k := 2) h rfl (by decide)).trans rfl)) (gHS qM_L_88 qT_L_value qK_L qC_L_value) hds_L_value ⟨(Nat.le_of_ble_eq_true rfl), (Nat.le_of_ble_eq_true rfl)⟩ hG rfl (Nat.le_of_ble_eq_true rfl) ⟨(by show 98 + 13 * q + 1 ≤ 320; omega), (by show 593 + 78 * q + 6 ≤ 2000; omega)⟩ dL_passes_237 hS hAr (fun H locs hG hz hq hS => ?_)
                    have hG : St D r (fP_X7_hours P T S u) (svQ Q n P) (svN n + 1) H := hG
                    have hw9 := hw9.kept (hq _ hw9.lt (fun h => by unfold inS at h; omega))
                    have hw10 := hw10.kept (hq _ hw10.lt (fun h => by unfold inS at h; omega))
                    have hw11 := hw11.kept (hq _ hw11.lt (fun h => by unfold inS at h; omega))
                    have hw12 := hw12.kept (hq _ hw12.lt (fun h => by unfold inS at h; omega))
                    clear hz hq
                    refine topN (n := np P) hN2b ?_
                    refine lv_icmp_ge (tgt := 350) hx hb dL_passes_240 (by decide) (fun c240 => ?_) (fun c240 => ?_)
                    · have c240 : np P ≤ q := (nI_leI (a := np P) (b := q) (by omega) (by omega)).mp c240
                      obtain rfl : q = np P := by omega
                      refine W.widen (k := 138) (n := 833) (by omega) (by omega) ?_
                      exact K350  _ _ _  hG hS hw9 hw10 hw11 hw12 (lv_sub hl [0, 1, 2, 3, 4, 5, 6, 7, 8, 9, 10, 11] rfl)
                    · have c240 : ¬ np P ≤ q := fun hh9 => c240 ((nI_leI (a := np P) (b := q) (by omega) (by omega)).mpr hh9)
                      exact absurd c240 (by omega)
                  | succ k ih =>
                    intro q H locs ls hq0 hG hS hw9 hw10 hw11 hw12 hl
                    refine lv_iload hx hb dL_passes_233 (lv_at hl 12 rfl) ?_
                    refine lv_aload_n hx hb dL_passes_235 rfl (lv_at hl 0 rfl) ?_
                    refine lv_iconst (v := 2) hx hb dL_passes_236 (by decide) ?_
                    refine lwS (As := [.ref r, .int 2]) (rest := [.int (nI q)]) hx hb hml hown hts hl.1 hK hKx (fun _ h => h) (c_L_value l hl0 D r (fP_X7_hours P T S u) (svQ Q n P) (svN n + 1) ((fP_X7_hours P T S u) 2) 2 (fun C h => (R_value (k := 2) h rfl (by decide)).trans rfl)) (gHS qM_L_88 qT_L_value qK_L qC_L_value) hds_L_value ⟨(Nat.le_of_ble_eq_true rfl), (Nat.le_of_ble_eq_true rfl)⟩ hG rfl (Nat.le_of_ble_eq_true rfl) ⟨(by show 98 + 13 * q + 1 ≤ 320; omega), (by show 593 + 78 * q + 6 ≤ 2000; omega)⟩ dL_passes_237 hS hAr (fun H locs hG hz hq hS => ?_)
                    have hG : St D r (fP_X7_hours P T S u) (svQ Q n P) (svN n + 1) H := hG
                    have hw9 := hw9.kept (hq _ hw9.lt (fun h => by unfold inS at h; omega))
                    have hw10 := hw10.kept (hq _ hw10.lt (fun h => by unfold inS at h; omega))
                    have hw11 := hw11.kept (hq _ hw11.lt (fun h => by unfold inS at h; omega))
                    have hw12 := hw12.kept (hq _ hw12.lt (fun h => by unfold inS at h; omega))
                    clear hz hq
                    refine topN (n := np P) hN2b ?_
                    refine lv_icmp_ge (tgt := 350) hx hb dL_passes_240 (by decide) (fun c240 => ?_) (fun c240 => ?_)
                    · have c240 : np P ≤ q := (nI_leI (a := np P) (b := q) (by omega) (by omega)).mp c240
                      exact absurd c240 (by omega)
                    · have c240 : ¬ np P ≤ q := fun hh9 => c240 ((nI_leI (a := np P) (b := q) (by omega) (by omega)).mpr hh9)
                      obtain ⟨s9, me, a, ro, b, z9, p0, p0b, p7, me1, p7b, z9e, az, z91, p6, ro1, p6b, b1, p3, nc1, pz⟩ := pass_p hI hw hu (by omega) (show q < np P by omega)
                      refine lv_aload_n hx hb dL_passes_243 rfl (lv_at hl 0 rfl) ?_
                      refine lv_iload hx hb dL_passes_244 (lv_at hl 12 rfl) ?_
                      refine lv_bipush (v := 7) hx hb dL_passes_246 (by decide) ?_
                      refine lwS (As := [.ref r, .int (nI q), .int 7]) (rest := []) hx hb hml hown hts hl.1 hK hKx (fun _ h => h) (c_L_plow l hl0 D r (fP_X7_hours P T S u) (svQ Q n P) (svN n + 1) ((fP_X7_hours P T S u) (169 + 20 * q + 7)) (nI q) 7 (fun C h => R_plow (q := q) (k := 7) h (by omega) rfl (by decide))) (gHS qM_L_100 qT_L_plow qK_L qC_L_plow) hds_L_plow ⟨(Nat.le_of_ble_eq_true rfl), (Nat.le_of_ble_eq_true rfl)⟩ hG rfl (Nat.le_of_ble_eq_true rfl) ⟨(by show 98 + 13 * q + 1 + 2 ≤ 320; omega), (by show 593 + 78 * q + 6 + 12 ≤ 2000; omega)⟩ dL_passes_248 hS hAr (fun H locs hG hz hq hS => ?_)
                      have hG : St D r (fP_X7_hours P T S u) (svQ Q n P) (svN n + 1) H := hG
                      have hw9 := hw9.kept (hq _ hw9.lt (fun h => by unfold inS at h; omega))
                      have hw10 := hw10.kept (hq _ hw10.lt (fun h => by unfold inS at h; omega))
                      have hw11 := hw11.kept (hq _ hw11.lt (fun h => by unfold inS at h; omega))
                      have hw12 := hw12.kept (hq _ hw12.lt (fun h => by unfold inS at h; omega))
                      clear hz hq
                      refine topN (n := me + a) p7b ?_
                      refine lv_aload hx hb dL_passes_251 (lv_at hl 8 rfl) ?_
                      refine lv_iload hx hb dL_passes_253 (lv_at hl 12 rfl) ?_
                      refine lwAl (k := q) hx hb hK hw9 (by omega) (by decide) dL_passes_255 ?_
                      refine topN (n := me) ((hX q (by omega)).1.trans p7) ?_
                      refine isubN (a := me + a) (b := me) (by omega) hx hb dL_passes_256 ?_
                      refine topN (n := a) (by rw [Nat.add_sub_cancel_left]) ?_
                      refine lv_istore (lv' := [(14, .int (nI a)), (0, .ref r), (1, .int T), (2, .int S), (3, .int (nI u)), (4, .long (dgP P n)), (6, .int (nI zc)), (7, .int (nI k9)), (8, .int (nI h)), (9, .ref w9), (10, .ref w10), (11, .ref w11), (12, .ref w12), (13, .int (nI q))]) hx hb dL_passes_257 hl (by decide) rfl (fun ls hl => ?_)
                      refine lv_iload hx hb dL_passes_259 (lv_at hl 0 rfl) ?_
                      refine lv_if_lt (tgt := 342) hx hb dL_passes_261 (by decide) (fun c261 => ?_) (fun c261 => ?_)
                      · have c261 : a < 0 := (nI_ltI (a := a) (b := 0) (by omega) (by omega)).mp c261
                        exact absurd c261 (by omega)
                      · have c261 : ¬ a < 0 := fun hh9 => c261 ((nI_ltI (a := a) (b := 0) (by omega) (by omega)).mpr hh9)
                        refine lv_iload hx hb dL_passes_264 (lv_at hl 0 rfl) ?_
                        refine lv_iload_n hx hb dL_passes_266 rfl (lv_at hl 4 rfl) ?_
                        refine lv_aload_n hx hb dL_passes_267 rfl (lv_at hl 1 rfl) ?_
                        refine lv_iload hx hb dL_passes_268 (lv_at hl 13 rfl) ?_
                        refine lv_iconst (v := 0) hx hb dL_passes_270 (by decide) ?_
                        refine lwS (As := [.ref r, .int (nI q), .int 0]) (rest := [.int (nI u), .int (nI a)]) hx hb hml hown hts hl.1 hK hKx (fun _ h => h) (c_L_plow l hl0 D r (fP_X7_hours P T S u) (svQ Q n P) (svN n + 1) ((fP_X7_hours P T S u) (169 + 20 * q + 0)) (nI q) 0 (fun C h => R_plow (q := q) (k := 0) h (by omega) rfl (by decide))) (gHS qM_L_100 qT_L_plow qK_L qC_L_plow) hds_L_plow ⟨(Nat.le_of_ble_eq_true rfl), (Nat.le_of_ble_eq_true rfl)⟩ hG rfl (Nat.le_of_ble_eq_true rfl) ⟨(by show 98 + 13 * q + 1 + 2 + 2 ≤ 320; omega), (by show 593 + 78 * q + 6 + 12 + 12 ≤ 2000; omega)⟩ dL_passes_271 hS hAr (fun H locs hG hz hq hS => ?_)
                        have hG : St D r (fP_X7_hours P T S u) (svQ Q n P) (svN n + 1) H := hG
                        have hw9 := hw9.kept (hq _ hw9.lt (fun h => by unfold inS at h; omega))
                        have hw10 := hw10.kept (hq _ hw10.lt (fun h => by unfold inS at h; omega))
                        have hw11 := hw11.kept (hq _ hw11.lt (fun h => by unfold inS at h; omega))
                        have hw12 := hw12.kept (hq _ hw12.lt (fun h => by unfold inS at h; omega))
                        clear hz hq
                        refine topN (n := s9) p0 ?_
                        refine imulN (a := u) (b := s9) hx hb dL_passes_274 ?_
                        refine topN (n := z9) (by rw [z9e]) ?_
                        refine lv_icmp_gt (tgt := 342) hx hb dL_passes_275 (by decide) (fun c275 => ?_) (fun c275 => ?_)
                        · have c275 : z9 < a := (nI_ltI (a := z9) (b := a) (by omega) (by omega)).mp c275
                          exact absurd c275 (by omega)
                        · have c275 : ¬ z9 < a := fun hh9 => c275 ((nI_ltI (a := z9) (b := a) (by omega) (by omega)).mpr hh9)
                          refine lv_aload_n hx hb dL_passes_278 rfl (lv_at hl 1 rfl) ?_
                          refine lv_iload hx hb dL_passes_279 (lv_at hl 13 rfl) ?_
                          refine lv_bipush (v := 6) hx hb dL_passes_281 (by decide) ?_
                          refine lwS (As := [.ref r, .int (nI q), .int 6]) (rest := []) hx hb hml hown hts hl.1 hK hKx (fun _ h => h) (c_L_plow l hl0 D r (fP_X7_hours P T S u) (svQ Q n P) (svN n + 1) ((fP_X7_hours P T S u) (169 + 20 * q + 6)) (nI q) 6 (fun C h => R_plow (q := q) (k := 6) h (by omega) rfl (by decide))) (gHS qM_L_100 qT_L_plow qK_L qC_L_plow) hds_L_plow ⟨(Nat.le_of_ble_eq_true rfl), (Nat.le_of_ble_eq_true rfl)⟩ hG rfl (Nat.le_of_ble_eq_true rfl) ⟨(by show 98 + 13 * q + 1 + 2 + 2 + 2 ≤ 320; omega), (by show 593 + 78 * q + 6 + 12 + 12 + 12 ≤ 2000; omega)⟩ dL_passes_283 hS hAr (fun H locs hG hz hq hS => ?_)
                          have hG : St D r (fP_X7_hours P T S u) (svQ Q n P) (svN n + 1) H := hG
                          have hw9 := hw9.kept (hq _ hw9.lt (fun h => by unfold inS at h; omega))
                          have hw10 := hw10.kept (hq _ hw10.lt (fun h => by unfold inS at h; omega))
                          have hw11 := hw11.kept (hq _ hw11.lt (fun h => by unfold inS at h; omega))
                          have hw12 := hw12.kept (hq _ hw12.lt (fun h => by unfold inS at h; omega))
                          clear hz hq
                          refine topN (n := ro + b) p6b ?_
                          refine lv_aload hx hb dL_passes_286 (lv_at hl 10 rfl) ?_
                          refine lv_iload hx hb dL_passes_288 (lv_at hl 13 rfl) ?_
                          refine lwAl (k := q) hx hb hK hw10 (by omega) (by decide) dL_passes_290 ?_
                          refine topN (n := ro) ((hX q (by omega)).2.1.trans p6) ?_
                          refine lv_icmp_lt (tgt := 342) hx hb dL_passes_291 (by decide) (fun c291 => ?_) (fun c291 => ?_)
                          · have c291 : ro + b < ro := (nI_ltI (a := ro + b) (b := ro) (by omega) (by omega)).mp c291
                            exact absurd c291 (by omega)
                          · have c291 : ¬ ro + b < ro := fun hh9 => c291 ((nI_ltI (a := ro + b) (b := ro) (by omega) (by omega)).mpr hh9)
                            refine lv_aload_n hx hb dL_passes_294 rfl (lv_at hl 1 rfl) ?_
                            refine lv_iload hx hb dL_passes_295 (lv_at hl 13 rfl) ?_
                            refine lv_bipush (v := 6) hx hb dL_passes_297 (by decide) ?_
                            refine lwS (As := [.ref r, .int (nI q), .int 6]) (rest := []) hx hb hml hown hts hl.1 hK hKx (fun _ h => h) (c_L_plow l hl0 D r (fP_X7_hours P T S u) (svQ Q n P) (svN n + 1) ((fP_X7_hours P T S u) (169 + 20 * q + 6)) (nI q) 6 (fun C h => R_plow (q := q) (k := 6) h (by omega) rfl (by decide))) (gHS qM_L_100 qT_L_plow qK_L qC_L_plow) hds_L_plow ⟨(Nat.le_of_ble_eq_true rfl), (Nat.le_of_ble_eq_true rfl)⟩ hG rfl (Nat.le_of_ble_eq_true rfl) ⟨(by show 98 + 13 * q + 1 + 2 + 2 + 2 + 2 ≤ 320; omega), (by show 593 + 78 * q + 6 + 12 + 12 + 12 + 12 ≤ 2000; omega)⟩ dL_passes_299 hS hAr (fun H locs hG hz hq hS => ?_)
                            have hG : St D r (fP_X7_hours P T S u) (svQ Q n P) (svN n + 1) H := hG
                            have hw9 := hw9.kept (hq _ hw9.lt (fun h => by unfold inS at h; omega))
                            have hw10 := hw10.kept (hq _ hw10.lt (fun h => by unfold inS at h; omega))
                            have hw11 := hw11.kept (hq _ hw11.lt (fun h => by unfold inS at h; omega))
                            have hw12 := hw12.kept (hq _ hw12.lt (fun h => by unfold inS at h; omega))
                            clear hz hq
                            refine topN (n := ro + b) p6b ?_
                            refine lv_aload hx hb dL_passes_302 (lv_at hl 10 rfl) ?_
                            refine lv_iload hx hb dL_passes_304 (lv_at hl 13 rfl) ?_
                            refine lwAl (k := q) hx hb hK hw10 (by omega) (by decide) dL_passes_306 ?_
                            refine topN (n := ro) ((hX q (by omega)).2.1.trans p6) ?_
                            refine lv_iload_n hx hb dL_passes_307 rfl (lv_at hl 4 rfl) ?_
                            refine iaddN (a := ro) (b := u) hx hb dL_passes_308 ?_
                            refine lv_icmp_gt (tgt := 342) hx hb dL_passes_309 (by decide) (fun c309 => ?_) (fun c309 => ?_)
                            · have c309 : ro + u < ro + b := (nI_ltI (a := ro + u) (b := ro + b) (by omega) (by omega)).mp c309
                              exact absurd c309 (by omega)
                            · have c309 : ¬ ro + u < ro + b := fun hh9 => c309 ((nI_ltI (a := ro + u) (b := ro + b) (by omega) (by omega)).mpr hh9)
                              refine lv_aload_n hx hb dL_passes_312 rfl (lv_at hl 1 rfl) ?_
                              refine lv_iload hx hb dL_passes_313 (lv_at hl 13 rfl) ?_
                              refine lv_iconst (v := 3) hx hb dL_passes_315 (by decide) ?_
                              refine lwS (As := [.ref r, .int (nI q), .int 3]) (rest := []) hx hb hml hown hts hl.1 hK hKx (fun _ h => h) (c_L_plow l hl0 D r (fP_X7_hours P T S u) (svQ Q n P) (svN n + 1) ((fP_X7_hours P T S u) (169 + 20 * q + 3)) (nI q) 3 (fun C h => R_plow (q := q) (k := 3) h (by omega) rfl (by decide))) (gHS qM_L_100 qT_L_plow qK_L qC_L_plow) hds_L_plow ⟨(Nat.le_of_ble_eq_true rfl), (Nat.le_of_ble_eq_true rfl)⟩ hG rfl (Nat.le_of_ble_eq_true rfl) ⟨(by show 98 + 13 * q + 1 + 2 + 2 + 2 + 2 + 2 ≤ 320; omega), (by show 593 + 78 * q + 6 + 12 + 12 + 12 + 12 + 12 ≤ 2000; omega)⟩ dL_passes_316 hS hAr (fun H locs hG hz hq hS => ?_)
                              have hG : St D r (fP_X7_hours P T S u) (svQ Q n P) (svN n + 1) H := hG
                              have hw9 := hw9.kept (hq _ hw9.lt (fun h => by unfold inS at h; omega))
                              have hw10 := hw10.kept (hq _ hw10.lt (fun h => by unfold inS at h; omega))
                              have hw11 := hw11.kept (hq _ hw11.lt (fun h => by unfold inS at h; omega))
                              have hw12 := hw12.kept (hq _ hw12.lt (fun h => by unfold inS at h; omega))
                              clear hz hq
                              refine topN (n := nc P q) p3 ?_
                              have K344 : ∀ (H : Heap) (locs : List Loc) (ls : Array Slot) (hG : St D r (fP_X7_hours P T S u) (svQ Q n P) (svN n + 1) H) (hS : va_S (fun q => r ≤ q) s.heap H locs) (hw9 : IA D w9 3 X9 H) (hw10 : IA D w10 3 X10 H) (hw11 : IA D w11 3 X11 H) (hw12 : IA D w12 20 X12 H) (hl : lv_has ls 15 [(0, .ref r), (1, .int T), (2, .int S), (3, .int (nI u)), (4, .long (dgP P n)), (6, .int (nI zc)), (7, .int (nI k9)), (8, .int (nI h)), (9, .ref w9), (10, .ref w10), (11, .ref w11), (12, .ref w12), (13, .int (nI q)), (14, .int (nI a))]), W p l e (headSpec (wA yL_passes cL_passes 15 (some .boolean)) (rmX 10 320 2000)).room s m args below meth c H locs (98 + 13 * q + 13) (593 + 78 * q + 78) (MQ below (gQi (fun q => r ≤ q) 1 (fun H => ∃ (P9 : Nat → Int32) (Q9 : Nat → Nat → Int32) (n9 h9 : Nat), St D r P9 Q9 n9 H ∧ Iv h9 P9 ∧ ns P9 = ns P ∧ np P9 = np P)) args s 320 2000 (fun q => r ≤ q)) (F0 m 344 ls []) := by
                                intro H locs ls hG hS hw9 hw10 hw11 hw12 hl
                                refine lv_iinc (v := nI (q + 1)) (lv' := [(13, .int (nI (q + 1))), (0, .ref r), (1, .int T), (2, .int S), (3, .int (nI u)), (4, .long (dgP P n)), (6, .int (nI zc)), (7, .int (nI k9)), (8, .int (nI h)), (9, .ref w9), (10, .ref w10), (11, .ref w11), (12, .ref w12), (14, .int (nI a))]) hx hb dL_passes_344 hl (k := 12) rfl (nI_add q 1) (by decide) rfl (fun ls hl => ?_)
                                refine lv_goto (tgt := 233) hx hb dL_passes_347 (by decide) ?_
                                refine W.widen (k := 98 + 13 * (q + 1)) (n := 593 + 78 * (q + 1)) (by omega) (by omega) ?_
                                exact ih (q + 1) _ _ _ (by omega) hG hS hw9 hw10 hw11 hw12 (lv_sub hl [1, 2, 3, 4, 5, 6, 7, 8, 9, 10, 11, 12, 0] rfl)
                              refine lv_if_ne (tgt := 344) hx hb dL_passes_319 (by decide) (fun c319 => ?_) (fun c319 => ?_)
                              · have c319 : ¬ nc P q = 0 := fun hh9 => c319 ((nI_eq (a := nc P q) (b := 0) (by omega) (by omega)).mpr hh9)
                                refine W.widen (k := 98 + 13 * q + 13) (n := 593 + 78 * q + 78) (by omega) (by omega) ?_
                                exact K344  _ _ _  hG hS hw9 hw10 hw11 hw12 (lv_sub hl [1, 2, 3, 4, 5, 6, 7, 8, 9, 10, 11, 12, 13, 0] rfl)
                              · have c319 : nc P q = 0 := (nI_eq (a := nc P q) (b := 0) (by omega) (by omega)).mp c319
                                obtain ⟨pz1, pz2⟩ := pz (by omega)
                                refine lv_iload hx hb dL_passes_322 (lv_at hl 0 rfl) ?_
                                refine lv_if_gt (tgt := 342) hx hb dL_passes_324 (by decide) (fun c324 => ?_) (fun c324 => ?_)
                                · have c324 : 0 < a := (nI_ltI (a := 0) (b := a) (by omega) (by omega)).mp c324
                                  exact absurd c324 (by omega)
                                · have c324 : ¬ 0 < a := fun hh9 => c324 ((nI_ltI (a := 0) (b := a) (by omega) (by omega)).mpr hh9)
                                  refine lv_aload_n hx hb dL_passes_327 rfl (lv_at hl 1 rfl) ?_
                                  refine lv_iload hx hb dL_passes_328 (lv_at hl 13 rfl) ?_
                                  refine lv_iconst (v := 2) hx hb dL_passes_330 (by decide) ?_
                                  refine lwS (As := [.ref r, .int (nI q), .int 2]) (rest := []) hx hb hml hown hts hl.1 hK hKx (fun _ h => h) (c_L_plow l hl0 D r (fP_X7_hours P T S u) (svQ Q n P) (svN n + 1) ((fP_X7_hours P T S u) (169 + 20 * q + 2)) (nI q) 2 (fun C h => R_plow (q := q) (k := 2) h (by omega) rfl (by decide))) (gHS qM_L_100 qT_L_plow qK_L qC_L_plow) hds_L_plow ⟨(Nat.le_of_ble_eq_true rfl), (Nat.le_of_ble_eq_true rfl)⟩ hG rfl (Nat.le_of_ble_eq_true rfl) ⟨(by show 98 + 13 * q + 1 + 2 + 2 + 2 + 2 + 2 + 2 ≤ 320; omega), (by show 593 + 78 * q + 6 + 12 + 12 + 12 + 12 + 12 + 12 ≤ 2000; omega)⟩ dL_passes_331 hS hAr (fun H locs hG hz hq hS => ?_)
                                  have hG : St D r (fP_X7_hours P T S u) (svQ Q n P) (svN n + 1) H := hG
                                  have hw9 := hw9.kept (hq _ hw9.lt (fun h => by unfold inS at h; omega))
                                  have hw10 := hw10.kept (hq _ hw10.lt (fun h => by unfold inS at h; omega))
                                  have hw11 := hw11.kept (hq _ hw11.lt (fun h => by unfold inS at h; omega))
                                  have hw12 := hw12.kept (hq _ hw12.lt (fun h => by unfold inS at h; omega))
                                  clear hz hq
                                  refine topE (y := P (169 + 20 * q + 2)) pz2 ?_
                                  refine lv_aload hx hb dL_passes_334 (lv_at hl 11 rfl) ?_
                                  refine lv_iload hx hb dL_passes_336 (lv_at hl 13 rfl) ?_
                                  refine lwAl (k := q) hx hb hK hw11 (by omega) (by decide) dL_passes_338 ?_
                                  refine topE (y := P (169 + 20 * q + 2)) (hX q (by omega)).2.2 ?_
                                  refine lv_icmp_eq (tgt := 344) hx hb dL_passes_339 (by decide) (fun c339 => ?_) (fun c339 => ?_)
                                  · refine W.widen (k := 98 + 13 * q + 13) (n := 593 + 78 * q + 78) (by omega) (by omega) ?_
                                    exact K344  _ _ _  hG hS hw9 hw10 hw11 hw12 (lv_sub hl [1, 2, 3, 4, 5, 6, 7, 8, 9, 10, 11, 12, 13, 0] rfl)
                                  · exact absurd rfl c339
                refine W.widen (k := 98 + 13 * 0) (n := 593 + 78 * 0) (by omega) (by omega) ?_
                exact L233 (np P) 0 _ _ _ (by omega) hG hS hw9 hw10 hw11 hw12 (lv_sub hl [1, 2, 3, 4, 5, 6, 7, 8, 9, 10, 11, 12, 0] rfl)
              · have c225 : ¬ h + u = h + u := fun hh9 => c225 ((nI_eq (a := h + u) (b := h + u) (by omega) (by omega)).mpr hh9)
                exact absurd c225 (by omega)
        · have c159 : ¬ h + u ≤ 2000 := fun hh9 => c159 ((nI_leI (a := h + u) (b := 2000) (by omega) (by omega)).mpr hh9)
          refine lv_aload_n hx hb dL_passes_162 rfl (lv_at hl 0 rfl) ?_
          refine lv_iload_n hx hb dL_passes_163 rfl (lv_at hl 1 rfl) ?_
          refine lv_iload_n hx hb dL_passes_164 rfl (lv_at hl 2 rfl) ?_
          refine lv_iload_n hx hb dL_passes_165 rfl (lv_at hl 3 rfl) ?_
          refine lwS (As := [.ref r, .int T, .int S, .int (nI u)]) (rest := []) hx hb hml hown hts hl.1 hK hKx (fun _ h => h) (c_L_run l hl0 D r P Q n P Q n (-90200) T S (nI u) (fun C G hd => E_run_f hw (by omega) z0 (by omega) (by omega) hd)) (gHS qM_L_116 qT_L_run qK_L qC_L_run) hds_L_run ⟨(Nat.le_of_ble_eq_true rfl), (Nat.le_of_ble_eq_true rfl)⟩ hG rfl (Nat.le_of_ble_eq_true rfl) ⟨(by show 92 + 4 ≤ 320; omega), (by show 557 + 24 ≤ 2000; omega)⟩ dL_passes_166 hS hAr (fun H locs hG hz hq hS => ?_)
          have hG : St D r P Q n H := hG
          have hw9 := hw9.kept (hq _ hw9.lt (fun h => by unfold inS at h; omega))
          have hw10 := hw10.kept (hq _ hw10.lt (fun h => by unfold inS at h; omega))
          have hw11 := hw11.kept (hq _ hw11.lt (fun h => by unfold inS at h; omega))
          have hw12 := hw12.kept (hq _ hw12.lt (fun h => by unfold inS at h; omega))
          clear hz hq
          refine lv_ldc hx hb hown (hts _ qV_L_20) dL_passes_169 ?_
          refine lv_icmp_ne (tgt := 188) hx hb dL_passes_171 (by decide) (fun c171 => ?_) (fun c171 => ?_)
          · exact absurd c171 (by decide)
          · refine lv_aload_n hx hb dL_passes_174 rfl (lv_at hl 0 rfl) ?_
            obtain ⟨C, J, G, Y, X, U, Z, F, hN, hd, hf⟩ := hG
            refine gcVl (As := []) (rest := []) hx hb hml hown hts hl.1 hK (c_X6_digest l D r C J G n Y X U Z F hd.wf hd.1.okQ) (gaV qM_L_109 qI_X6_digest qS_X6_digest qK_X6 qC_X6_digest) hdv_X6_digest ⟨(Nat.le_of_ble_eq_true rfl), (Nat.le_of_ble_eq_true rfl)⟩ hN (Sn.recv hK hN) rfl (Nat.le_of_ble_eq_true rfl) ⟨(by show 92 + 4 ≤ 320; omega), (by show 557 + 24 ≤ 2000; omega)⟩ dL_passes_175 hS hAr (fun H locs hN hz hq hS => ?_)
            have hw9 := hw9.kept (hq _ hw9.lt (fun h => by unfold inS at h; omega))
            have hw10 := hw10.kept (hq _ hw10.lt (fun h => by unfold inS at h; omega))
            have hw11 := hw11.kept (hq _ hw11.lt (fun h => by unfold inS at h; omega))
            have hw12 := hw12.kept (hq _ hw12.lt (fun h => by unfold inS at h; omega))
            refine topLE (digest_c hd.1 hf) ?_
            have hG : St D r P Q n H := ⟨C, J, G, Y, X, U, Z, F, hN, hd, hf⟩
            clear hN hz hq
            refine lv_lload hx hb dL_passes_178 (lv_at hl 4 rfl) ?_
            refine W.lcmp hx hb dL_passes_180 ?_
            refine topE (y := 0) (lgc_self _) ?_
            refine lv_if_ne (tgt := 188) hx hb dL_passes_181 (by decide) (fun c181 => ?_) (fun c181 => ?_)
            · exact absurd c181 (by decide)
            · refine lv_iconst (v := 1) hx hb dL_passes_184 (by decide) ?_
              refine lv_goto (tgt := 189) hx hb dL_passes_185 (by decide) ?_
              refine W.widen (k := 320) (n := 2000) (by omega) (by omega) ?_
              exact W.zret hx hb hr rfl (fun t ht hW => gQi_of rfl ⟨_, _, _, _, hG, hI, rfl, rfl⟩ hS ht) hS.2.2 dL_passes_189
      · exact absurd c147 (by decide)
    have L111 : ∀ (k : Nat) (j : Nat) (X12 : Nat → Int32) (H : Heap) (locs : List Loc) (ls : Array Slot) (hj0 : j + k = ns P) (hY : ∀ i, i < j → X12 i = P (9 + 8 * i + 6)) (hG : St D r P Q n H) (hS : va_S (fun q => r ≤ q) s.heap H locs) (hw9 : IA D w9 3 X9 H) (hw10 : IA D w10 3 X10 H) (hw11 : IA D w11 3 X11 H) (hw12 : IA D w12 20 X12 H) (hl : lv_has ls 15 [(0, .ref r), (1, .int T), (2, .int S), (3, .int (nI u)), (4, .long (dgP P n)), (6, .int (nI zc)), (7, .int (nI k9)), (8, .int (nI h)), (9, .ref w9), (10, .ref w10), (11, .ref w11), (12, .ref w12), (13, .int (nI j))]), W p l e (headSpec (wA yL_passes cL_passes 15 (some .boolean)) (rmX 10 320 2000)).room s m args below meth c H locs (31 + 3 * j) (191 + 18 * j) (MQ below (gQi (fun q => r ≤ q) 1 (fun H => ∃ (P9 : Nat → Int32) (Q9 : Nat → Nat → Int32) (n9 h9 : Nat), St D r P9 Q9 n9 H ∧ Iv h9 P9 ∧ ns P9 = ns P ∧ np P9 = np P)) args s 320 2000 (fun q => r ≤ q)) (F0 m 111 ls []) := by
      intro k
      induction k with
      | zero =>
        intro j X12 H locs ls hj0 hY hG hS hw9 hw10 hw11 hw12 hl
        refine lv_iload hx hb dL_passes_111 (lv_at hl 12 rfl) ?_
        refine lv_aload_n hx hb dL_passes_113 rfl (lv_at hl 0 rfl) ?_
        refine lv_iconst (v := 1) hx hb dL_passes_114 (by decide) ?_
        refine lwS (As := [.ref r, .int 1]) (rest := [.int (nI j)]) hx hb hml hown hts hl.1 hK hKx (fun _ h => h) (c_L_value l hl0 D r P Q n (P 1) 1 (fun C h => (R_value (k := 1) h rfl (by decide)).trans rfl)) (gHS qM_L_88 qT_L_value qK_L qC_L_value) hds_L_value ⟨(Nat.le_of_ble_eq_true rfl), (Nat.le_of_ble_eq_true rfl)⟩ hG rfl (Nat.le_of_ble_eq_true rfl) ⟨(by show 31 + 3 * j + 1 ≤ 320; omega), (by show 191 + 18 * j + 6 ≤ 2000; omega)⟩ dL_passes_115 hS hAr (fun H locs hG hz hq hS => ?_)
        have hG : St D r P Q n H := hG
        have hw9 := hw9.kept (hq _ hw9.lt (fun h => by unfold inS at h; omega))
        have hw10 := hw10.kept (hq _ hw10.lt (fun h => by unfold inS at h; omega))
        have hw11 := hw11.kept (hq _ hw11.lt (fun h => by unfold inS at h; omega))
        have hw12 := hw12.kept (hq _ hw12.lt (fun h => by unfold inS at h; omega))
        clear hz hq
        refine topN (n := ns P) hN1 ?_
        refine lv_icmp_ge (tgt := 140) hx hb dL_passes_118 (by decide) (fun c118 => ?_) (fun c118 => ?_)
        · have c118 : ns P ≤ j := (nI_leI (a := ns P) (b := j) (by omega) (by omega)).mp c118
          obtain rfl : j = ns P := by omega
          refine W.widen (k := 92) (n := 557) (by omega) (by omega) ?_
          exact K140 _ _ _ _ hY hG hS hw9 hw10 hw11 hw12 (lv_sub hl [0, 1, 2, 3, 4, 5, 6, 7, 8, 9, 10, 11] rfl)
        · have c118 : ¬ ns P ≤ j := fun hh9 => c118 ((nI_leI (a := ns P) (b := j) (by omega) (by omega)).mpr hh9)
          exact absurd c118 (by omega)
      | succ k ih =>
        intro j X12 H locs ls hj0 hY hG hS hw9 hw10 hw11 hw12 hl
        refine lv_iload hx hb dL_passes_111 (lv_at hl 12 rfl) ?_
        refine lv_aload_n hx hb dL_passes_113 rfl (lv_at hl 0 rfl) ?_
        refine lv_iconst (v := 1) hx hb dL_passes_114 (by decide) ?_
        refine lwS (As := [.ref r, .int 1]) (rest := [.int (nI j)]) hx hb hml hown hts hl.1 hK hKx (fun _ h => h) (c_L_value l hl0 D r P Q n (P 1) 1 (fun C h => (R_value (k := 1) h rfl (by decide)).trans rfl)) (gHS qM_L_88 qT_L_value qK_L qC_L_value) hds_L_value ⟨(Nat.le_of_ble_eq_true rfl), (Nat.le_of_ble_eq_true rfl)⟩ hG rfl (Nat.le_of_ble_eq_true rfl) ⟨(by show 31 + 3 * j + 1 ≤ 320; omega), (by show 191 + 18 * j + 6 ≤ 2000; omega)⟩ dL_passes_115 hS hAr (fun H locs hG hz hq hS => ?_)
        have hG : St D r P Q n H := hG
        have hw9 := hw9.kept (hq _ hw9.lt (fun h => by unfold inS at h; omega))
        have hw10 := hw10.kept (hq _ hw10.lt (fun h => by unfold inS at h; omega))
        have hw11 := hw11.kept (hq _ hw11.lt (fun h => by unfold inS at h; omega))
        have hw12 := hw12.kept (hq _ hw12.lt (fun h => by unfold inS at h; omega))
        clear hz hq
        refine topN (n := ns P) hN1 ?_
        refine lv_icmp_ge (tgt := 140) hx hb dL_passes_118 (by decide) (fun c118 => ?_) (fun c118 => ?_)
        · have c118 : ns P ≤ j := (nI_leI (a := ns P) (b := j) (by omega) (by omega)).mp c118
          exact absurd c118 (by omega)
        · have c118 : ¬ ns P ≤ j := fun hh9 => c118 ((nI_leI (a := ns P) (b := j) (by omega) (by omega)).mpr hh9)
          refine lv_aload hx hb dL_passes_121 (lv_at hl 11 rfl) ?_
          refine lv_iload hx hb dL_passes_123 (lv_at hl 12 rfl) ?_
          refine lv_aload_n hx hb dL_passes_125 rfl (lv_at hl 0 rfl) ?_
          refine lv_iload hx hb dL_passes_126 (lv_at hl 12 rfl) ?_
          refine lv_bipush (v := 7) hx hb dL_passes_128 (by decide) ?_
          refine lwS (As := [.ref r, .int (nI j), .int 7]) (rest := [.int (nI j), .ref w12]) hx hb hml hown hts hl.1 hK hKx (fun _ h => h) (c_L_street l hl0 D r P Q n (P (9 + 8 * j + 6)) (nI j) 7 (fun C h => (R_street (i := j) (k := 7) h (by omega) rfl (by decide)).trans rfl)) (gHS qM_L_95 qT_L_street qK_L qC_L_street) hds_L_street ⟨(Nat.le_of_ble_eq_true rfl), (Nat.le_of_ble_eq_true rfl)⟩ hG rfl (Nat.le_of_ble_eq_true rfl) ⟨(by show 31 + 3 * j + 1 + 2 ≤ 320; omega), (by show 191 + 18 * j + 6 + 12 ≤ 2000; omega)⟩ dL_passes_130 hS hAr (fun H locs hG hz hq hS => ?_)
          have hG : St D r P Q n H := hG
          have hw9 := hw9.kept (hq _ hw9.lt (fun h => by unfold inS at h; omega))
          have hw10 := hw10.kept (hq _ hw10.lt (fun h => by unfold inS at h; omega))
          have hw11 := hw11.kept (hq _ hw11.lt (fun h => by unfold inS at h; omega))
          have hw12 := hw12.kept (hq _ hw12.lt (fun h => by unfold inS at h; omega))
          clear hz hq
          refine lwAs (k := j) hx hb hK hw12 hS (show r ≤ w12 by omega) (by omega) (by decide) dL_passes_133 (fun H locs hw12 hq1 hS => ?_)
          have hG : St D r P Q n H := St.keptI hG hq1 hw12w
          have hw9 := hw9.kept (hq1 _ (by omega))
          have hw10 := hw10.kept (hq1 _ (by omega))
          have hw11 := hw11.kept (hq1 _ (by omega))
          refine lv_iinc (v := nI (j + 1)) (lv' := [(13, .int (nI (j + 1))), (0, .ref r), (1, .int T), (2, .int S), (3, .int (nI u)), (4, .long (dgP P n)), (6, .int (nI zc)), (7, .int (nI k9)), (8, .int (nI h)), (9, .ref w9), (10, .ref w10), (11, .ref w11), (12, .ref w12)]) hx hb dL_passes_134 hl (k := 12) rfl (nI_add j 1) (by decide) rfl (fun ls hl => ?_)
          refine lv_goto (tgt := 111) hx hb dL_passes_137 (by decide) ?_
          refine W.widen (k := 31 + 3 * (j + 1)) (n := 191 + 18 * (j + 1)) (by omega) (by omega) ?_
          exact ih (j + 1) _ _ _ _ (by omega) (X1_step hY) hG hS hw9 hw10 hw11 hw12 (lv_sub hl [1, 2, 3, 4, 5, 6, 7, 8, 9, 10, 11, 12, 0] rfl)
    refine W.widen (k := 31 + 3 * 0) (n := 191 + 18 * 0) (by omega) (by omega) ?_
    exact L111 (ns P) 0 _ _ _ _ (by omega) (fun p hp => absurd hp (by omega)) hG hS hw9 hw10 hw11 hw12 (lv_sub hl [1, 2, 3, 4, 5, 6, 7, 8, 9, 10, 11, 12, 0] rfl)
  have L54 : ∀ (k : Nat) (q : Nat) (X9 : Nat → Int32) (X10 : Nat → Int32) (X11 : Nat → Int32) (H : Heap) (locs : List Loc) (ls : Array Slot) (hq0 : q + k = np P) (hX : ∀ p, p < q → X9 p = P (169 + 20 * p + 7) ∧ X10 p = P (169 + 20 * p + 6) ∧ X11 p = P (169 + 20 * p + 2)) (hG : St D r P Q n H) (hS : va_S (fun q => r ≤ q) s.heap H locs) (hw9 : IA D w9 3 X9 H) (hw10 : IA D w10 3 X10 H) (hw11 : IA D w11 3 X11 H) (hw12 : IA D w12 20 (fun _ => 0) H) (hl : lv_has ls 15 [(0, .ref r), (1, .int T), (2, .int S), (3, .int (nI u)), (4, .long (dgP P n)), (6, .int (nI zc)), (7, .int (nI k9)), (8, .int (nI h)), (9, .ref w9), (10, .ref w10), (11, .ref w11), (12, .ref w12), (13, .int (nI q))]), W p l e (headSpec (wA yL_passes cL_passes 15 (some .boolean)) (rmX 10 320 2000)).room s m args below meth c H locs (9 + 7 * q) (59 + 42 * q) (MQ below (gQi (fun q => r ≤ q) 1 (fun H => ∃ (P9 : Nat → Int32) (Q9 : Nat → Nat → Int32) (n9 h9 : Nat), St D r P9 Q9 n9 H ∧ Iv h9 P9 ∧ ns P9 = ns P ∧ np P9 = np P)) args s 320 2000 (fun q => r ≤ q)) (F0 m 54 ls []) := by
    intro k
    induction k with
    | zero =>
      intro q X9 X10 X11 H locs ls hq0 hX hG hS hw9 hw10 hw11 hw12 hl
      refine lv_iload hx hb dL_passes_54 (lv_at hl 12 rfl) ?_
      refine lv_aload_n hx hb dL_passes_56 rfl (lv_at hl 0 rfl) ?_
      refine lv_iconst (v := 2) hx hb dL_passes_57 (by decide) ?_
      refine lwS (As := [.ref r, .int 2]) (rest := [.int (nI q)]) hx hb hml hown hts hl.1 hK hKx (fun _ h => h) (c_L_value l hl0 D r P Q n (P 2) 2 (fun C h => (R_value (k := 2) h rfl (by decide)).trans rfl)) (gHS qM_L_88 qT_L_value qK_L qC_L_value) hds_L_value ⟨(Nat.le_of_ble_eq_true rfl), (Nat.le_of_ble_eq_true rfl)⟩ hG rfl (Nat.le_of_ble_eq_true rfl) ⟨(by show 9 + 7 * q + 1 ≤ 320; omega), (by show 59 + 42 * q + 6 ≤ 2000; omega)⟩ dL_passes_58 hS hAr (fun H locs hG hz hq hS => ?_)
      have hG : St D r P Q n H := hG
      have hw9 := hw9.kept (hq _ hw9.lt (fun h => by unfold inS at h; omega))
      have hw10 := hw10.kept (hq _ hw10.lt (fun h => by unfold inS at h; omega))
      have hw11 := hw11.kept (hq _ hw11.lt (fun h => by unfold inS at h; omega))
      have hw12 := hw12.kept (hq _ hw12.lt (fun h => by unfold inS at h; omega))
      clear hz hq
      refine topN (n := np P) hN2 ?_
      refine lv_icmp_ge (tgt := 108) hx hb dL_passes_61 (by decide) (fun c61 => ?_) (fun c61 => ?_)
      · have c61 : np P ≤ q := (nI_leI (a := np P) (b := q) (by omega) (by omega)).mp c61
        obtain rfl : q = np P := by omega
        refine W.widen (k := 31) (n := 191) (by omega) (by omega) ?_
        exact K108 _ _ _ _ _ _ hX hG hS hw9 hw10 hw11 hw12 (lv_sub hl [0, 1, 2, 3, 4, 5, 6, 7, 8, 9, 10, 11] rfl)
      · have c61 : ¬ np P ≤ q := fun hh9 => c61 ((nI_leI (a := np P) (b := q) (by omega) (by omega)).mpr hh9)
        exact absurd c61 (by omega)
    | succ k ih =>
      intro q X9 X10 X11 H locs ls hq0 hX hG hS hw9 hw10 hw11 hw12 hl
      refine lv_iload hx hb dL_passes_54 (lv_at hl 12 rfl) ?_
      refine lv_aload_n hx hb dL_passes_56 rfl (lv_at hl 0 rfl) ?_
      refine lv_iconst (v := 2) hx hb dL_passes_57 (by decide) ?_
      refine lwS (As := [.ref r, .int 2]) (rest := [.int (nI q)]) hx hb hml hown hts hl.1 hK hKx (fun _ h => h) (c_L_value l hl0 D r P Q n (P 2) 2 (fun C h => (R_value (k := 2) h rfl (by decide)).trans rfl)) (gHS qM_L_88 qT_L_value qK_L qC_L_value) hds_L_value ⟨(Nat.le_of_ble_eq_true rfl), (Nat.le_of_ble_eq_true rfl)⟩ hG rfl (Nat.le_of_ble_eq_true rfl) ⟨(by show 9 + 7 * q + 1 ≤ 320; omega), (by show 59 + 42 * q + 6 ≤ 2000; omega)⟩ dL_passes_58 hS hAr (fun H locs hG hz hq hS => ?_)
      have hG : St D r P Q n H := hG
      have hw9 := hw9.kept (hq _ hw9.lt (fun h => by unfold inS at h; omega))
      have hw10 := hw10.kept (hq _ hw10.lt (fun h => by unfold inS at h; omega))
      have hw11 := hw11.kept (hq _ hw11.lt (fun h => by unfold inS at h; omega))
      have hw12 := hw12.kept (hq _ hw12.lt (fun h => by unfold inS at h; omega))
      clear hz hq
      refine topN (n := np P) hN2 ?_
      refine lv_icmp_ge (tgt := 108) hx hb dL_passes_61 (by decide) (fun c61 => ?_) (fun c61 => ?_)
      · have c61 : np P ≤ q := (nI_leI (a := np P) (b := q) (by omega) (by omega)).mp c61
        exact absurd c61 (by omega)
      · have c61 : ¬ np P ≤ q := fun hh9 => c61 ((nI_leI (a := np P) (b := q) (by omega) (by omega)).mpr hh9)
        refine lv_aload hx hb dL_passes_64 (lv_at hl 8 rfl) ?_
        refine lv_iload hx hb dL_passes_66 (lv_at hl 12 rfl) ?_
        refine lv_aload_n hx hb dL_passes_68 rfl (lv_at hl 0 rfl) ?_
        refine lv_iload hx hb dL_passes_69 (lv_at hl 12 rfl) ?_
        refine lv_bipush (v := 7) hx hb dL_passes_71 (by decide) ?_
        refine lwS (As := [.ref r, .int (nI q), .int 7]) (rest := [.int (nI q), .ref w9]) hx hb hml hown hts hl.1 hK hKx (fun _ h => h) (c_L_plow l hl0 D r P Q n (P (169 + 20 * q + 7)) (nI q) 7 (fun C h => R_plow (q := q) (k := 7) h (by omega) rfl (by decide))) (gHS qM_L_100 qT_L_plow qK_L qC_L_plow) hds_L_plow ⟨(Nat.le_of_ble_eq_true rfl), (Nat.le_of_ble_eq_true rfl)⟩ hG rfl (Nat.le_of_ble_eq_true rfl) ⟨(by show 9 + 7 * q + 1 + 2 ≤ 320; omega), (by show 59 + 42 * q + 6 + 12 ≤ 2000; omega)⟩ dL_passes_73 hS hAr (fun H locs hG hz hq hS => ?_)
        have hG : St D r P Q n H := hG
        have hw9 := hw9.kept (hq _ hw9.lt (fun h => by unfold inS at h; omega))
        have hw10 := hw10.kept (hq _ hw10.lt (fun h => by unfold inS at h; omega))
        have hw11 := hw11.kept (hq _ hw11.lt (fun h => by unfold inS at h; omega))
        have hw12 := hw12.kept (hq _ hw12.lt (fun h => by unfold inS at h; omega))
        clear hz hq
        refine lwAs (k := q) hx hb hK hw9 hS (show r ≤ w9 by omega) (by omega) (by decide) dL_passes_76 (fun H locs hw9 hq1 hS => ?_)
        have hG : St D r P Q n H := St.keptI hG hq1 hw9w
        have hw10 := hw10.kept (hq1 _ (by omega))
        have hw11 := hw11.kept (hq1 _ (by omega))
        have hw12 := hw12.kept (hq1 _ (by omega))
        refine lv_aload hx hb dL_passes_77 (lv_at hl 9 rfl) ?_
        refine lv_iload hx hb dL_passes_79 (lv_at hl 12 rfl) ?_
        refine lv_aload_n hx hb dL_passes_81 rfl (lv_at hl 0 rfl) ?_
        refine lv_iload hx hb dL_passes_82 (lv_at hl 12 rfl) ?_
        refine lv_bipush (v := 6) hx hb dL_passes_84 (by decide) ?_
        refine lwS (As := [.ref r, .int (nI q), .int 6]) (rest := [.int (nI q), .ref w10]) hx hb hml hown hts hl.1 hK hKx (fun _ h => h) (c_L_plow l hl0 D r P Q n (P (169 + 20 * q + 6)) (nI q) 6 (fun C h => R_plow (q := q) (k := 6) h (by omega) rfl (by decide))) (gHS qM_L_100 qT_L_plow qK_L qC_L_plow) hds_L_plow ⟨(Nat.le_of_ble_eq_true rfl), (Nat.le_of_ble_eq_true rfl)⟩ hG rfl (Nat.le_of_ble_eq_true rfl) ⟨(by show 9 + 7 * q + 1 + 2 + 2 ≤ 320; omega), (by show 59 + 42 * q + 6 + 12 + 12 ≤ 2000; omega)⟩ dL_passes_86 hS hAr (fun H locs hG hz hq hS => ?_)
        have hG : St D r P Q n H := hG
        have hw9 := hw9.kept (hq _ hw9.lt (fun h => by unfold inS at h; omega))
        have hw10 := hw10.kept (hq _ hw10.lt (fun h => by unfold inS at h; omega))
        have hw11 := hw11.kept (hq _ hw11.lt (fun h => by unfold inS at h; omega))
        have hw12 := hw12.kept (hq _ hw12.lt (fun h => by unfold inS at h; omega))
        clear hz hq
        refine lwAs (k := q) hx hb hK hw10 hS (show r ≤ w10 by omega) (by omega) (by decide) dL_passes_89 (fun H locs hw10 hq1 hS => ?_)
        have hG : St D r P Q n H := St.keptI hG hq1 hw10w
        have hw9 := hw9.kept (hq1 _ (by omega))
        have hw11 := hw11.kept (hq1 _ (by omega))
        have hw12 := hw12.kept (hq1 _ (by omega))
        refine lv_aload hx hb dL_passes_90 (lv_at hl 10 rfl) ?_
        refine lv_iload hx hb dL_passes_92 (lv_at hl 12 rfl) ?_
        refine lv_aload_n hx hb dL_passes_94 rfl (lv_at hl 0 rfl) ?_
        refine lv_iload hx hb dL_passes_95 (lv_at hl 12 rfl) ?_
        refine lv_iconst (v := 2) hx hb dL_passes_97 (by decide) ?_
        refine lwS (As := [.ref r, .int (nI q), .int 2]) (rest := [.int (nI q), .ref w11]) hx hb hml hown hts hl.1 hK hKx (fun _ h => h) (c_L_plow l hl0 D r P Q n (P (169 + 20 * q + 2)) (nI q) 2 (fun C h => R_plow (q := q) (k := 2) h (by omega) rfl (by decide))) (gHS qM_L_100 qT_L_plow qK_L qC_L_plow) hds_L_plow ⟨(Nat.le_of_ble_eq_true rfl), (Nat.le_of_ble_eq_true rfl)⟩ hG rfl (Nat.le_of_ble_eq_true rfl) ⟨(by show 9 + 7 * q + 1 + 2 + 2 + 2 ≤ 320; omega), (by show 59 + 42 * q + 6 + 12 + 12 + 12 ≤ 2000; omega)⟩ dL_passes_98 hS hAr (fun H locs hG hz hq hS => ?_)
        have hG : St D r P Q n H := hG
        have hw9 := hw9.kept (hq _ hw9.lt (fun h => by unfold inS at h; omega))
        have hw10 := hw10.kept (hq _ hw10.lt (fun h => by unfold inS at h; omega))
        have hw11 := hw11.kept (hq _ hw11.lt (fun h => by unfold inS at h; omega))
        have hw12 := hw12.kept (hq _ hw12.lt (fun h => by unfold inS at h; omega))
        clear hz hq
        refine lwAs (k := q) hx hb hK hw11 hS (show r ≤ w11 by omega) (by omega) (by decide) dL_passes_101 (fun H locs hw11 hq1 hS => ?_)
        have hG : St D r P Q n H := St.keptI hG hq1 hw11w
        have hw9 := hw9.kept (hq1 _ (by omega))
        have hw10 := hw10.kept (hq1 _ (by omega))
        have hw12 := hw12.kept (hq1 _ (by omega))
        refine lv_iinc (v := nI (q + 1)) (lv' := [(13, .int (nI (q + 1))), (0, .ref r), (1, .int T), (2, .int S), (3, .int (nI u)), (4, .long (dgP P n)), (6, .int (nI zc)), (7, .int (nI k9)), (8, .int (nI h)), (9, .ref w9), (10, .ref w10), (11, .ref w11), (12, .ref w12)]) hx hb dL_passes_102 hl (k := 12) rfl (nI_add q 1) (by decide) rfl (fun ls hl => ?_)
        refine lv_goto (tgt := 54) hx hb dL_passes_105 (by decide) ?_
        refine W.widen (k := 9 + 7 * (q + 1)) (n := 59 + 42 * (q + 1)) (by omega) (by omega) ?_
        exact ih (q + 1) _ _ _ _ _ _ (by omega) (X3_step hX) hG hS hw9 hw10 hw11 hw12 (lv_sub hl [1, 2, 3, 4, 5, 6, 7, 8, 9, 10, 11, 12, 0] rfl)
  refine W.widen (k := 9 + 7 * 0) (n := 59 + 42 * 0) (by omega) (by omega) ?_
  exact L54 (np P) 0 _ _ _ _ _ _ (by omega) (fun p hp => absurd hp (by omega)) hG hS hw9 hw10 hw11 hw12 (lv_sub hl [9, 10, 11, 12, 8, 7, 6, 5, 4, 3, 2, 1, 0] rfl)
