/-! One turn of the law's loop, the loop, and what stands before it. -/
set_option maxHeartbeats 4000000 in
set_option maxRecDepth 100000 in
theorem law_disp {p : Program} {l : Launch} {e : Env} {s : State} {m : MethodId} {args : Array Value} {below : List Frame} {meth : Method} {c : Code} {Qz : State → Prop} {D : va_G} {b L r : Nat} {xs : Nat → Int32} {P : Nat → Int32} {Q : Nat → Nat → Int32} {n h i q how : Nat} {y : Int32} {c0 s0 : Nat} (hl0 : l.stackTraces = false) (hx : p.tables.exec = Jvm.exec) (hb : c.code = cL_law) (hml : c.maxLocals = 15) (hown : s.vm.findClass RL = some m.cls) (hts : ∀ w ∈ AW, w.before args s = true) (hK : Kn D s) (hKx : Kx r s) (hX : va_X b L xs s s.heap) (hbl : b < r) (hsz0 : s.heap.size = r) (hL0 : L ≤ 260) (hI : Iv h P) (hc0 : c0 ≤ 600000) (hs0 : s0 ≤ 7000000) (hhow : how < 14) (hh1 : how = 0 ∨ 1 ≤ ns P) (hq2 : np P = 0 ∨ q < np P) (kk : ∀ (P1 : Nat → Int32) (Q1 : Nat → Nat → Int32) (n1 h1 : Nat) (H : Heap) (locs : List Loc) (ls : Array Slot), Iv h1 P1 → 1 ≤ ns P1 → St D r P1 Q1 n1 H → va_S (fun q => r ≤ q) s.heap H locs → lv_has ls 15 [(0, .ref b), (1, .ref r), (2, .int (nI i)), (4, .int y)] → W p l e room_1 s m args below meth c H locs (c0 + 360) (s0 + 2160) Qz (F0 m 1058 ls [])) (H : Heap) (locs : List Loc) (ls : Array Slot) (hG : St D r P Q n H) (hS : va_S (fun q => r ≤ q) s.heap H locs) (hl : lv_has ls 15 [(0, .ref b), (1, .ref r), (2, .int (nI i)), (4, .int y), (5, .int (nI (ns P))), (6, .int (nI (np P))), (8, .int (nI q)), (7, .int (nI how))]) : W p l e room_1 s m args below meth c H locs (c0) (s0) Qz (F0 m 153 ls []) := by
  have hAr : ∀ q, inS r q → r ≤ q := fun q h => h.1
  obtain ⟨z0, z00, z1, z2, hN1, hN2, z5, z7, ⟨S9, S91, z3⟩, k9, k91, z6⟩ := snd_rest hI
  have hq99 : q < 100 ∨ 100 ≤ q := Nat.lt_or_ge q 100
  refine lv_iload hx hb dL_law_153 (lv_at hl 7 rfl) ?_
  refine lv_if_ne (tgt := 269) hx hb dL_law_155 (by decide) (fun c155 => ?_) (fun c155 => ?_)
  · have c155 : ¬ how = 0 := fun hh9 => c155 ((nI_eq (a := how) (b := 0) (by omega) (by omega)).mpr hh9)
    refine lv_iload hx hb dL_law_269 (lv_at hl 7 rfl) ?_
    refine lv_iconst (v := 1) hx hb dL_law_271 (by decide) ?_
    refine topN (n := 1) rfl ?_
    refine lv_icmp_ne (tgt := 384) hx hb dL_law_272 (by decide) (fun c272 => ?_) (fun c272 => ?_)
    · have c272 : ¬ how = 1 := fun hh9 => c272 ((nI_eq (a := how) (b := 1) (by omega) (by omega)).mpr hh9)
      have K747 : ∀ (H : Heap) (locs : List Loc) (ls : Array Slot) (hG : St D r P Q n H) (hS : va_S (fun q => r ≤ q) s.heap H locs) (hl : lv_has ls 15 [(0, .ref b), (1, .ref r), (2, .int (nI i)), (4, .int y), (5, .int (nI (ns P))), (6, .int (nI (np P))), (7, .int (nI how)), (8, .int (nI q))]), W p l e room_1 s m args below meth c H locs (c0) (s0) (Qz) (F0 m 747 ls []) := by
        intro H locs ls hG hS hl
        refine lv_iload hx hb dL_law_747 (lv_at hl 6 rfl) ?_
        refine lv_bipush (v := 6) hx hb dL_law_749 (by decide) ?_
        refine topN (n := 6) rfl ?_
        refine lv_icmp_ne (tgt := 878) hx hb dL_law_751 (by decide) (fun c751 => ?_) (fun c751 => ?_)
        · have c751 : ¬ how = 6 := fun hh9 => c751 ((nI_eq (a := how) (b := 6) (by omega) (by omega)).mpr hh9)
          refine lv_iload hx hb dL_law_878 (lv_at hl 6 rfl) ?_
          refine lv_bipush (v := 7) hx hb dL_law_880 (by decide) ?_
          refine topN (n := 7) rfl ?_
          refine lv_icmp_ne (tgt := 928) hx hb dL_law_882 (by decide) (fun c882 => ?_) (fun c882 => ?_)
          · have c882 : ¬ how = 7 := fun hh9 => c882 ((nI_eq (a := how) (b := 7) (by omega) (by omega)).mpr hh9)
            refine lv_iload hx hb dL_law_928 (lv_at hl 6 rfl) ?_
            refine lv_bipush (v := 8) hx hb dL_law_930 (by decide) ?_
            refine topN (n := 8) rfl ?_
            refine lv_icmp_ne (tgt := 986) hx hb dL_law_932 (by decide) (fun c932 => ?_) (fun c932 => ?_)
            · have c932 : ¬ how = 8 := fun hh9 => c932 ((nI_eq (a := how) (b := 8) (by omega) (by omega)).mpr hh9)
              exact law_c8 hl0 hx hb hml hown hts hK hKx hX hbl hsz0 hL0 hI hc0 hs0 (by omega) kk  _ _ _  hG hS (lv_sub hl [0, 1, 2, 3] rfl)
            · have c932 : how = 8 := (nI_eq (a := how) (b := 8) (by omega) (by omega)).mp c932
              exact law_c7 hl0 hx hb hml hown hts hK hKx hX hbl hsz0 hL0 hI hc0 hs0 (by omega) kk  _ _ _  hG hS (lv_sub hl [0, 1, 2, 3] rfl)
          · have c882 : how = 7 := (nI_eq (a := how) (b := 7) (by omega) (by omega)).mp c882
            exact law_c6 hl0 hx hb hml hown hts hK hKx hX hbl hsz0 hL0 hI hc0 hs0 (by omega) kk  _ _ _  hG hS (lv_sub hl [0, 1, 2, 3] rfl)
        · have c751 : how = 6 := (nI_eq (a := how) (b := 6) (by omega) (by omega)).mp c751
          exact law_c5 hl0 hx hb hml hown hts hK hKx hX hbl hsz0 hL0 hI hc0 hs0 (by omega) kk  _ _ _  hG hS (lv_sub hl [0, 1, 2, 3] rfl)
      have K574 : ∀ (H : Heap) (locs : List Loc) (ls : Array Slot) (hG : St D r P Q n H) (hS : va_S (fun q => r ≤ q) s.heap H locs) (hl : lv_has ls 15 [(0, .ref b), (1, .ref r), (2, .int (nI i)), (4, .int y), (5, .int (nI (ns P))), (6, .int (nI (np P))), (7, .int (nI how)), (8, .int (nI q))]), W p l e room_1 s m args below meth c H locs (c0) (s0) (Qz) (F0 m 574 ls []) := by
        intro H locs ls hG hS hl
        refine lv_iload hx hb dL_law_574 (lv_at hl 6 rfl) ?_
        refine lv_iconst (v := 5) hx hb dL_law_576 (by decide) ?_
        refine topN (n := 5) rfl ?_
        refine lv_icmp_ne (tgt := 747) hx hb dL_law_577 (by decide) (fun c577 => ?_) (fun c577 => ?_)
        · have c577 : ¬ how = 5 := fun hh9 => c577 ((nI_eq (a := how) (b := 5) (by omega) (by omega)).mpr hh9)
          exact K747  _ _ _  hG hS (lv_sub hl [0, 1, 2, 3, 4, 5, 6, 7] rfl)
        · have c577 : how = 5 := (nI_eq (a := how) (b := 5) (by omega) (by omega)).mp c577
          refine lv_iload hx hb dL_law_580 (lv_at hl 5 rfl) ?_
          refine lv_if_le (tgt := 747) hx hb dL_law_582 (by decide) (fun c582 => ?_) (fun c582 => ?_)
          · have c582 : np P ≤ 0 := (nI_leI (a := np P) (b := 0) (by omega) (by omega)).mp c582
            exact K747  _ _ _  hG hS (lv_sub hl [0, 1, 2, 3, 4, 5, 6, 7] rfl)
          · have c582 : ¬ np P ≤ 0 := fun hh9 => c582 ((nI_leI (a := np P) (b := 0) (by omega) (by omega)).mpr hh9)
            exact law_c4 hl0 hx hb hml hown hts hK hKx hX hbl hsz0 hL0 hI hc0 hs0 (by omega) (by omega) kk  _ _ _  hG hS (lv_sub hl [0, 1, 2, 3, 4, 5, 7] rfl)
      have K499 : ∀ (H : Heap) (locs : List Loc) (ls : Array Slot) (hG : St D r P Q n H) (hS : va_S (fun q => r ≤ q) s.heap H locs) (hl : lv_has ls 15 [(0, .ref b), (1, .ref r), (2, .int (nI i)), (4, .int y), (5, .int (nI (ns P))), (6, .int (nI (np P))), (7, .int (nI how)), (8, .int (nI q))]), W p l e room_1 s m args below meth c H locs (c0) (s0) (Qz) (F0 m 499 ls []) := by
        intro H locs ls hG hS hl
        refine lv_iload hx hb dL_law_499 (lv_at hl 6 rfl) ?_
        refine lv_iconst (v := 4) hx hb dL_law_501 (by decide) ?_
        refine topN (n := 4) rfl ?_
        refine lv_icmp_ne (tgt := 574) hx hb dL_law_502 (by decide) (fun c502 => ?_) (fun c502 => ?_)
        · have c502 : ¬ how = 4 := fun hh9 => c502 ((nI_eq (a := how) (b := 4) (by omega) (by omega)).mpr hh9)
          exact K574  _ _ _  hG hS (lv_sub hl [0, 1, 2, 3, 4, 5, 6, 7] rfl)
        · have c502 : how = 4 := (nI_eq (a := how) (b := 4) (by omega) (by omega)).mp c502
          refine lv_iload hx hb dL_law_505 (lv_at hl 5 rfl) ?_
          refine lv_if_le (tgt := 574) hx hb dL_law_507 (by decide) (fun c507 => ?_) (fun c507 => ?_)
          · have c507 : np P ≤ 0 := (nI_leI (a := np P) (b := 0) (by omega) (by omega)).mp c507
            exact K574  _ _ _  hG hS (lv_sub hl [0, 1, 2, 3, 4, 5, 6, 7] rfl)
          · have c507 : ¬ np P ≤ 0 := fun hh9 => c507 ((nI_leI (a := np P) (b := 0) (by omega) (by omega)).mpr hh9)
            refine lv_iload hx hb dL_law_510 (lv_at hl 3 rfl) ?_
            refine lv_iconst (v := 4) hx hb dL_law_512 (by decide) ?_
            refine topN (n := 4) rfl ?_
            obtain ⟨z4, ezz4, hz41⟩ : ∃ z, lowN y 4 = z ∧ z < 4 := ⟨_, rfl, lowN_lt (by decide)⟩
            refine gcSi (As := [.int y, .int (nI 4)]) (rest := []) hx hb hml hown hts hl.1 hK (c_L_low l D (fun H => St D r P Q n H) y 4 (by decide) (by decide)) (gaS qM_L_121 qT_L_low qK_L qC_L_low) hds_L_low ⟨(Nat.le_of_ble_eq_true rfl), (Nat.le_of_ble_eq_true rfl)⟩ hG rfl (Nat.le_of_ble_eq_true rfl) ⟨(by show c0 ≤ 661124; omega), (by show s0 ≤ 7118252; omega)⟩ dL_law_513 hS (fun _ h => False.elim h) (fun H locs hG _ hq hS => ?_)
            have hG : St D r P Q n H := hG
            refine topN (n := z4) (by rw [ezz4]) ?_
            refine lv_if_ne (tgt := 574) hx hb dL_law_516 (by decide) (fun c516 => ?_) (fun c516 => ?_)
            · have c516 : ¬ z4 = 0 := fun hh9 => c516 ((nI_eq (a := z4) (b := 0) (by omega) (by omega)).mpr hh9)
              exact K574  _ _ _  hG hS (lv_sub hl [0, 1, 2, 3, 4, 5, 6, 7] rfl)
            · have c516 : z4 = 0 := (nI_eq (a := z4) (b := 0) (by omega) (by omega)).mp c516
              exact law_c3 hl0 hx hb hml hown hts hK hKx hX hbl hsz0 hL0 hI hc0 hs0 (by omega) (by omega) kk  _ _ _  hG hS (lv_sub hl [0, 1, 2, 3, 4, 5, 7] rfl)
      refine lv_iload hx hb dL_law_384 (lv_at hl 7 rfl) ?_
      refine lv_iconst (v := 4) hx hb dL_law_386 (by decide) ?_
      refine topN (n := 4) rfl ?_
      refine lv_icmp_ge (tgt := 499) hx hb dL_law_387 (by decide) (fun c387 => ?_) (fun c387 => ?_)
      · have c387 : 4 ≤ how := (nI_leI (a := 4) (b := how) (by omega) (by omega)).mp c387
        exact K499  _ _ _  hG hS (lv_sub hl [0, 1, 2, 3, 4, 5, 7, 6] rfl)
      · have c387 : ¬ 4 ≤ how := fun hh9 => c387 ((nI_leI (a := 4) (b := how) (by omega) (by omega)).mpr hh9)
        refine lv_iload hx hb dL_law_390 (lv_at hl 5 rfl) ?_
        refine lv_if_le (tgt := 499) hx hb dL_law_392 (by decide) (fun c392 => ?_) (fun c392 => ?_)
        · have c392 : np P ≤ 0 := (nI_leI (a := np P) (b := 0) (by omega) (by omega)).mp c392
          exact K499  _ _ _  hG hS (lv_sub hl [0, 1, 2, 3, 4, 5, 7, 6] rfl)
        · have c392 : ¬ np P ≤ 0 := fun hh9 => c392 ((nI_leI (a := np P) (b := 0) (by omega) (by omega)).mpr hh9)
          exact law_c2 hl0 hx hb hml hown hts hK hKx hX hbl hsz0 hL0 hI hc0 hs0 (by omega) (by omega) kk  _ _ _  hG hS (lv_sub hl [0, 1, 2, 3, 4, 5, 6] rfl)
    · have c272 : how = 1 := (nI_eq (a := how) (b := 1) (by omega) (by omega)).mp c272
      exact law_c1 hl0 hx hb hml hown hts hK hKx hX hbl hsz0 hL0 hI hc0 hs0 (by omega) kk  _ _ _  hG hS (lv_sub hl [0, 1, 2, 3, 5] rfl)
  · have c155 : how = 0 := (nI_eq (a := how) (b := 0) (by omega) (by omega)).mp c155
    exact law_c0 hl0 hx hb hml hown hts hK hKx hX hbl hsz0 hL0 hI hc0 hs0  kk  _ _ _  hG hS (lv_sub hl [0, 1, 2, 3, 4] rfl)

set_option maxHeartbeats 4000000 in
set_option maxRecDepth 100000 in
theorem law_join {p : Program} {l : Launch} {e : Env} {s : State} {m : MethodId} {args : Array Value} {below : List Frame} {meth : Method} {c : Code} {Qz : State → Prop} {D : va_G} {b L r : Nat} {xs : Nat → Int32} {P : Nat → Int32} {Q : Nat → Nat → Int32} {n h i : Nat} {y : Int32} {c0 s0 : Nat} (hl0 : l.stackTraces = false) (hx : p.tables.exec = Jvm.exec) (hb : c.code = cL_law) (hml : c.maxLocals = 15) (hown : s.vm.findClass RL = some m.cls) (hts : ∀ w ∈ AW, w.before args s = true) (hK : Kn D s) (hKx : Kx r s) (hX : va_X b L xs s s.heap) (hbl : b < r) (hsz0 : s.heap.size = r) (hL0 : L ≤ 260) (hI : Iv h P) (hc0 : c0 ≤ 600000) (hs0 : s0 ≤ 7000000) (h1s : 1 ≤ ns P) (kk : ∀ (P1 : Nat → Int32) (Q1 : Nat → Nat → Int32) (n1 h1 : Nat) (H : Heap) (locs : List Loc) (ls : Array Slot), Iv h1 P1 → 1 ≤ ns P1 → St D r P1 Q1 n1 H → va_S (fun q => r ≤ q) s.heap H locs → lv_has ls 15 [(0, .ref b), (1, .ref r), (2, .int (nI (i + 1)))] → W p l e room_1 s m args below meth c H locs (c0 + 800) (s0 + 4800) Qz (F0 m 58 ls [])) (H : Heap) (locs : List Loc) (ls : Array Slot) (hG : St D r P Q n H) (hS : va_S (fun q => r ≤ q) s.heap H locs) (hl : lv_has ls 15 [(0, .ref b), (1, .ref r), (2, .int (nI i)), (4, .int y)]) : W p l e room_1 s m args below meth c H locs (c0) (s0) Qz (F0 m 1058 ls []) := by
  have hAr : ∀ q, inS r q → r ≤ q := fun q h => h.1
  refine lv_aload_n hx hb dL_law_1058 rfl (lv_at hl 1 rfl) ?_
  refine lwM (As := [.ref r]) (rest := []) (mc := 720) (ms := 4320) hx hb hml hown hts hl.1 hK hKx (fun _ h => h) (c_L_sound l hl0 D r P Q n h hI) (gaS qM_L_155 qT_L_sound qK_L qC_L_sound) hds_L_sound ⟨(Nat.le_of_ble_eq_true rfl), (Nat.le_of_ble_eq_true rfl)⟩ hG rfl (Nat.le_of_ble_eq_true rfl) ⟨(by show c0 + 720 ≤ 661124; omega), (by show s0 + 4320 ≤ 7118252; omega)⟩ dL_law_1059 hS (fun _ h => h) (fun H locs hG hz hq hS => ?_)
  have hG : St D r P Q n H := hG
  refine lv_if_eq (tgt := 1085) hx hb dL_law_1062 (by decide) (fun c1062 => ?_) (fun c1062 => ?_)
  · exact absurd c1062 (by decide)
  · refine lv_iload_n hx hb dL_law_1065 rfl (lv_at hl 2 rfl) ?_
    refine lv_bipush (v := 8) hx hb dL_law_1066 (by decide) ?_
    refine lv_irem hx hb dL_law_1068 (by decide) ?_
    refine lv_bipush (v := 7) hx hb dL_law_1069 (by decide) ?_
    refine lv_icmp_ne (tgt := 1087) hx hb dL_law_1071 (by decide) (fun c1071 => ?_) (fun c1071 => ?_)
    · refine lv_iinc (v := nI (i + 1)) (lv' := [(2, .int (nI (i + 1))), (0, .ref b), (1, .ref r), (4, .int y)]) hx hb dL_law_1087 hl (k := 2) rfl (nI_add i 1) (by decide) rfl (fun ls hl => ?_)
      refine lv_goto (tgt := 58) hx hb dL_law_1090 (by decide) ?_
      refine W.widen (k := c0 + 800) (n := s0 + 4800) (by omega) (by omega) ?_
      exact kk P Q n _ _ _ _ hI h1s hG hS (lv_sub hl [1, 2, 0] rfl)
    · refine lv_aload_n hx hb dL_law_1074 rfl (lv_at hl 1 rfl) ?_
      refine lv_iload hx hb dL_law_1075 (lv_at hl 3 rfl) ?_
      refine lv_iconst (v := 2) hx hb dL_law_1077 (by decide) ?_
      refine lv_ishr hx hb dL_law_1078 ?_
      refine lv_topi (fun yt eyt => ?_)
      refine lwM (As := [.ref r, .int yt]) (rest := []) (mc := 70) (ms := 420) hx hb hml hown hts hl.1 hK hKx (fun _ h => h) (c_L_thoughts l hl0 D r P Q n h yt hI) (gaS qM_L_168 qT_L_thoughts qK_L qC_L_thoughts) hds_L_thoughts ⟨(Nat.le_of_ble_eq_true rfl), (Nat.le_of_ble_eq_true rfl)⟩ hG rfl (Nat.le_of_ble_eq_true rfl) ⟨(by show c0 + 720 + 70 ≤ 661124; omega), (by show s0 + 4320 + 420 ≤ 7118252; omega)⟩ dL_law_1079 hS (fun _ h => h) (fun H locs hG hz hq hS => ?_)
      obtain ⟨Q9, n9, hG⟩ := hG
      refine lv_if_ne (tgt := 1087) hx hb dL_law_1082 (by decide) (fun c1082 => ?_) (fun c1082 => ?_)
      · refine lv_iinc (v := nI (i + 1)) (lv' := [(2, .int (nI (i + 1))), (0, .ref b), (1, .ref r), (4, .int y)]) hx hb dL_law_1087 hl (k := 2) rfl (nI_add i 1) (by decide) rfl (fun ls hl => ?_)
        refine lv_goto (tgt := 58) hx hb dL_law_1090 (by decide) ?_
        refine W.widen (k := c0 + 800) (n := s0 + 4800) (by omega) (by omega) ?_
        exact kk P Q9 n9 _ _ _ _ hI h1s hG hS (lv_sub hl [1, 2, 0] rfl)
      · exact absurd c1082 (by decide)

set_option maxHeartbeats 4000000 in
set_option maxRecDepth 100000 in
theorem law_head {p : Program} {l : Launch} {e : Env} {s : State} {m : MethodId} {args : Array Value} {below : List Frame} {meth : Method} {c : Code} {Qz : State → Prop} {D : va_G} {b L r : Nat} {xs : Nat → Int32} {P : Nat → Int32} {Q : Nat → Nat → Int32} {n h i : Nat} {c0 s0 : Nat} (hl0 : l.stackTraces = false) (hx : p.tables.exec = Jvm.exec) (hb : c.code = cL_law) (hml : c.maxLocals = 15) (hown : s.vm.findClass RL = some m.cls) (hts : ∀ w ∈ AW, w.before args s = true) (hK : Kn D s) (hKx : Kx r s) (hX : va_X b L xs s s.heap) (hbl : b < r) (hsz0 : s.heap.size = r) (hL0 : L ≤ 260) (hI : Iv h P) (hc0 : c0 ≤ 590000) (hs0 : s0 ≤ 6900000) (hi : i < 40) (hsi : i = 0 ∨ 1 ≤ ns P) (kk : ∀ (P1 : Nat → Int32) (Q1 : Nat → Nat → Int32) (n1 h1 : Nat) (H : Heap) (locs : List Loc) (ls : Array Slot), Iv h1 P1 → 1 ≤ ns P1 → St D r P1 Q1 n1 H → va_S (fun q => r ≤ q) s.heap H locs → lv_has ls 15 [(0, .ref b), (1, .ref r), (2, .int (nI (i + 1)))] → W p l e room_1 s m args below meth c H locs (c0 + 1200) (s0 + 7000) Qz (F0 m 58 ls [])) (H : Heap) (locs : List Loc) (ls : Array Slot) (hG : St D r P Q n H) (hS : va_S (fun q => r ≤ q) s.heap H locs) (hl : lv_has ls 15 [(0, .ref b), (1, .ref r), (2, .int (nI i))]) : W p l e room_1 s m args below meth c H locs (c0) (s0) Qz (F0 m 58 ls []) := by
  have hAr : ∀ q, inS r q → r ≤ q := fun q h => h.1
  obtain ⟨z0, z00, z1, z2, hN1, hN2, z5, z7, ⟨S9, S91, z3⟩, k9, k91, z6⟩ := snd_rest hI
  refine lv_iload_n hx hb dL_law_58 rfl (lv_at hl 2 rfl) ?_
  refine lv_bipush (v := 40) hx hb dL_law_59 (by decide) ?_
  refine topN (n := 40) rfl ?_
  refine lv_icmp_ge (tgt := 1093) hx hb dL_law_61 (by decide) (fun c61 => ?_) (fun c61 => ?_)
  · have c61 : 40 ≤ i := (nI_leI (a := 40) (b := i) (by omega) (by omega)).mp c61
    exact absurd c61 (by omega)
  · have c61 : ¬ 40 ≤ i := fun hh9 => c61 ((nI_leI (a := 40) (b := i) (by omega) (by omega)).mpr hh9)
    refine lv_aload_n hx hb dL_law_64 rfl (lv_at hl 0 rfl) ?_
    refine lv_iconst (v := 2) hx hb dL_law_65 (by decide) ?_
    refine topN (n := 2) rfl ?_
    refine lv_iload_n hx hb dL_law_66 rfl (lv_at hl 2 rfl) ?_
    refine imulN (a := 2) (b := i) hx hb dL_law_67 ?_
    refine lwLot (rest := []) (k := (2 * i)) hx hb hml hown hts hl.1 hX hbl hsz0 hL0 (by omega) (gaS qM_L_160 qT_L_lot qK_L qC_L_lot) ⟨(Nat.le_of_ble_eq_true rfl), (Nat.le_of_ble_eq_true rfl)⟩ (Nat.le_of_ble_eq_true rfl) ⟨(by show c0 ≤ 661124; omega), (by show s0 ≤ 7118252; omega)⟩ dL_law_68 hS (fun H locs hz hq hS => ?_)
    have hG : St D r P Q n H := St.kept hG hq
    refine lv_topi (fun vx evx => ?_)
    refine lv_istore_n (lv' := [(3, .int vx), (0, .ref b), (1, .ref r), (2, .int (nI i))]) hx hb dL_law_71 rfl hl (by decide) rfl (fun ls hl => ?_)
    refine lv_aload_n hx hb dL_law_72 rfl (lv_at hl 1 rfl) ?_
    refine lv_iconst (v := 2) hx hb dL_law_73 (by decide) ?_
    refine topN (n := 2) rfl ?_
    refine lv_iload_n hx hb dL_law_74 rfl (lv_at hl 3 rfl) ?_
    refine imulN (a := 2) (b := i) hx hb dL_law_75 ?_
    refine lv_iconst (v := 1) hx hb dL_law_76 (by decide) ?_
    refine topN (n := 1) rfl ?_
    refine iaddN (a := 2 * i) (b := 1) hx hb dL_law_77 ?_
    refine lwLot (rest := []) (k := (2 * i + 1)) hx hb hml hown hts hl.1 hX hbl hsz0 hL0 (by omega) (gaS qM_L_160 qT_L_lot qK_L qC_L_lot) ⟨(Nat.le_of_ble_eq_true rfl), (Nat.le_of_ble_eq_true rfl)⟩ (Nat.le_of_ble_eq_true rfl) ⟨(by show c0 ≤ 661124; omega), (by show s0 ≤ 7118252; omega)⟩ dL_law_78 hS (fun H locs hz hq hS => ?_)
    have hG : St D r P Q n H := St.kept hG hq
    refine lv_topi (fun vy evy => ?_)
    refine lv_istore (lv' := [(4, .int vy), (3, .int vx), (0, .ref b), (1, .ref r), (2, .int (nI i))]) hx hb dL_law_81 hl (by decide) rfl (fun ls hl => ?_)
    refine lv_aload_n hx hb dL_law_83 rfl (lv_at hl 3 rfl) ?_
    refine lv_iconst (v := 1) hx hb dL_law_84 (by decide) ?_
    refine lwS (As := [.ref r, .int 1]) (rest := []) hx hb hml hown hts hl.1 hK hKx (fun _ h => h) (c_L_value l hl0 D r P Q n (P 1) 1 (fun C h => (R_value (k := 1) h rfl (by decide)).trans rfl)) (gHS qM_L_88 qT_L_value qK_L qC_L_value) hds_L_value ⟨(Nat.le_of_ble_eq_true rfl), (Nat.le_of_ble_eq_true rfl)⟩ hG rfl (Nat.le_of_ble_eq_true rfl) ⟨(by show c0 + 1 ≤ 661124; omega), (by show s0 + 6 ≤ 7118252; omega)⟩ dL_law_85 hS hAr (fun H locs hG hz hq hS => ?_)
    have hG : St D r P Q n H := hG
    clear hz hq
    refine topN (n := ns P) hN1 ?_
    refine lv_istore (lv' := [(5, .int (nI (ns P))), (4, .int vy), (3, .int vx), (0, .ref b), (1, .ref r), (2, .int (nI i))]) hx hb dL_law_88 hl (by decide) rfl (fun ls hl => ?_)
    refine lv_aload_n hx hb dL_law_90 rfl (lv_at hl 4 rfl) ?_
    refine lv_iconst (v := 2) hx hb dL_law_91 (by decide) ?_
    refine lwS (As := [.ref r, .int 2]) (rest := []) hx hb hml hown hts hl.1 hK hKx (fun _ h => h) (c_L_value l hl0 D r P Q n (P 2) 2 (fun C h => (R_value (k := 2) h rfl (by decide)).trans rfl)) (gHS qM_L_88 qT_L_value qK_L qC_L_value) hds_L_value ⟨(Nat.le_of_ble_eq_true rfl), (Nat.le_of_ble_eq_true rfl)⟩ hG rfl (Nat.le_of_ble_eq_true rfl) ⟨(by show c0 + 1 + 1 ≤ 661124; omega), (by show s0 + 6 + 6 ≤ 7118252; omega)⟩ dL_law_92 hS hAr (fun H locs hG hz hq hS => ?_)
    have hG : St D r P Q n H := hG
    clear hz hq
    refine topN (n := np P) hN2 ?_
    refine lv_istore (lv' := [(6, .int (nI (np P))), (5, .int (nI (ns P))), (4, .int vy), (3, .int vx), (0, .ref b), (1, .ref r), (2, .int (nI i))]) hx hb dL_law_95 hl (by decide) rfl (fun ls hl => ?_)
    have K132 : ∀ (how : Nat) (H : Heap) (locs : List Loc) (ls : Array Slot) (hh1 : how < 14) (hh2 : how = 0 ∨ 0 < i) (hG : St D r P Q n H) (hS : va_S (fun q => r ≤ q) s.heap H locs) (hl : lv_has ls 15 [(0, .ref b), (1, .ref r), (2, .int (nI i)), (3, .int vx), (4, .int vy), (5, .int (nI (ns P))), (6, .int (nI (np P)))]), W p l e room_1 s m args below meth c H locs (c0 + 1 + 1) (s0 + 6 + 6) (Qz) (F0 m 132 ls [.int (nI how)]) := by
      intro how H locs ls hh1 hh2 hG hS hl
      refine lv_istore (lv' := [(7, .int (nI how)), (0, .ref b), (1, .ref r), (2, .int (nI i)), (3, .int vx), (4, .int vy), (5, .int (nI (ns P))), (6, .int (nI (np P)))]) hx hb dL_law_132 hl (by decide) rfl (fun ls hl => ?_)
      have K151 : ∀ (q : Nat) (H : Heap) (locs : List Loc) (ls : Array Slot) (hq2 : np P = 0 ∨ q < np P) (hG : St D r P Q n H) (hS : va_S (fun q => r ≤ q) s.heap H locs) (hl : lv_has ls 15 [(0, .ref b), (1, .ref r), (2, .int (nI i)), (3, .int vx), (4, .int vy), (5, .int (nI (ns P))), (6, .int (nI (np P))), (7, .int (nI how))]), W p l e room_1 s m args below meth c H locs (c0 + 1 + 1) (s0 + 6 + 6) (Qz) (F0 m 151 ls [.int (nI q)]) := by
        intro q H locs ls hq2 hG hS hl
        refine lv_istore (lv' := [(8, .int (nI q)), (0, .ref b), (1, .ref r), (2, .int (nI i)), (3, .int vx), (4, .int vy), (5, .int (nI (ns P))), (6, .int (nI (np P))), (7, .int (nI how))]) hx hb dL_law_151 hl (by decide) rfl (fun ls hl => ?_)
        exact law_disp hl0 hx hb hml hown hts hK hKx hX hbl hsz0 hL0 hI (by omega) (by omega) hh1 (by omega) hq2 (fun P1 Q1 n1 h1 H locs ls hI1 hs1 hG hS hl => law_join hl0 hx hb hml hown hts hK hKx hX hbl hsz0 hL0 hI1 (by omega) (by omega) hs1 (fun P2 Q2 n2 h2 H locs ls hI2 hs2 hG hS hl => W.widen (k := c0 + 1200) (n := s0 + 7000) (by omega) (by omega) (kk P2 Q2 n2 h2 H locs ls hI2 hs2 hG hS hl)) H locs ls hG hS hl)  _ _ _  hG hS (lv_sub hl [1, 2, 3, 5, 6, 7, 0, 8] rfl)
      refine lv_iload hx hb dL_law_134 (lv_at hl 7 rfl) ?_
      refine lv_if_ne (tgt := 143) hx hb dL_law_136 (by decide) (fun c136 => ?_) (fun c136 => ?_)
      · have c136 : ¬ np P = 0 := fun hh9 => c136 ((nI_eq (a := np P) (b := 0) (by omega) (by omega)).mpr hh9)
        refine lv_iload_n hx hb dL_law_143 rfl (lv_at hl 4 rfl) ?_
        refine lv_iconst (v := 4) hx hb dL_law_144 (by decide) ?_
        refine lv_ishr hx hb dL_law_145 ?_
        refine lv_topi (fun vz evz => ?_)
        refine lv_iload hx hb dL_law_146 (lv_at hl 7 rfl) ?_
        obtain ⟨q9, ezq9, hq91⟩ : ∃ z, lowN vz (np P) = z ∧ z < (np P) := ⟨_, rfl, lowN_lt (by omega)⟩
        refine gcSi (As := [.int vz, .int (nI (np P))]) (rest := []) hx hb hml hown hts hl.1 hK (c_L_low l D (fun H => St D r P Q n H) vz (np P) (by omega) (by omega)) (gaS qM_L_121 qT_L_low qK_L qC_L_low) hds_L_low ⟨(Nat.le_of_ble_eq_true rfl), (Nat.le_of_ble_eq_true rfl)⟩ hG rfl (Nat.le_of_ble_eq_true rfl) ⟨(by show c0 + 1 + 1 ≤ 661124; omega), (by show s0 + 6 + 6 ≤ 7118252; omega)⟩ dL_law_148 hS (fun _ h => False.elim h) (fun H locs hG _ hq hS => ?_)
        have hG : St D r P Q n H := hG
        refine topN (n := q9) (by rw [ezq9]) ?_
        exact K151 q9 _ _ _ (by first | assumption | omega) hG hS (lv_sub hl [1, 2, 3, 4, 5, 6, 7, 0] rfl)
      · have c136 : np P = 0 := (nI_eq (a := np P) (b := 0) (by omega) (by omega)).mp c136
        refine lv_iconst (v := 0) hx hb dL_law_139 (by decide) ?_
        refine topN (n := 0) rfl ?_
        refine lv_goto (tgt := 151) hx hb dL_law_140 (by decide) ?_
        exact K151 0 _ _ _ (by first | assumption | omega) hG hS (lv_sub hl [1, 2, 3, 4, 5, 6, 7, 0] rfl)
    refine lv_iload_n hx hb dL_law_97 rfl (lv_at hl 6 rfl) ?_
    refine lv_iconst (v := 4) hx hb dL_law_98 (by decide) ?_
    refine topN (n := 4) rfl ?_
    refine lv_icmp_ge (tgt := 106) hx hb dL_law_99 (by decide) (fun c99 => ?_) (fun c99 => ?_)
    · have c99 : 4 ≤ i := (nI_leI (a := 4) (b := i) (by omega) (by omega)).mp c99
      refine lv_iload_n hx hb dL_law_106 rfl (lv_at hl 6 rfl) ?_
      refine lv_bipush (v := 6) hx hb dL_law_107 (by decide) ?_
      refine topN (n := 6) rfl ?_
      refine lv_icmp_ge (tgt := 116) hx hb dL_law_109 (by decide) (fun c109 => ?_) (fun c109 => ?_)
      · have c109 : 6 ≤ i := (nI_leI (a := 6) (b := i) (by omega) (by omega)).mp c109
        refine lv_iload_n hx hb dL_law_116 rfl (lv_at hl 6 rfl) ?_
        refine lv_bipush (v := 12) hx hb dL_law_117 (by decide) ?_
        refine topN (n := 12) rfl ?_
        refine lv_icmp_ge (tgt := 126) hx hb dL_law_119 (by decide) (fun c119 => ?_) (fun c119 => ?_)
        · have c119 : 12 ≤ i := (nI_leI (a := 12) (b := i) (by omega) (by omega)).mp c119
          refine lv_iload_n hx hb dL_law_126 rfl (lv_at hl 3 rfl) ?_
          refine lv_bipush (v := 14) hx hb dL_law_127 (by decide) ?_
          refine topN (n := 14) rfl ?_
          obtain ⟨z14, ezz14, hz141⟩ : ∃ z, lowN vx 14 = z ∧ z < 14 := ⟨_, rfl, lowN_lt (by decide)⟩
          refine gcSi (As := [.int vx, .int (nI 14)]) (rest := []) hx hb hml hown hts hl.1 hK (c_L_low l D (fun H => St D r P Q n H) vx 14 (by decide) (by decide)) (gaS qM_L_121 qT_L_low qK_L qC_L_low) hds_L_low ⟨(Nat.le_of_ble_eq_true rfl), (Nat.le_of_ble_eq_true rfl)⟩ hG rfl (Nat.le_of_ble_eq_true rfl) ⟨(by show c0 + 1 + 1 ≤ 661124; omega), (by show s0 + 6 + 6 ≤ 7118252; omega)⟩ dL_law_129 hS (fun _ h => False.elim h) (fun H locs hG _ hq hS => ?_)
          have hG : St D r P Q n H := hG
          refine topN (n := z14) (by rw [ezz14]) ?_
          exact K132 z14 _ _ _ (by first | assumption | omega) (by first | assumption | omega) hG hS (lv_sub hl [4, 5, 6, 3, 2, 1, 0] rfl)
        · have c119 : ¬ 12 ≤ i := fun hh9 => c119 ((nI_leI (a := 12) (b := i) (by omega) (by omega)).mpr hh9)
          refine lv_iconst (v := 2) hx hb dL_law_122 (by decide) ?_
          refine topN (n := 2) rfl ?_
          refine lv_goto (tgt := 132) hx hb dL_law_123 (by decide) ?_
          exact K132 2 _ _ _ (by first | assumption | omega) (by first | assumption | omega) hG hS (lv_sub hl [4, 5, 6, 3, 2, 1, 0] rfl)
      · have c109 : ¬ 6 ≤ i := fun hh9 => c109 ((nI_leI (a := 6) (b := i) (by omega) (by omega)).mpr hh9)
        refine lv_iconst (v := 1) hx hb dL_law_112 (by decide) ?_
        refine topN (n := 1) rfl ?_
        refine lv_goto (tgt := 132) hx hb dL_law_113 (by decide) ?_
        exact K132 1 _ _ _ (by first | assumption | omega) (by first | assumption | omega) hG hS (lv_sub hl [4, 5, 6, 3, 2, 1, 0] rfl)
    · have c99 : ¬ 4 ≤ i := fun hh9 => c99 ((nI_leI (a := 4) (b := i) (by omega) (by omega)).mpr hh9)
      refine lv_iconst (v := 0) hx hb dL_law_102 (by decide) ?_
      refine topN (n := 0) rfl ?_
      refine lv_goto (tgt := 132) hx hb dL_law_103 (by decide) ?_
      exact K132 0 _ _ _ (by first | assumption | omega) (by first | assumption | omega) hG hS (lv_sub hl [4, 5, 6, 3, 2, 1, 0] rfl)

set_option maxHeartbeats 4000000 in
set_option maxRecDepth 100000 in
theorem law_end {p : Program} {l : Launch} {e : Env} {s : State} {m : MethodId} {args : Array Value} {below : List Frame} {meth : Method} {c : Code} {Qz : State → Prop} {D : va_G} {b L r : Nat} {xs : Nat → Int32} {P : Nat → Int32} {Q : Nat → Nat → Int32} {n h : Nat} {c0 s0 : Nat} (hl0 : l.stackTraces = false) (hx : p.tables.exec = Jvm.exec) (hb : c.code = cL_law) (hml : c.maxLocals = 15) (hown : s.vm.findClass RL = some m.cls) (hts : ∀ w ∈ AW, w.before args s = true) (hK : Kn D s) (hKx : Kx r s) (hX : va_X b L xs s s.heap) (hbl : b < r) (hsz0 : s.heap.size = r) (hL0 : L ≤ 260) (hI : Iv h P) (hc0 : c0 ≤ 600000) (hs0 : s0 ≤ 7000000)  (kk : ∀ (H : Heap) (locs : List Loc) (ls : Array Slot), va_S (fun q => r ≤ q) s.heap H locs → W p l e room_1 s m args below meth c H locs (c0 + 100) (s0 + 600) Qz (F0 m 1097 ls [.int 1])) (H : Heap) (locs : List Loc) (ls : Array Slot) (hG : St D r P Q n H) (hS : va_S (fun q => r ≤ q) s.heap H locs) (hl : lv_has ls 15 [(0, .ref b), (1, .ref r), (2, .int (nI 40))]) : W p l e room_1 s m args below meth c H locs (c0) (s0) Qz (F0 m 58 ls []) := by
  have hAr : ∀ q, inS r q → r ≤ q := fun q h => h.1
  refine lv_iload_n hx hb dL_law_58 rfl (lv_at hl 2 rfl) ?_
  refine lv_bipush (v := 40) hx hb dL_law_59 (by decide) ?_
  refine topN (n := 40) rfl ?_
  refine lv_icmp_ge (tgt := 1093) hx hb dL_law_61 (by decide) (fun c61 => ?_) (fun c61 => ?_)
  · have c61 : 40 ≤ 40 := (nI_leI (a := 40) (b := 40) (by omega) (by omega)).mp c61
    refine lv_aload_n hx hb dL_law_1093 rfl (lv_at hl 1 rfl) ?_
    refine lwM (As := [.ref r]) (rest := []) (mc := 100) (ms := 600) hx hb hml hown hts hl.1 hK hKx (fun _ h => h) (c_L_refuses l hl0 D r P Q n) (gaS qM_L_151 qT_L_refuses qK_L qC_L_refuses) hds_L_refuses ⟨(Nat.le_of_ble_eq_true rfl), (Nat.le_of_ble_eq_true rfl)⟩ hG rfl (Nat.le_of_ble_eq_true rfl) ⟨(by show c0 + 100 ≤ 661124; omega), (by show s0 + 600 ≤ 7118252; omega)⟩ dL_law_1094 hS (fun _ h => h) (fun H locs hG hz hq hS => ?_)
    exact kk H locs ls hS
  · have c61 : ¬ 40 ≤ 40 := fun hh9 => c61 ((nI_leI (a := 40) (b := 40) (by omega) (by omega)).mpr hh9)
    exact absurd c61 (by omega)

theorem law_loop {p : Program} {l : Launch} {e : Env} {s : State} {m : MethodId} {args : Array Value} {below : List Frame} {meth : Method} {c : Code} {Qz : State → Prop} {D : va_G} {b L r : Nat} {xs : Nat → Int32} (hl0 : l.stackTraces = false) (hx : p.tables.exec = Jvm.exec) (hb : c.code = cL_law) (hml : c.maxLocals = 15) (hown : s.vm.findClass RL = some m.cls) (hts : ∀ w ∈ AW, w.before args s = true) (hK : Kn D s) (hKx : Kx r s) (hX : va_X b L xs s s.heap) (hbl : b < r) (hsz0 : s.heap.size = r) (hL0 : L ≤ 260) (kk : ∀ (H : Heap) (locs : List Loc) (ls : Array Slot) (c1 s1 : Nat), c1 ≤ 661124 → s1 ≤ 7118252 → va_S (fun q => r ≤ q) s.heap H locs → W p l e room_1 s m args below meth c H locs (c1) (s1) Qz (F0 m 1097 ls [.int 1])) : ∀ (k i c0 s0 : Nat) (P : Nat → Int32) (Q : Nat → Nat → Int32) (n h : Nat) (H : Heap) (locs : List Loc) (ls : Array Slot), i + k = 40 → c0 + 1200 * k ≤ 590000 → s0 + 7000 * k ≤ 6900000 → (i = 0 ∨ 1 ≤ ns P) → Iv h P → St D r P Q n H → va_S (fun q => r ≤ q) s.heap H locs → lv_has ls 15 [(0, .ref b), (1, .ref r), (2, .int (nI i))] → W p l e room_1 s m args below meth c H locs (c0) (s0) Qz (F0 m 58 ls []) := by
  intro k
  induction k with
  | zero =>
    intro i c0 s0 P Q n h H locs ls hik h1 h2 hsi hI hG hS hl
    obtain rfl : i = 40 := by omega
    exact law_end hl0 hx hb hml hown hts hK hKx hX hbl hsz0 hL0 hI (by omega) (by omega) (fun H locs ls hS => kk H locs ls _ _ (by omega) (by omega) hS) H locs ls hG hS hl
  | succ k ih =>
    intro i c0 s0 P Q n h H locs ls hik h1 h2 hsi hI hG hS hl
    exact law_head hl0 hx hb hml hown hts hK hKx hX hbl hsz0 hL0 hI (by omega) (by omega) (by omega) hsi (fun P1 Q1 n1 h1 H locs ls hI1 hs1 hG hS hl => ih (i + 1) (c0 + 1200) (s0 + 7000) P1 Q1 n1 h1 H locs ls (by omega) (by omega) (by omega) (Or.inr hs1) hI1 hG hS hl) H locs ls hG hS hl

set_option maxHeartbeats 4000000 in
set_option maxRecDepth 100000 in
theorem law_pre {p : Program} {l : Launch} {e : Env} {s : State} {m : MethodId} {args : Array Value} {below : List Frame} {meth : Method} {c : Code} {Qz : State → Prop} {D : va_G} {b L r : Nat} {xs : Nat → Int32} {c0 s0 : Nat} (hl0 : l.stackTraces = false) (hx : p.tables.exec = Jvm.exec) (hb : c.code = cL_law) (hml : c.maxLocals = 15) (hown : s.vm.findClass RL = some m.cls) (hts : ∀ w ∈ AW, w.before args s = true) (hK : Kn D s) (hKx : Kx r s) (hX : va_X b L xs s s.heap) (hbl : b < r) (hsz0 : s.heap.size = r) (hL0 : L ≤ 260)  (hc0 : c0 ≤ 600000) (hs0 : s0 ≤ 7000000)  (kk : ∀ (H : Heap) (locs : List Loc) (ls : Array Slot), St D r P0 (svQ (fun _ => P0) 0 P0) (svN 0 + 1 - 1) H → va_S (fun q => r ≤ q) s.heap H locs → lv_has ls 15 [(0, .ref b), (1, .ref r), (2, .int (nI 0))] → W p l e room_1 s m args below meth c H locs (c0 + 1000) (s0 + 6000) Qz (F0 m 58 ls [])) (H : Heap) (locs : List Loc) (ls : Array Slot) (hG : St D r P0 (fun _ => P0) 0 H) (hS : va_S (fun q => r ≤ q) s.heap H locs) (hl : lv_has ls 15 [(0, .ref b), (1, .ref r)]) : W p l e room_1 s m args below meth c H locs (c0) (s0) Qz (F0 m 8 ls []) := by
  have hAr : ∀ q, inS r q → r ≤ q := fun q h => h.1
  refine lv_aload_n hx hb dL_law_8 rfl (lv_at hl 1 rfl) ?_
  refine lwM (As := [.ref r]) (rest := []) (mc := 100) (ms := 600) hx hb hml hown hts hl.1 hK hKx (fun _ h => h) (c_L_refuses l hl0 D r P0 (fun _ => P0) 0) (gaS qM_L_151 qT_L_refuses qK_L qC_L_refuses) hds_L_refuses ⟨(Nat.le_of_ble_eq_true rfl), (Nat.le_of_ble_eq_true rfl)⟩ hG rfl (Nat.le_of_ble_eq_true rfl) ⟨(by show c0 + 100 ≤ 661124; omega), (by show s0 + 600 ≤ 7118252; omega)⟩ dL_law_9 hS (fun _ h => h) (fun H locs hG hz hq hS => ?_)
  have hG : St D r P0 (fun _ => P0) 0 H := hG
  refine lv_if_eq (tgt := 54) hx hb dL_law_12 (by decide) (fun c12 => ?_) (fun c12 => ?_)
  · exact absurd c12 (by decide)
  · refine lv_aload_n hx hb dL_law_15 rfl (lv_at hl 1 rfl) ?_
    refine lwS (As := [.ref r]) (rest := []) hx hb hml hown hts hl.1 hK hKx (fun _ h => h) (c_L_undo l hl0 D r P0 (fun _ => P0) 0 P0 (fun _ => P0) 0 (-90200)  (fun C G hd => E_undo_f hd)) (gHS qM_L_118 qT_L_undo qK_L qC_L_undo) hds_L_undo ⟨(Nat.le_of_ble_eq_true rfl), (Nat.le_of_ble_eq_true rfl)⟩ hG rfl (Nat.le_of_ble_eq_true rfl) ⟨(by show c0 + 100 + 1 ≤ 661124; omega), (by show s0 + 600 + 6 ≤ 7118252; omega)⟩ dL_law_16 hS hAr (fun H locs hG hz hq hS => ?_)
    have hG : St D r P0 (fun _ => P0) 0 H := hG
    clear hz hq
    refine lv_ldc hx hb hown (hts _ qV_L_20) dL_law_19 ?_
    refine lv_icmp_ne (tgt := 54) hx hb dL_law_21 (by decide) (fun c21 => ?_) (fun c21 => ?_)
    · exact absurd c21 (by decide)
    · refine lv_aload_n hx hb dL_law_24 rfl (lv_at hl 1 rfl) ?_
      refine lwM (As := [.ref r]) (rest := []) (mc := 720) (ms := 4320) hx hb hml hown hts hl.1 hK hKx (fun _ h => h) (c_L_sound l hl0 D r P0 (fun _ => P0) 0 0 Iv_0) (gaS qM_L_155 qT_L_sound qK_L qC_L_sound) hds_L_sound ⟨(Nat.le_of_ble_eq_true rfl), (Nat.le_of_ble_eq_true rfl)⟩ hG rfl (Nat.le_of_ble_eq_true rfl) ⟨(by show c0 + 100 + 1 + 720 ≤ 661124; omega), (by show s0 + 600 + 6 + 4320 ≤ 7118252; omega)⟩ dL_law_25 hS (fun _ h => h) (fun H locs hG hz hq hS => ?_)
      have hG : St D r P0 (fun _ => P0) 0 H := hG
      refine lv_if_eq (tgt := 54) hx hb dL_law_28 (by decide) (fun c28 => ?_) (fun c28 => ?_)
      · exact absurd c28 (by decide)
      · refine lv_aload_n hx hb dL_law_31 rfl (lv_at hl 1 rfl) ?_
        obtain ⟨C, J, G, Y, X, U, Z, F, hN, hd, hf⟩ := hG
        refine gcVd (As := []) (rest := []) hx hb hml hown hts hl.1 hK (c_X6_meanDepth l D r C J G 0 Y X U Z F hd.1.okN) (gaV qM_L_104 qI_X6_meanDepth qS_X6_meanDepth qK_X6 qC_X6_meanDepth) hdv_X6_meanDepth ⟨(Nat.le_of_ble_eq_true rfl), (Nat.le_of_ble_eq_true rfl)⟩ hN (Sn.recv hK hN) rfl (Nat.le_of_ble_eq_true rfl) ⟨(by show c0 + 100 + 1 + 720 ≤ 661124; omega), (by show s0 + 600 + 6 + 4320 ≤ 7118252; omega)⟩ dL_law_32 hS hAr (fun H locs hN hz hq hS => ?_)
        have hmean := hd.1
        refine lv_topd (fun mean emean => ?_)
        have hG : St D r P0 (fun _ => P0) 0 H := ⟨C, J, G, Y, X, U, Z, F, hN, hd, hf⟩
        clear hN hz hq
        refine lv_dconst0 hx hb dL_law_35 ?_
        refine lv_dcmp hx hb dL_law_36 ?_
        refine topE (y := 0) (by rw [emean, mean_0 hmean rfl, cmp_z]; rfl) ?_
        refine lv_if_ne (tgt := 54) hx hb dL_law_37 (by decide) (fun c37 => ?_) (fun c37 => ?_)
        · exact absurd c37 (by decide)
        · refine lv_aload_n hx hb dL_law_40 rfl (lv_at hl 1 rfl) ?_
          refine lwS (As := [.ref r]) (rest := []) hx hb hml hown hts hl.1 hK hKx (fun _ h => h) (c_L_runText l hl0 D r P0 (fun _ => P0) 0 P0 (svQ (fun _ => P0) 0 P0) (svN 0 + 1) 0  (fun C G Y X U Z F hd hf => E_runText hd hf)) (gHS qM_L_158 qT_L_runText qK_L qC_L_runText) hds_L_runText ⟨(Nat.le_of_ble_eq_true rfl), (Nat.le_of_ble_eq_true rfl)⟩ hG rfl (Nat.le_of_ble_eq_true rfl) ⟨(by show c0 + 100 + 1 + 720 + 1 ≤ 661124; omega), (by show s0 + 600 + 6 + 4320 + 6 ≤ 7118252; omega)⟩ dL_law_41 hS hAr (fun H locs hG hz hq hS => ?_)
          have hG : St D r P0 (svQ (fun _ => P0) 0 P0) (svN 0 + 1) H := hG
          clear hz hq
          refine lv_if_ne (tgt := 54) hx hb dL_law_44 (by decide) (fun c44 => ?_) (fun c44 => ?_)
          · exact absurd c44 (by decide)
          · refine lv_aload_n hx hb dL_law_47 rfl (lv_at hl 1 rfl) ?_
            refine lwS (As := [.ref r]) (rest := []) hx hb hml hown hts hl.1 hK hKx (fun _ h => h) (c_L_undo l hl0 D r P0 (svQ (fun _ => P0) 0 P0) (svN 0 + 1) P0 (svQ (fun _ => P0) 0 P0) (svN 0 + 1 - 1) (nI (svN 0 + 1 - 1))  (fun C G hd => E_undo1 hd)) (gHS qM_L_118 qT_L_undo qK_L qC_L_undo) hds_L_undo ⟨(Nat.le_of_ble_eq_true rfl), (Nat.le_of_ble_eq_true rfl)⟩ hG rfl (Nat.le_of_ble_eq_true rfl) ⟨(by show c0 + 100 + 1 + 720 + 1 + 1 ≤ 661124; omega), (by show s0 + 600 + 6 + 4320 + 6 + 6 ≤ 7118252; omega)⟩ dL_law_48 hS hAr (fun H locs hG hz hq hS => ?_)
            have hG : St D r P0 (svQ (fun _ => P0) 0 P0) (svN 0 + 1 - 1) H := hG
            clear hz hq
            refine topE (y := 0) rfl ?_
            refine lv_if_eq (tgt := 56) hx hb dL_law_51 (by decide) (fun c51 => ?_) (fun c51 => ?_)
            · refine lv_iconst (v := 0) hx hb dL_law_56 (by decide) ?_
              refine topN (n := 0) rfl ?_
              refine lv_istore_n (lv' := [(2, .int (nI 0)), (0, .ref b), (1, .ref r)]) hx hb dL_law_57 rfl hl (by decide) rfl (fun ls hl => ?_)
              refine W.widen (k := c0 + 1000) (n := s0 + 6000) (by omega) (by omega) ?_
              exact kk  _ _ _  hG hS (lv_sub hl [1, 2, 0] rfl)
            · exact absurd c51 (by decide)

theorem law_begin {p : Program} {l : Launch} {e : Env} {s : State} {m : MethodId} {args : Array Value} {below : List Frame} {meth : Method} {c : Code} {Qz : State → Prop} {D : va_G} {b L r : Nat} {xs : Nat → Int32} (hl0 : l.stackTraces = false) (hx : p.tables.exec = Jvm.exec) (hb : c.code = cL_law) (hml : c.maxLocals = 15) (hown : s.vm.findClass RL = some m.cls) (hts : ∀ w ∈ AW, w.before args s = true) (hK : Kn D s) (hKx : Kx r s) (hX : va_X b L xs s s.heap) (hbl : b < r) (hsz0 : s.heap.size = r) (hL0 : L ≤ 260) (hKa : Ka s) (kk : ∀ (H : Heap) (locs : List Loc) (ls : Array Slot) (c1 s1 : Nat), c1 ≤ 661124 → s1 ≤ 7118252 → va_S (fun q => r ≤ q) s.heap H locs → W p l e room_1 s m args below meth c H locs (c1) (s1) Qz (F0 m 1097 ls [.int 1])) {ls : Array Slot} (hl : lv_has ls 15 [(0, .ref b)]) : W p l e room_1 s m args below meth c s.heap [] 0 0 Qz (F0 m 0 ls []) := by
  have hS : va_S (fun q => r ≤ q) s.heap s.heap [] := va_S.rf
  have hP : va_P D vwCl [] s.heap := fun k q h => by simp at h
  refine gnew (ci := 6) (C := RX6) (T := TX6) (N := 4) (fs := [.null, .null, .null, .null]) hx hb hts awsX60 tyX6_ok hown qL_L_10 qN_X6 qK_X6 hK hP hS hsz0 rfl (fun j hj => by rcases (show j = 0 ∨ j = 1 ∨ j = 2 ∨ j = 3 by omega) with rfl | rfl | rfl | rfl <;> rfl) (Nat.le_of_ble_eq_true rfl) (Nat.le_of_ble_eq_true rfl) dL_law_0 (fun H hP hsz _ hS => ?_)
  refine lv_dup hx hb dL_law_3 rfl ?_
  refine gcIv (As := []) (rest := [.ref r]) hx hb hml hown hts hl.1 (c_X6_init l D r) qC_X6_init qK_X6 qM_L_150 qI_X6_init rfl hdv_X6_init.2 ⟨(Nat.le_of_ble_eq_true rfl), (Nat.le_of_ble_eq_true rfl)⟩ (kPre_S hK hKa ⟨hsz, hP⟩) rfl (Nat.le_of_ble_eq_true rfl) ⟨(Nat.le_of_ble_eq_true rfl), (Nat.le_of_ble_eq_true rfl)⟩ dL_law_4 hS (fun q h => h) (fun H locs hN _ _ hS => ?_)
  obtain ⟨hsz, hG0⟩ := hN
  have hG : St D r P0 (fun _ => P0) 0 H := ⟨_, _, _, _, _, _, _, _, hG0, ⟨Iv_0.1, by omega, fun i hi => absurd hi (by omega)⟩, rfl⟩
  refine lv_astore_n (lv' := [(1, .ref r), (0, .ref b)]) hx hb dL_law_7 rfl hl (by decide) rfl (fun ls hl => ?_)
  exact law_pre hl0 hx hb hml hown hts hK hKx hX hbl hsz0 hL0 (by omega) (by omega) (fun H locs ls hG hS hl => law_loop hl0 hx hb hml hown hts hK hKx hX hbl hsz0 hL0 kk 40 0 _ _ P0 _ _ 0 H locs ls rfl (by omega) (by omega) (Or.inl rfl) Iv_0 hG hS hl) H locs ls hG hS (lv_sub hl [1, 0] rfl)
