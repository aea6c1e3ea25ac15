/-! The cases of one turn of the law's loop. -/
set_option maxHeartbeats 4000000 in
set_option maxRecDepth 100000 in
theorem law_c0 {p : Program} {l : Launch} {e : Env} {s : State} {m : MethodId} {args : Array Value} {below : List Frame} {meth : Method} {c : Code} {Qz : State → Prop} {D : va_G} {b L r : Nat} {xs : Nat → Int32} {P : Nat → Int32} {Q : Nat → Nat → Int32} {n h i : Nat} {y : Int32} {c0 s0 : Nat} (hl0 : l.stackTraces = false) (hx : p.tables.exec = Jvm.exec) (hb : c.code = cL_law) (hml : c.maxLocals = 15) (hown : s.vm.findClass RL = some m.cls) (hts : ∀ w ∈ AW, w.before args s = true) (hK : Kn D s) (hKx : Kx r s) (hX : va_X b L xs s s.heap) (hbl : b < r) (hsz0 : s.heap.size = r) (hL0 : L ≤ 260) (hI : Iv h P) (hc0 : c0 ≤ 600000) (hs0 : s0 ≤ 7000000)  (kk : ∀ (P1 : Nat → Int32) (Q1 : Nat → Nat → Int32) (n1 h1 : Nat) (H : Heap) (locs : List Loc) (ls : Array Slot), Iv h1 P1 → 1 ≤ ns P1 → St D r P1 Q1 n1 H → va_S (fun q => r ≤ q) s.heap H locs → lv_has ls 15 [(0, .ref b), (1, .ref r), (2, .int (nI i)), (4, .int y)] → W p l e room_1 s m args below meth c H locs (c0 + 360) (s0 + 2160) Qz (F0 m 1058 ls [])) (H : Heap) (locs : List Loc) (ls : Array Slot) (hG : St D r P Q n H) (hS : va_S (fun q => r ≤ q) s.heap H locs) (hl : lv_has ls 15 [(0, .ref b), (1, .ref r), (2, .int (nI i)), (4, .int y), (5, .int (nI (ns P)))]) : W p l e room_1 s m args below meth c H locs (c0) (s0) Qz (F0 m 158 ls []) := by
  have hAr : ∀ q, inS r q → r ≤ q := fun q h => h.1
  obtain ⟨z0, z00, z1, z2, hN1, hN2, z5, z7, ⟨S9, S91, z3⟩, k9, k91, z6⟩ := snd_rest hI
  refine lv_bipush (v := 10) hx hb dL_law_158 (by decide) ?_
  refine topN (n := 10) rfl ?_
  refine lv_iload hx hb dL_law_160 (lv_at hl 3 rfl) ?_
  refine lv_iload hx hb dL_law_162 (lv_at hl 3 rfl) ?_
  refine lv_bipush (v := 20) hx hb dL_law_164 (by decide) ?_
  refine lv_ishr hx hb dL_law_166 ?_
  refine lv_topi (fun ya eya => ?_)
  refine lv_iconst (v := 2) hx hb dL_law_167 (by decide) ?_
  refine topN (n := 2) rfl ?_
  obtain ⟨za, ezza, hza1⟩ : ∃ z, lowN ya 2 = z ∧ z < 2 := ⟨_, rfl, lowN_lt (by decide)⟩
  refine gcSi (As := [.int ya, .int (nI 2)]) (rest := [.int y, .int (nI 10)]) hx hb hml hown hts hl.1 hK (c_L_low l D (fun H => St D r P Q n H) ya 2 (by decide) (by decide)) (gaS qM_L_121 qT_L_low qK_L qC_L_low) hds_L_low ⟨(Nat.le_of_ble_eq_true rfl), (Nat.le_of_ble_eq_true rfl)⟩ hG rfl (Nat.le_of_ble_eq_true rfl) ⟨(by show c0 ≤ 661124; omega), (by show s0 ≤ 7118252; omega)⟩ dL_law_168 hS (fun _ h => False.elim h) (fun H locs hG _ hq hS => ?_)
  have hG : St D r P Q n H := hG
  refine topN (n := za) (by rw [ezza]) ?_
  have K183 : ∀ (N9 : Nat) (H : Heap) (locs : List Loc) (ls : Array Slot) (hN9 : N9 = 1991 ∨ N9 = 300) (hG : St D r P Q n H) (hS : va_S (fun q => r ≤ q) s.heap H locs) (hl : lv_has ls 15 [(0, .ref b), (1, .ref r), (2, .int (nI i)), (4, .int y), (5, .int (nI (ns P)))]), W p l e room_1 s m args below meth c H locs (c0) (s0) (Qz) (F0 m 183 ls [.int (nI N9), .int y, .int (nI 10)]) := by
    intro N9 H locs ls hN9 hG hS hl
    obtain ⟨len, ezlen, hlen1⟩ : ∃ z, lowN y N9 = z ∧ z < N9 := ⟨_, rfl, lowN_lt (by omega)⟩
    refine gcSi (As := [.int y, .int (nI N9)]) (rest := [.int (nI 10)]) hx hb hml hown hts hl.1 hK (c_L_low l D (fun H => St D r P Q n H) y N9 (by omega) (by omega)) (gaS qM_L_121 qT_L_low qK_L qC_L_low) hds_L_low ⟨(Nat.le_of_ble_eq_true rfl), (Nat.le_of_ble_eq_true rfl)⟩ hG rfl (Nat.le_of_ble_eq_true rfl) ⟨(by show c0 ≤ 661124; omega), (by show s0 ≤ 7118252; omega)⟩ dL_law_183 hS (fun _ h => False.elim h) (fun H locs hG _ hq hS => ?_)
    have hG : St D r P Q n H := hG
    refine topN (n := len) (by rw [ezlen]) ?_
    refine iaddN (a := 10) (b := len) hx hb dL_law_186 ?_
    refine lv_istore (lv' := [(9, .int (nI (10 + len))), (0, .ref b), (1, .ref r), (2, .int (nI i)), (4, .int y), (5, .int (nI (ns P)))]) hx hb dL_law_187 hl (by decide) rfl (fun ls hl => ?_)
    refine lv_aload_n hx hb dL_law_189 rfl (lv_at hl 2 rfl) ?_
    refine lv_iload hx hb dL_law_190 (lv_at hl 0 rfl) ?_
    refine lv_iload hx hb dL_law_192 (lv_at hl 4 rfl) ?_
    refine lv_bipush (v := 11) hx hb dL_law_194 (by decide) ?_
    refine lv_ishr hx hb dL_law_196 ?_
    refine lv_topi (fun yb eyb => ?_)
    refine lv_iconst (v := 3) hx hb dL_law_197 (by decide) ?_
    refine topN (n := 3) rfl ?_
    obtain ⟨pri, ezpri, hpri1⟩ : ∃ z, lowN yb 3 = z ∧ z < 3 := ⟨_, rfl, lowN_lt (by decide)⟩
    refine gcSi (As := [.int yb, .int (nI 3)]) (rest := [.int (nI (10 + len)), .ref r]) hx hb hml hown hts hl.1 hK (c_L_low l D (fun H => St D r P Q n H) yb 3 (by decide) (by decide)) (gaS qM_L_121 qT_L_low qK_L qC_L_low) hds_L_low ⟨(Nat.le_of_ble_eq_true rfl), (Nat.le_of_ble_eq_true rfl)⟩ hG rfl (Nat.le_of_ble_eq_true rfl) ⟨(by show c0 ≤ 661124; omega), (by show s0 ≤ 7118252; omega)⟩ dL_law_198 hS (fun _ h => False.elim h) (fun H locs hG _ hq hS => ?_)
    have hG : St D r P Q n H := hG
    refine topN (n := pri) (by rw [ezpri]) ?_
    rcases Nat.lt_or_ge (ns P) 20 with hc | hc
    · obtain ⟨iv1, iv2, iv3⟩ := Iv_street (L := 10 + len) (p := pri) hI (by omega) (by omega) hc
      obtain ⟨rd0, rd1, rd2⟩ := rd_street (P := P) (L := 10 + len) (p := pri)
      refine lwS (As := [.ref r, .int (nI (10 + len)), .int (nI pri)]) (rest := []) hx hb hml hown hts hl.1 hK hKx (fun _ h => h) (c_L_addStreet l hl0 D r P Q n (sP_street P (10 + len) pri) (svQ Q n P) (svN n + 1) (nI (ns P)) (nI (10 + len)) (nI pri) (fun C G hd => E_addStreet (by omega) (by omega) hc hd)) (gHS qM_L_133 qT_L_addStreet qK_L qC_L_addStreet) hds_L_addStreet ⟨(Nat.le_of_ble_eq_true rfl), (Nat.le_of_ble_eq_true rfl)⟩ hG rfl (Nat.le_of_ble_eq_true rfl) ⟨(by show c0 + 3 ≤ 661124; omega), (by show s0 + 18 ≤ 7118252; omega)⟩ dL_law_201 hS hAr (fun H locs hG hz hq hS => ?_)
      have hG : St D r (sP_street P (10 + len) pri) (svQ Q n P) (svN n + 1) H := hG
      clear hz hq
      refine topN (n := ns P) rfl ?_
      refine lv_istore (lv' := [(10, .int (nI (ns P))), (9, .int (nI (10 + len))), (0, .ref b), (1, .ref r), (2, .int (nI i)), (4, .int y), (5, .int (nI (ns P)))]) hx hb dL_law_204 hl (by decide) rfl (fun ls hl => ?_)
      refine lv_iload hx hb dL_law_206 (lv_at hl 0 rfl) ?_
      refine lv_iload hx hb dL_law_208 (lv_at hl 6 rfl) ?_
      refine lv_bipush (v := 20) hx hb dL_law_210 (by decide) ?_
      refine topN (n := 20) rfl ?_
      refine lv_icmp_ne (tgt := 220) hx hb dL_law_212 (by decide) (fun c212 => ?_) (fun c212 => ?_)
      · have c212 : ¬ ns P = 20 := fun hh9 => c212 ((nI_eq (a := ns P) (b := 20) (by omega) (by omega)).mpr hh9)
        refine lv_iload hx hb dL_law_220 (lv_at hl 6 rfl) ?_
        refine lv_icmp_ne (tgt := 264) hx hb dL_law_222 (by decide) (fun c222 => ?_) (fun c222 => ?_)
        · have c222 : ¬ ns P = ns P := fun hh9 => c222 ((nI_eq (a := ns P) (b := ns P) (by omega) (by omega)).mpr hh9)
          exact absurd c222 (by omega)
        · have c222 : ns P = ns P := (nI_eq (a := ns P) (b := ns P) (by omega) (by omega)).mp c222
          refine lv_iload hx hb dL_law_225 (lv_at hl 0 rfl) ?_
          refine lv_if_lt (tgt := 266) hx hb dL_law_227 (by decide) (fun c227 => ?_) (fun c227 => ?_)
          · have c227 : ns P < 0 := (nI_ltI (a := ns P) (b := 0) (by omega) (by omega)).mp c227
            exact absurd c227 (by omega)
          · have c227 : ¬ ns P < 0 := fun hh9 => c227 ((nI_ltI (a := ns P) (b := 0) (by omega) (by omega)).mpr hh9)
            refine lv_aload_n hx hb dL_law_230 rfl (lv_at hl 3 rfl) ?_
            refine lv_iload hx hb dL_law_231 (lv_at hl 0 rfl) ?_
            refine lv_iconst (v := 0) hx hb dL_law_233 (by decide) ?_
            refine lwS (As := [.ref r, .int (nI (ns P)), .int 0]) (rest := []) hx hb hml hown hts hl.1 hK hKx (fun _ h => h) (c_L_street l hl0 D r (sP_street P (10 + len) pri) (svQ Q n P) (svN n + 1) ((sP_street P (10 + len) pri) (9 + 8 * (ns P) + 0)) (nI (ns P)) 0 (fun C h => (R_street (i := ns P) (k := 0) h (by omega) rfl (by decide)).trans rfl)) (gHS qM_L_95 qT_L_street qK_L qC_L_street) hds_L_street ⟨(Nat.le_of_ble_eq_true rfl), (Nat.le_of_ble_eq_true rfl)⟩ hG rfl (Nat.le_of_ble_eq_true rfl) ⟨(by show c0 + 3 + 2 ≤ 661124; omega), (by show s0 + 18 + 12 ≤ 7118252; omega)⟩ dL_law_234 hS hAr (fun H locs hG hz hq hS => ?_)
            have hG : St D r (sP_street P (10 + len) pri) (svQ Q n P) (svN n + 1) H := hG
            clear hz hq
            refine topN (n := 10 + len) rd0 ?_
            refine lv_iload hx hb dL_law_237 (lv_at hl 1 rfl) ?_
            refine lv_icmp_ne (tgt := 264) hx hb dL_law_239 (by decide) (fun c239 => ?_) (fun c239 => ?_)
            · have c239 : ¬ 10 + len = 10 + len := fun hh9 => c239 ((nI_eq (a := 10 + len) (b := 10 + len) (by omega) (by omega)).mpr hh9)
              exact absurd c239 (by omega)
            · have c239 : 10 + len = 10 + len := (nI_eq (a := 10 + len) (b := 10 + len) (by omega) (by omega)).mp c239
              refine lv_aload_n hx hb dL_law_242 rfl (lv_at hl 3 rfl) ?_
              refine lv_iload hx hb dL_law_243 (lv_at hl 0 rfl) ?_
              refine lv_bipush (v := 8) hx hb dL_law_245 (by decide) ?_
              refine lwS (As := [.ref r, .int (nI (ns P)), .int 8]) (rest := []) hx hb hml hown hts hl.1 hK hKx (fun _ h => h) (c_L_street l hl0 D r (sP_street P (10 + len) pri) (svQ Q n P) (svN n + 1) ((sP_street P (10 + len) pri) (9 + 8 * (ns P) + 7)) (nI (ns P)) 8 (fun C h => (R_street (i := ns P) (k := 8) h (by omega) rfl (by decide)).trans rfl)) (gHS qM_L_95 qT_L_street qK_L qC_L_street) hds_L_street ⟨(Nat.le_of_ble_eq_true rfl), (Nat.le_of_ble_eq_true rfl)⟩ hG rfl (Nat.le_of_ble_eq_true rfl) ⟨(by show c0 + 3 + 2 + 2 ≤ 661124; omega), (by show s0 + 18 + 12 + 12 ≤ 7118252; omega)⟩ dL_law_247 hS hAr (fun H locs hG hz hq hS => ?_)
              have hG : St D r (sP_street P (10 + len) pri) (svQ Q n P) (svN n + 1) H := hG
              clear hz hq
              refine topE (y := (-1)) rd1 ?_
              refine lv_iconst (v := (-1)) hx hb dL_law_250 (by decide) ?_
              refine lv_icmp_ne (tgt := 264) hx hb dL_law_251 (by decide) (fun c251 => ?_) (fun c251 => ?_)
              · exact absurd c251 (by decide)
              · refine lv_aload_n hx hb dL_law_254 rfl (lv_at hl 3 rfl) ?_
                refine lv_iload hx hb dL_law_255 (lv_at hl 0 rfl) ?_
                refine lv_iconst (v := 5) hx hb dL_law_257 (by decide) ?_
                refine lwS (As := [.ref r, .int (nI (ns P)), .int 5]) (rest := []) hx hb hml hown hts hl.1 hK hKx (fun _ h => h) (c_L_street l hl0 D r (sP_street P (10 + len) pri) (svQ Q n P) (svN n + 1) ((sP_street P (10 + len) pri) (9 + 8 * (ns P) + 5)) (nI (ns P)) 5 (fun C h => (R_street (i := ns P) (k := 5) h (by omega) rfl (by decide)).trans rfl)) (gHS qM_L_95 qT_L_street qK_L qC_L_street) hds_L_street ⟨(Nat.le_of_ble_eq_true rfl), (Nat.le_of_ble_eq_true rfl)⟩ hG rfl (Nat.le_of_ble_eq_true rfl) ⟨(by show c0 + 3 + 2 + 2 + 2 ≤ 661124; omega), (by show s0 + 18 + 12 + 12 + 12 ≤ 7118252; omega)⟩ dL_law_258 hS hAr (fun H locs hG hz hq hS => ?_)
                have hG : St D r (sP_street P (10 + len) pri) (svQ Q n P) (svN n + 1) H := hG
                clear hz hq
                refine topE (y := 0) rd2 ?_
                refine lv_if_eq (tgt := 266) hx hb dL_law_261 (by decide) (fun c261 => ?_) (fun c261 => ?_)
                · refine lv_goto (tgt := 1058) hx hb dL_law_266 (by decide) ?_
                  refine W.widen (k := c0 + 360) (n := s0 + 2160) (by omega) (by omega) ?_
                  exact kk (sP_street P (10 + len) pri) (svQ Q n P) (svN n + 1) _ _ _ _ iv1 (by omega) hG hS (lv_sub hl [2, 3, 4, 5] rfl)
                · exact absurd c261 (by decide)
      · have c212 : ns P = 20 := (nI_eq (a := ns P) (b := 20) (by omega) (by omega)).mp c212
        exact absurd c212 (by omega)
    · refine lwS (As := [.ref r, .int (nI (10 + len)), .int (nI pri)]) (rest := []) hx hb hml hown hts hl.1 hK hKx (fun _ h => h) (c_L_addStreet l hl0 D r P Q n P Q n (-90200) (nI (10 + len)) (nI pri) (fun C G hd => E_addStreet_f (by omega) (by omega) (by omega) hd)) (gHS qM_L_133 qT_L_addStreet qK_L qC_L_addStreet) hds_L_addStreet ⟨(Nat.le_of_ble_eq_true rfl), (Nat.le_of_ble_eq_true rfl)⟩ hG rfl (Nat.le_of_ble_eq_true rfl) ⟨(by show c0 + 3 ≤ 661124; omega), (by show s0 + 18 ≤ 7118252; omega)⟩ dL_law_201 hS hAr (fun H locs hG hz hq hS => ?_)
      have hG : St D r P Q n H := hG
      clear hz hq
      refine lv_istore (lv' := [(10, .int (-90200)), (9, .int (nI (10 + len))), (0, .ref b), (1, .ref r), (2, .int (nI i)), (4, .int y), (5, .int (nI (ns P)))]) hx hb dL_law_204 hl (by decide) rfl (fun ls hl => ?_)
      refine lv_iload hx hb dL_law_206 (lv_at hl 0 rfl) ?_
      refine lv_iload hx hb dL_law_208 (lv_at hl 6 rfl) ?_
      refine lv_bipush (v := 20) hx hb dL_law_210 (by decide) ?_
      refine topN (n := 20) rfl ?_
      refine lv_icmp_ne (tgt := 220) hx hb dL_law_212 (by decide) (fun c212 => ?_) (fun c212 => ?_)
      · have c212 : ¬ ns P = 20 := fun hh9 => c212 ((nI_eq (a := ns P) (b := 20) (by omega) (by omega)).mpr hh9)
        exact absurd c212 (by omega)
      · have c212 : ns P = 20 := (nI_eq (a := ns P) (b := 20) (by omega) (by omega)).mp c212
        refine lv_ldc hx hb hown (hts _ qV_L_20) dL_law_215 ?_
        refine lv_goto (tgt := 222) hx hb dL_law_217 (by decide) ?_
        refine lv_icmp_ne (tgt := 264) hx hb dL_law_222 (by decide) (fun c222 => ?_) (fun c222 => ?_)
        · exact absurd c222 (by decide)
        · refine lv_iload hx hb dL_law_225 (lv_at hl 0 rfl) ?_
          refine lv_if_lt (tgt := 266) hx hb dL_law_227 (by decide) (fun c227 => ?_) (fun c227 => ?_)
          · refine lv_goto (tgt := 1058) hx hb dL_law_266 (by decide) ?_
            refine W.widen (k := c0 + 360) (n := s0 + 2160) (by omega) (by omega) ?_
            exact kk P Q n _ _ _ _ hI (by omega) hG hS (lv_sub hl [2, 3, 4, 5] rfl)
          · exact absurd c227 (by decide)
  refine lv_if_ne (tgt := 180) hx hb dL_law_171 (by decide) (fun c171 => ?_) (fun c171 => ?_)
  · have c171 : ¬ za = 0 := fun hh9 => c171 ((nI_eq (a := za) (b := 0) (by omega) (by omega)).mpr hh9)
    refine lv_sipush (v := 300) hx hb dL_law_180 (by decide) ?_
    refine topN (n := 300) rfl ?_
    exact K183 300 _ _ _ (by first | assumption | omega) hG hS (lv_sub hl [0, 1, 2, 3, 4] rfl)
  · have c171 : za = 0 := (nI_eq (a := za) (b := 0) (by omega) (by omega)).mp c171
    refine lv_sipush (v := 1991) hx hb dL_law_174 (by decide) ?_
    refine topN (n := 1991) rfl ?_
    refine lv_goto (tgt := 183) hx hb dL_law_177 (by decide) ?_
    exact K183 1991 _ _ _ (by first | assumption | omega) hG hS (lv_sub hl [0, 1, 2, 3, 4] rfl)

set_option maxHeartbeats 4000000 in
set_option maxRecDepth 100000 in
theorem law_c1 {p : Program} {l : Launch} {e : Env} {s : State} {m : MethodId} {args : Array Value} {below : List Frame} {meth : Method} {c : Code} {Qz : State → Prop} {D : va_G} {b L r : Nat} {xs : Nat → Int32} {P : Nat → Int32} {Q : Nat → Nat → Int32} {n h i : Nat} {y : Int32} {c0 s0 : Nat} (hl0 : l.stackTraces = false) (hx : p.tables.exec = Jvm.exec) (hb : c.code = cL_law) (hml : c.maxLocals = 15) (hown : s.vm.findClass RL = some m.cls) (hts : ∀ w ∈ AW, w.before args s = true) (hK : Kn D s) (hKx : Kx r s) (hX : va_X b L xs s s.heap) (hbl : b < r) (hsz0 : s.heap.size = r) (hL0 : L ≤ 260) (hI : Iv h P) (hc0 : c0 ≤ 600000) (hs0 : s0 ≤ 7000000) (h1s : 1 ≤ ns P) (kk : ∀ (P1 : Nat → Int32) (Q1 : Nat → Nat → Int32) (n1 h1 : Nat) (H : Heap) (locs : List Loc) (ls : Array Slot), Iv h1 P1 → 1 ≤ ns P1 → St D r P1 Q1 n1 H → va_S (fun q => r ≤ q) s.heap H locs → lv_has ls 15 [(0, .ref b), (1, .ref r), (2, .int (nI i)), (4, .int y)] → W p l e room_1 s m args below meth c H locs (c0 + 360) (s0 + 2160) Qz (F0 m 1058 ls [])) (H : Heap) (locs : List Loc) (ls : Array Slot) (hG : St D r P Q n H) (hS : va_S (fun q => r ≤ q) s.heap H locs) (hl : lv_has ls 15 [(0, .ref b), (1, .ref r), (2, .int (nI i)), (4, .int y), (6, .int (nI (np P)))]) : W p l e room_1 s m args below meth c H locs (c0) (s0) Qz (F0 m 275 ls []) := by
  have hAr : ∀ q, inS r q → r ≤ q := fun q h => h.1
  obtain ⟨z0, z00, z1, z2, hN1, hN2, z5, z7, ⟨S9, S91, z3⟩, k9, k91, z6⟩ := snd_rest hI
  refine lv_bipush (v := 100) hx hb dL_law_275 (by decide) ?_
  refine topN (n := 100) rfl ?_
  refine lv_iload hx hb dL_law_277 (lv_at hl 3 rfl) ?_
  refine lv_iload hx hb dL_law_279 (lv_at hl 3 rfl) ?_
  refine lv_bipush (v := 20) hx hb dL_law_281 (by decide) ?_
  refine lv_ishr hx hb dL_law_283 ?_
  refine lv_topi (fun ya eya => ?_)
  refine lv_iconst (v := 2) hx hb dL_law_284 (by decide) ?_
  refine topN (n := 2) rfl ?_
  obtain ⟨za, ezza, hza1⟩ : ∃ z, lowN ya 2 = z ∧ z < 2 := ⟨_, rfl, lowN_lt (by decide)⟩
  refine gcSi (As := [.int ya, .int (nI 2)]) (rest := [.int y, .int (nI 100)]) hx hb hml hown hts hl.1 hK (c_L_low l D (fun H => St D r P Q n H) ya 2 (by decide) (by decide)) (gaS qM_L_121 qT_L_low qK_L qC_L_low) hds_L_low ⟨(Nat.le_of_ble_eq_true rfl), (Nat.le_of_ble_eq_true rfl)⟩ hG rfl (Nat.le_of_ble_eq_true rfl) ⟨(by show c0 ≤ 661124; omega), (by show s0 ≤ 7118252; omega)⟩ dL_law_285 hS (fun _ h => False.elim h) (fun H locs hG _ hq hS => ?_)
  have hG : St D r P Q n H := hG
  refine topN (n := za) (by rw [ezza]) ?_
  have K300 : ∀ (N9 : Nat) (H : Heap) (locs : List Loc) (ls : Array Slot) (hN9 : N9 = 4901 ∨ N9 = 800) (hG : St D r P Q n H) (hS : va_S (fun q => r ≤ q) s.heap H locs) (hl : lv_has ls 15 [(0, .ref b), (1, .ref r), (2, .int (nI i)), (4, .int y), (6, .int (nI (np P)))]), W p l e room_1 s m args below meth c H locs (c0) (s0) (Qz) (F0 m 300 ls [.int (nI N9), .int y, .int (nI 100)]) := by
    intro N9 H locs ls hN9 hG hS hl
    obtain ⟨len, ezlen, hlen1⟩ : ∃ z, lowN y N9 = z ∧ z < N9 := ⟨_, rfl, lowN_lt (by omega)⟩
    refine gcSi (As := [.int y, .int (nI N9)]) (rest := [.int (nI 100)]) hx hb hml hown hts hl.1 hK (c_L_low l D (fun H => St D r P Q n H) y N9 (by omega) (by omega)) (gaS qM_L_121 qT_L_low qK_L qC_L_low) hds_L_low ⟨(Nat.le_of_ble_eq_true rfl), (Nat.le_of_ble_eq_true rfl)⟩ hG rfl (Nat.le_of_ble_eq_true rfl) ⟨(by show c0 ≤ 661124; omega), (by show s0 ≤ 7118252; omega)⟩ dL_law_300 hS (fun _ h => False.elim h) (fun H locs hG _ hq hS => ?_)
    have hG : St D r P Q n H := hG
    refine topN (n := len) (by rw [ezlen]) ?_
    refine iaddN (a := 100) (b := len) hx hb dL_law_303 ?_
    refine lv_istore (lv' := [(9, .int (nI (100 + len))), (0, .ref b), (1, .ref r), (2, .int (nI i)), (4, .int y), (6, .int (nI (np P)))]) hx hb dL_law_304 hl (by decide) rfl (fun ls hl => ?_)
    refine lv_aload_n hx hb dL_law_306 rfl (lv_at hl 2 rfl) ?_
    refine lv_iload hx hb dL_law_307 (lv_at hl 0 rfl) ?_
    refine lv_iload hx hb dL_law_309 (lv_at hl 4 rfl) ?_
    refine lv_bipush (v := 12) hx hb dL_law_311 (by decide) ?_
    refine lv_ishr hx hb dL_law_313 ?_
    refine lv_topi (fun yb eyb => ?_)
    refine lv_bipush (v := 80) hx hb dL_law_314 (by decide) ?_
    refine topN (n := 80) rfl ?_
    obtain ⟨cap, ezcap, hcap1⟩ : ∃ z, lowN yb 80 = z ∧ z < 80 := ⟨_, rfl, lowN_lt (by decide)⟩
    refine gcSi (As := [.int yb, .int (nI 80)]) (rest := [.int (nI (100 + len)), .ref r]) hx hb hml hown hts hl.1 hK (c_L_low l D (fun H => St D r P Q n H) yb 80 (by decide) (by decide)) (gaS qM_L_121 qT_L_low qK_L qC_L_low) hds_L_low ⟨(Nat.le_of_ble_eq_true rfl), (Nat.le_of_ble_eq_true rfl)⟩ hG rfl (Nat.le_of_ble_eq_true rfl) ⟨(by show c0 ≤ 661124; omega), (by show s0 ≤ 7118252; omega)⟩ dL_law_316 hS (fun _ h => False.elim h) (fun H locs hG _ hq hS => ?_)
    have hG : St D r P Q n H := hG
    refine topN (n := cap) (by rw [ezcap]) ?_
    rcases Nat.lt_or_ge (np P) 3 with hc | hc
    · obtain ⟨iv1, iv2, iv3⟩ := Iv_plow (s := 100 + len) (c := cap) hI (by omega) (by omega) hc
      obtain ⟨rd0, rd1, rd2⟩ := rd_plow (P := P) (s := 100 + len) (c := cap)
      refine lwS (As := [.ref r, .int (nI (100 + len)), .int (nI cap)]) (rest := []) hx hb hml hown hts hl.1 hK hKx (fun _ h => h) (c_L_addPlow l hl0 D r P Q n (sP_plow P (100 + len) cap) (svQ Q n P) (svN n + 1) (nI (np P)) (nI (100 + len)) (nI cap) (fun C G hd => E_addPlow (by omega) (by omega) hc hd)) (gHS qM_L_135 qT_L_addPlow qK_L qC_L_addPlow) hds_L_addPlow ⟨(Nat.le_of_ble_eq_true rfl), (Nat.le_of_ble_eq_true rfl)⟩ hG rfl (Nat.le_of_ble_eq_true rfl) ⟨(by show c0 + 3 ≤ 661124; omega), (by show s0 + 18 ≤ 7118252; omega)⟩ dL_law_319 hS hAr (fun H locs hG hz hq hS => ?_)
      have hG : St D r (sP_plow P (100 + len) cap) (svQ Q n P) (svN n + 1) H := hG
      clear hz hq
      refine topN (n := np P) rfl ?_
      refine lv_istore (lv' := [(10, .int (nI (np P))), (9, .int (nI (100 + len))), (0, .ref b), (1, .ref r), (2, .int (nI i)), (4, .int y), (6, .int (nI (np P)))]) hx hb dL_law_322 hl (by decide) rfl (fun ls hl => ?_)
      refine lv_iload hx hb dL_law_324 (lv_at hl 0 rfl) ?_
      refine lv_iload hx hb dL_law_326 (lv_at hl 6 rfl) ?_
      refine lv_iconst (v := 3) hx hb dL_law_328 (by decide) ?_
      refine topN (n := 3) rfl ?_
      refine lv_icmp_ne (tgt := 337) hx hb dL_law_329 (by decide) (fun c329 => ?_) (fun c329 => ?_)
      · have c329 : ¬ np P = 3 := fun hh9 => c329 ((nI_eq (a := np P) (b := 3) (by omega) (by omega)).mpr hh9)
        refine lv_iload hx hb dL_law_337 (lv_at hl 6 rfl) ?_
        refine lv_icmp_ne (tgt := 379) hx hb dL_law_339 (by decide) (fun c339 => ?_) (fun c339 => ?_)
        · have c339 : ¬ np P = np P := fun hh9 => c339 ((nI_eq (a := np P) (b := np P) (by omega) (by omega)).mpr hh9)
          exact absurd c339 (by omega)
        · have c339 : np P = np P := (nI_eq (a := np P) (b := np P) (by omega) (by omega)).mp c339
          refine lv_iload hx hb dL_law_342 (lv_at hl 0 rfl) ?_
          refine lv_if_lt (tgt := 381) hx hb dL_law_344 (by decide) (fun c344 => ?_) (fun c344 => ?_)
          · have c344 : np P < 0 := (nI_ltI (a := np P) (b := 0) (by omega) (by omega)).mp c344
            exact absurd c344 (by omega)
          · have c344 : ¬ np P < 0 := fun hh9 => c344 ((nI_ltI (a := np P) (b := 0) (by omega) (by omega)).mpr hh9)
            refine lv_aload_n hx hb dL_law_347 rfl (lv_at hl 3 rfl) ?_
            refine lv_iload hx hb dL_law_348 (lv_at hl 0 rfl) ?_
            refine lv_iconst (v := 0) hx hb dL_law_350 (by decide) ?_
            refine lwS (As := [.ref r, .int (nI (np P)), .int 0]) (rest := []) hx hb hml hown hts hl.1 hK hKx (fun _ h => h) (c_L_plow l hl0 D r (sP_plow P (100 + len) cap) (svQ Q n P) (svN n + 1) ((sP_plow P (100 + len) cap) (169 + 20 * (np P) + 0)) (nI (np P)) 0 (fun C h => R_plow (q := np P) (k := 0) h (by omega) rfl (by decide))) (gHS qM_L_100 qT_L_plow qK_L qC_L_plow) hds_L_plow ⟨(Nat.le_of_ble_eq_true rfl), (Nat.le_of_ble_eq_true rfl)⟩ hG rfl (Nat.le_of_ble_eq_true rfl) ⟨(by show c0 + 3 + 2 ≤ 661124; omega), (by show s0 + 18 + 12 ≤ 7118252; omega)⟩ dL_law_351 hS hAr (fun H locs hG hz hq hS => ?_)
            have hG : St D r (sP_plow P (100 + len) cap) (svQ Q n P) (svN n + 1) H := hG
            clear hz hq
            refine topN (n := 100 + len) rd0 ?_
            refine lv_iload hx hb dL_law_354 (lv_at hl 1 rfl) ?_
            refine lv_icmp_ne (tgt := 379) hx hb dL_law_356 (by decide) (fun c356 => ?_) (fun c356 => ?_)
            · have c356 : ¬ 100 + len = 100 + len := fun hh9 => c356 ((nI_eq (a := 100 + len) (b := 100 + len) (by omega) (by omega)).mpr hh9)
              exact absurd c356 (by omega)
            · have c356 : 100 + len = 100 + len := (nI_eq (a := 100 + len) (b := 100 + len) (by omega) (by omega)).mp c356
              refine lv_aload_n hx hb dL_law_359 rfl (lv_at hl 3 rfl) ?_
              refine lv_iload hx hb dL_law_360 (lv_at hl 0 rfl) ?_
              refine lv_iconst (v := 2) hx hb dL_law_362 (by decide) ?_
              refine lwS (As := [.ref r, .int (nI (np P)), .int 2]) (rest := []) hx hb hml hown hts hl.1 hK hKx (fun _ h => h) (c_L_plow l hl0 D r (sP_plow P (100 + len) cap) (svQ Q n P) (svN n + 1) ((sP_plow P (100 + len) cap) (169 + 20 * (np P) + 2)) (nI (np P)) 2 (fun C h => R_plow (q := np P) (k := 2) h (by omega) rfl (by decide))) (gHS qM_L_100 qT_L_plow qK_L qC_L_plow) hds_L_plow ⟨(Nat.le_of_ble_eq_true rfl), (Nat.le_of_ble_eq_true rfl)⟩ hG rfl (Nat.le_of_ble_eq_true rfl) ⟨(by show c0 + 3 + 2 + 2 ≤ 661124; omega), (by show s0 + 18 + 12 + 12 ≤ 7118252; omega)⟩ dL_law_363 hS hAr (fun H locs hG hz hq hS => ?_)
              have hG : St D r (sP_plow P (100 + len) cap) (svQ Q n P) (svN n + 1) H := hG
              clear hz hq
              refine topE (y := 0) rd1 ?_
              refine lv_if_ne (tgt := 379) hx hb dL_law_366 (by decide) (fun c366 => ?_) (fun c366 => ?_)
              · exact absurd c366 (by decide)
              · refine lv_aload_n hx hb dL_law_369 rfl (lv_at hl 3 rfl) ?_
                refine lv_iload hx hb dL_law_370 (lv_at hl 0 rfl) ?_
                refine lv_iconst (v := 3) hx hb dL_law_372 (by decide) ?_
                refine lwS (As := [.ref r, .int (nI (np P)), .int 3]) (rest := []) hx hb hml hown hts hl.1 hK hKx (fun _ h => h) (c_L_plow l hl0 D r (sP_plow P (100 + len) cap) (svQ Q n P) (svN n + 1) ((sP_plow P (100 + len) cap) (169 + 20 * (np P) + 3)) (nI (np P)) 3 (fun C h => R_plow (q := np P) (k := 3) h (by omega) rfl (by decide))) (gHS qM_L_100 qT_L_plow qK_L qC_L_plow) hds_L_plow ⟨(Nat.le_of_ble_eq_true rfl), (Nat.le_of_ble_eq_true rfl)⟩ hG rfl (Nat.le_of_ble_eq_true rfl) ⟨(by show c0 + 3 + 2 + 2 + 2 ≤ 661124; omega), (by show s0 + 18 + 12 + 12 + 12 ≤ 7118252; omega)⟩ dL_law_373 hS hAr (fun H locs hG hz hq hS => ?_)
                have hG : St D r (sP_plow P (100 + len) cap) (svQ Q n P) (svN n + 1) H := hG
                clear hz hq
                refine topE (y := 0) rd2 ?_
                refine lv_if_eq (tgt := 381) hx hb dL_law_376 (by decide) (fun c376 => ?_) (fun c376 => ?_)
                · refine lv_goto (tgt := 1058) hx hb dL_law_381 (by decide) ?_
                  refine W.widen (k := c0 + 360) (n := s0 + 2160) (by omega) (by omega) ?_
                  exact kk (sP_plow P (100 + len) cap) (svQ Q n P) (svN n + 1) _ _ _ _ iv1 (by omega) hG hS (lv_sub hl [2, 3, 4, 5] rfl)
                · exact absurd c376 (by decide)
      · have c329 : np P = 3 := (nI_eq (a := np P) (b := 3) (by omega) (by omega)).mp c329
        exact absurd c329 (by omega)
    · refine lwS (As := [.ref r, .int (nI (100 + len)), .int (nI cap)]) (rest := []) hx hb hml hown hts hl.1 hK hKx (fun _ h => h) (c_L_addPlow l hl0 D r P Q n P Q n (-90200) (nI (100 + len)) (nI cap) (fun C G hd => E_addPlow_f (by omega) (by omega) (by omega) hd)) (gHS qM_L_135 qT_L_addPlow qK_L qC_L_addPlow) hds_L_addPlow ⟨(Nat.le_of_ble_eq_true rfl), (Nat.le_of_ble_eq_true rfl)⟩ hG rfl (Nat.le_of_ble_eq_true rfl) ⟨(by show c0 + 3 ≤ 661124; omega), (by show s0 + 18 ≤ 7118252; omega)⟩ dL_law_319 hS hAr (fun H locs hG hz hq hS => ?_)
      have hG : St D r P Q n H := hG
      clear hz hq
      refine lv_istore (lv' := [(10, .int (-90200)), (9, .int (nI (100 + len))), (0, .ref b), (1, .ref r), (2, .int (nI i)), (4, .int y), (6, .int (nI (np P)))]) hx hb dL_law_322 hl (by decide) rfl (fun ls hl => ?_)
      refine lv_iload hx hb dL_law_324 (lv_at hl 0 rfl) ?_
      refine lv_iload hx hb dL_law_326 (lv_at hl 6 rfl) ?_
      refine lv_iconst (v := 3) hx hb dL_law_328 (by decide) ?_
      refine topN (n := 3) rfl ?_
      refine lv_icmp_ne (tgt := 337) hx hb dL_law_329 (by decide) (fun c329 => ?_) (fun c329 => ?_)
      · have c329 : ¬ np P = 3 := fun hh9 => c329 ((nI_eq (a := np P) (b := 3) (by omega) (by omega)).mpr hh9)
        exact absurd c329 (by omega)
      · have c329 : np P = 3 := (nI_eq (a := np P) (b := 3) (by omega) (by omega)).mp c329
        refine lv_ldc hx hb hown (hts _ qV_L_20) dL_law_332 ?_
        refine lv_goto (tgt := 339) hx hb dL_law_334 (by decide) ?_
        refine lv_icmp_ne (tgt := 379) hx hb dL_law_339 (by decide) (fun c339 => ?_) (fun c339 => ?_)
        · exact absurd c339 (by decide)
        · refine lv_iload hx hb dL_law_342 (lv_at hl 0 rfl) ?_
          refine lv_if_lt (tgt := 381) hx hb dL_law_344 (by decide) (fun c344 => ?_) (fun c344 => ?_)
          · refine lv_goto (tgt := 1058) hx hb dL_law_381 (by decide) ?_
            refine W.widen (k := c0 + 360) (n := s0 + 2160) (by omega) (by omega) ?_
            exact kk P Q n _ _ _ _ hI (by omega) hG hS (lv_sub hl [2, 3, 4, 5] rfl)
          · exact absurd c344 (by decide)
  refine lv_if_ne (tgt := 297) hx hb dL_law_288 (by decide) (fun c288 => ?_) (fun c288 => ?_)
  · have c288 : ¬ za = 0 := fun hh9 => c288 ((nI_eq (a := za) (b := 0) (by omega) (by omega)).mpr hh9)
    refine lv_sipush (v := 800) hx hb dL_law_297 (by decide) ?_
    refine topN (n := 800) rfl ?_
    exact K300 800 _ _ _ (by first | assumption | omega) hG hS (lv_sub hl [0, 1, 2, 3, 4] rfl)
  · have c288 : za = 0 := (nI_eq (a := za) (b := 0) (by omega) (by omega)).mp c288
    refine lv_sipush (v := 4901) hx hb dL_law_291 (by decide) ?_
    refine topN (n := 4901) rfl ?_
    refine lv_goto (tgt := 300) hx hb dL_law_294 (by decide) ?_
    exact K300 4901 _ _ _ (by first | assumption | omega) hG hS (lv_sub hl [0, 1, 2, 3, 4] rfl)

set_option maxHeartbeats 4000000 in
set_option maxRecDepth 100000 in
theorem law_c2 {p : Program} {l : Launch} {e : Env} {s : State} {m : MethodId} {args : Array Value} {below : List Frame} {meth : Method} {c : Code} {Qz : State → Prop} {D : va_G} {b L r : Nat} {xs : Nat → Int32} {P : Nat → Int32} {Q : Nat → Nat → Int32} {n h i q : Nat} {y : Int32} {c0 s0 : Nat} (hl0 : l.stackTraces = false) (hx : p.tables.exec = Jvm.exec) (hb : c.code = cL_law) (hml : c.maxLocals = 15) (hown : s.vm.findClass RL = some m.cls) (hts : ∀ w ∈ AW, w.before args s = true) (hK : Kn D s) (hKx : Kx r s) (hX : va_X b L xs s s.heap) (hbl : b < r) (hsz0 : s.heap.size = r) (hL0 : L ≤ 260) (hI : Iv h P) (hc0 : c0 ≤ 600000) (hs0 : s0 ≤ 7000000) (h1s : 1 ≤ ns P) (hqp : q < np P) (kk : ∀ (P1 : Nat → Int32) (Q1 : Nat → Nat → Int32) (n1 h1 : Nat) (H : Heap) (locs : List Loc) (ls : Array Slot), Iv h1 P1 → 1 ≤ ns P1 → St D r P1 Q1 n1 H → va_S (fun q => r ≤ q) s.heap H locs → lv_has ls 15 [(0, .ref b), (1, .ref r), (2, .int (nI i)), (4, .int y)] → W p l e room_1 s m args below meth c H locs (c0 + 360) (s0 + 2160) Qz (F0 m 1058 ls [])) (H : Heap) (locs : List Loc) (ls : Array Slot) (hG : St D r P Q n H) (hS : va_S (fun q => r ≤ q) s.heap H locs) (hl : lv_has ls 15 [(0, .ref b), (1, .ref r), (2, .int (nI i)), (4, .int y), (5, .int (nI (ns P))), (6, .int (nI (np P))), (8, .int (nI q))]) : W p l e room_1 s m args below meth c H locs (c0) (s0) Qz (F0 m 395 ls []) := by
  have hAr : ∀ q, inS r q → r ≤ q := fun q h => h.1
  obtain ⟨z0, z00, z1, z2, hN1, hN2, z5, z7, ⟨S9, S91, z3⟩, k9, k91, z6⟩ := snd_rest hI
  obtain ⟨K, b9, a9, g9, s9, ro, me, p0, s1, p1, K1, p2, b1, f3, nc1, p4, a1, a2, p5, g1, g2, p6, ro1, p7, z9, z9e, me1, sh⟩ := snd_plow hI hqp
  refine lv_aload_n hx hb dL_law_395 rfl (lv_at hl 1 rfl) ?_
  refine lv_iload hx hb dL_law_396 (lv_at hl 6 rfl) ?_
  refine lv_iconst (v := 3) hx hb dL_law_398 (by decide) ?_
  refine lwS (As := [.ref r, .int (nI q), .int 3]) (rest := []) hx hb hml hown hts hl.1 hK hKx (fun _ h => h) (c_L_plow l hl0 D r P Q n (P (169 + 20 * q + 3)) (nI q) 3 (fun C h => R_plow (q := q) (k := 3) h (by omega) rfl (by decide))) (gHS qM_L_100 qT_L_plow qK_L qC_L_plow) hds_L_plow ⟨(Nat.le_of_ble_eq_true rfl), (Nat.le_of_ble_eq_true rfl)⟩ hG rfl (Nat.le_of_ble_eq_true rfl) ⟨(by show c0 + 2 ≤ 661124; omega), (by show s0 + 12 ≤ 7118252; omega)⟩ dL_law_399 hS hAr (fun H locs hG hz hq hS => ?_)
  have hG : St D r P Q n H := hG
  clear hz hq
  refine topN (n := nc P q) f3 ?_
  refine lv_istore (lv' := [(9, .int (nI (nc P q))), (0, .ref b), (1, .ref r), (2, .int (nI i)), (4, .int y), (5, .int (nI (ns P))), (6, .int (nI (np P))), (8, .int (nI q))]) hx hb dL_law_402 hl (by decide) rfl (fun ls hl => ?_)
  refine lv_iload hx hb dL_law_404 (lv_at hl 4 rfl) ?_
  refine lv_iload hx hb dL_law_406 (lv_at hl 5 rfl) ?_
  obtain ⟨k, ezk, hk1⟩ : ∃ z, lowN y (ns P) = z ∧ z < (ns P) := ⟨_, rfl, lowN_lt (by omega)⟩
  refine gcSi (As := [.int y, .int (nI (ns P))]) (rest := []) hx hb hml hown hts hl.1 hK (c_L_low l D (fun H => St D r P Q n H) y (ns P) (by omega) (by omega)) (gaS qM_L_121 qT_L_low qK_L qC_L_low) hds_L_low ⟨(Nat.le_of_ble_eq_true rfl), (Nat.le_of_ble_eq_true rfl)⟩ hG rfl (Nat.le_of_ble_eq_true rfl) ⟨(by show c0 + 2 ≤ 661124; omega), (by show s0 + 12 ≤ 7118252; omega)⟩ dL_law_408 hS (fun _ h => False.elim h) (fun H locs hG _ hq hS => ?_)
  have hG : St D r P Q n H := hG
  refine topN (n := k) (by rw [ezk]) ?_
  refine lv_istore (lv' := [(10, .int (nI k)), (9, .int (nI (nc P q))), (0, .ref b), (1, .ref r), (2, .int (nI i)), (4, .int y), (5, .int (nI (ns P))), (6, .int (nI (np P))), (8, .int (nI q))]) hx hb dL_law_411 hl (by decide) rfl (fun ls hl => ?_)
  refine lv_aload_n hx hb dL_law_413 rfl (lv_at hl 3 rfl) ?_
  refine lv_iload hx hb dL_law_414 (lv_at hl 8 rfl) ?_
  refine lv_iload hx hb dL_law_416 (lv_at hl 0 rfl) ?_
  rcases Nat.lt_or_ge (nc P q) 12 with hc | hc
  · obtain ⟨iv1, iv2, iv3⟩ := Iv_stop (s := k) hI hqp hk1 hc
    obtain ⟨rd0, rd1⟩ := rd_stop (P := P) (q := q) (s := k) hc
    refine lwS (As := [.ref r, .int (nI q), .int (nI k)]) (rest := []) hx hb hml hown hts hl.1 hK hKx (fun _ h => h) (c_L_addStop l hl0 D r P Q n (sP_stop P q k) (svQ Q n P) (svN n + 1) (nI (nc P q + 1)) (nI q) (nI k) (fun C G hd => E_addStop hqp hk1 hc hd)) (gHS qM_L_137 qT_L_addStop qK_L qC_L_addStop) hds_L_addStop ⟨(Nat.le_of_ble_eq_true rfl), (Nat.le_of_ble_eq_true rfl)⟩ hG rfl (Nat.le_of_ble_eq_true rfl) ⟨(by show c0 + 2 + 3 ≤ 661124; omega), (by show s0 + 12 + 18 ≤ 7118252; omega)⟩ dL_law_418 hS hAr (fun H locs hG hz hq hS => ?_)
    have hG : St D r (sP_stop P q k) (svQ Q n P) (svN n + 1) H := hG
    clear hz hq
    refine topN (n := nc P q + 1) rfl ?_
    refine lv_istore (lv' := [(11, .int (nI (nc P q + 1))), (10, .int (nI k)), (9, .int (nI (nc P q))), (0, .ref b), (1, .ref r), (2, .int (nI i)), (4, .int y), (5, .int (nI (ns P))), (6, .int (nI (np P))), (8, .int (nI q))]) hx hb dL_law_421 hl (by decide) rfl (fun ls hl => ?_)
    refine lv_iload hx hb dL_law_423 (lv_at hl 0 rfl) ?_
    refine lv_iload hx hb dL_law_425 (lv_at hl 2 rfl) ?_
    refine lv_bipush (v := 12) hx hb dL_law_427 (by decide) ?_
    refine topN (n := 12) rfl ?_
    refine lv_icmp_ne (tgt := 437) hx hb dL_law_429 (by decide) (fun c429 => ?_) (fun c429 => ?_)
    · have c429 : ¬ nc P q = 12 := fun hh9 => c429 ((nI_eq (a := nc P q) (b := 12) (by omega) (by omega)).mpr hh9)
      refine lv_iload hx hb dL_law_437 (lv_at hl 2 rfl) ?_
      refine lv_iconst (v := 1) hx hb dL_law_439 (by decide) ?_
      refine topN (n := 1) rfl ?_
      refine iaddN (a := nc P q) (b := 1) hx hb dL_law_440 ?_
      refine lv_icmp_ne (tgt := 494) hx hb dL_law_441 (by decide) (fun c441 => ?_) (fun c441 => ?_)
      · have c441 : ¬ nc P q + 1 = nc P q + 1 := fun hh9 => c441 ((nI_eq (a := nc P q + 1) (b := nc P q + 1) (by omega) (by omega)).mpr hh9)
        exact absurd c441 (by omega)
      · have c441 : nc P q + 1 = nc P q + 1 := (nI_eq (a := nc P q + 1) (b := nc P q + 1) (by omega) (by omega)).mp c441
        refine lv_iload hx hb dL_law_444 (lv_at hl 0 rfl) ?_
        refine lv_if_lt (tgt := 496) hx hb dL_law_446 (by decide) (fun c446 => ?_) (fun c446 => ?_)
        · have c446 : nc P q + 1 < 0 := (nI_ltI (a := nc P q + 1) (b := 0) (by omega) (by omega)).mp c446
          exact absurd c446 (by omega)
        · have c446 : ¬ nc P q + 1 < 0 := fun hh9 => c446 ((nI_ltI (a := nc P q + 1) (b := 0) (by omega) (by omega)).mpr hh9)
          refine lv_aload_n hx hb dL_law_449 rfl (lv_at hl 4 rfl) ?_
          refine lv_iload hx hb dL_law_450 (lv_at hl 9 rfl) ?_
          refine lv_iload hx hb dL_law_452 (lv_at hl 2 rfl) ?_
          refine lwS (As := [.ref r, .int (nI q), .int (nI (nc P q))]) (rest := []) hx hb hml hown hts hl.1 hK hKx (fun _ h => h) (c_L_stop l hl0 D r (sP_stop P q k) (svQ Q n P) (svN n + 1) (sP_stop P q k (169 + 20 * q + 8 + nc P q)) (nI q) (nI (nc P q)) (fun C h => R_stop (q := q) (j := nc P q) h (by omega) (by omega))) (gHS qM_L_102 qT_L_stop qK_L qC_L_stop) hds_L_stop ⟨(Nat.le_of_ble_eq_true rfl), (Nat.le_of_ble_eq_true rfl)⟩ hG rfl (Nat.le_of_ble_eq_true rfl) ⟨(by show c0 + 2 + 3 + 2 ≤ 661124; omega), (by show s0 + 12 + 18 + 12 ≤ 7118252; omega)⟩ dL_law_454 hS hAr (fun H locs hG hz hq hS => ?_)
          have hG : St D r (sP_stop P q k) (svQ Q n P) (svN n + 1) H := hG
          clear hz hq
          refine topN (n := k) rd0 ?_
          refine lv_iload hx hb dL_law_457 (lv_at hl 1 rfl) ?_
          refine lv_icmp_ne (tgt := 494) hx hb dL_law_459 (by decide) (fun c459 => ?_) (fun c459 => ?_)
          · have c459 : ¬ k = k := fun hh9 => c459 ((nI_eq (a := k) (b := k) (by omega) (by omega)).mpr hh9)
            exact absurd c459 (by omega)
          · have c459 : k = k := (nI_eq (a := k) (b := k) (by omega) (by omega)).mp c459
            refine lv_aload_n hx hb dL_law_462 rfl (lv_at hl 4 rfl) ?_
            have hsv : svN n + 1 ≤ 4 := svN_le
            refine lwS (As := [.ref r]) (rest := []) hx hb hml hown hts hl.1 hK hKx (fun _ h => h) (c_L_undo l hl0 D r (sP_stop P q k) (svQ Q n P) (svN n + 1) P (svQ Q n P) (svN n + 1 - 1) (nI (svN n + 1 - 1))  (fun C G hd => E_undo1 hd)) (gHS qM_L_118 qT_L_undo qK_L qC_L_undo) hds_L_undo ⟨(Nat.le_of_ble_eq_true rfl), (Nat.le_of_ble_eq_true rfl)⟩ hG rfl (Nat.le_of_ble_eq_true rfl) ⟨(by show c0 + 2 + 3 + 2 + 1 ≤ 661124; omega), (by show s0 + 12 + 18 + 12 + 6 ≤ 7118252; omega)⟩ dL_law_463 hS hAr (fun H locs hG hz hq hS => ?_)
            have hG : St D r P (svQ Q n P) (svN n + 1 - 1) H := hG
            clear hz hq
            refine topN (n := svN n + 1 - 1) rfl ?_
            refine lv_if_lt (tgt := 494) hx hb dL_law_466 (by decide) (fun c466 => ?_) (fun c466 => ?_)
            · have c466 : svN n + 1 - 1 < 0 := (nI_ltI (a := svN n + 1 - 1) (b := 0) (by omega) (by omega)).mp c466
              exact absurd c466 (by omega)
            · have c466 : ¬ svN n + 1 - 1 < 0 := fun hh9 => c466 ((nI_ltI (a := svN n + 1 - 1) (b := 0) (by omega) (by omega)).mpr hh9)
              refine lv_aload_n hx hb dL_law_469 rfl (lv_at hl 4 rfl) ?_
              refine lv_iload hx hb dL_law_470 (lv_at hl 9 rfl) ?_
              refine lv_iconst (v := 3) hx hb dL_law_472 (by decide) ?_
              refine lwS (As := [.ref r, .int (nI q), .int 3]) (rest := []) hx hb hml hown hts hl.1 hK hKx (fun _ h => h) (c_L_plow l hl0 D r P (svQ Q n P) (svN n + 1 - 1) (P (169 + 20 * q + 3)) (nI q) 3 (fun C h => R_plow (q := q) (k := 3) h (by omega) rfl (by decide))) (gHS qM_L_100 qT_L_plow qK_L qC_L_plow) hds_L_plow ⟨(Nat.le_of_ble_eq_true rfl), (Nat.le_of_ble_eq_true rfl)⟩ hG rfl (Nat.le_of_ble_eq_true rfl) ⟨(by show c0 + 2 + 3 + 2 + 1 + 2 ≤ 661124; omega), (by show s0 + 12 + 18 + 12 + 6 + 12 ≤ 7118252; omega)⟩ dL_law_473 hS hAr (fun H locs hG hz hq hS => ?_)
              have hG : St D r P (svQ Q n P) (svN n + 1 - 1) H := hG
              clear hz hq
              refine topN (n := nc P q) f3 ?_
              refine lv_iload hx hb dL_law_476 (lv_at hl 2 rfl) ?_
              refine lv_icmp_ne (tgt := 494) hx hb dL_law_478 (by decide) (fun c478 => ?_) (fun c478 => ?_)
              · have c478 : ¬ nc P q = nc P q := fun hh9 => c478 ((nI_eq (a := nc P q) (b := nc P q) (by omega) (by omega)).mpr hh9)
                exact absurd c478 (by omega)
              · have c478 : nc P q = nc P q := (nI_eq (a := nc P q) (b := nc P q) (by omega) (by omega)).mp c478
                refine lv_aload_n hx hb dL_law_481 rfl (lv_at hl 4 rfl) ?_
                refine lv_iload hx hb dL_law_482 (lv_at hl 9 rfl) ?_
                refine lv_iload hx hb dL_law_484 (lv_at hl 1 rfl) ?_
                refine lwS (As := [.ref r, .int (nI q), .int (nI k)]) (rest := []) hx hb hml hown hts hl.1 hK hKx (fun _ h => h) (c_L_addStop l hl0 D r P (svQ Q n P) (svN n + 1 - 1) (sP_stop P q k) (svQ (svQ Q n P) (svN n + 1 - 1) P) (svN (svN n + 1 - 1) + 1) (nI (nc P q + 1)) (nI q) (nI k) (fun C G hd => E_addStop hqp hk1 hc hd)) (gHS qM_L_137 qT_L_addStop qK_L qC_L_addStop) hds_L_addStop ⟨(Nat.le_of_ble_eq_true rfl), (Nat.le_of_ble_eq_true rfl)⟩ hG rfl (Nat.le_of_ble_eq_true rfl) ⟨(by show c0 + 2 + 3 + 2 + 1 + 2 + 3 ≤ 661124; omega), (by show s0 + 12 + 18 + 12 + 6 + 12 + 18 ≤ 7118252; omega)⟩ dL_law_486 hS hAr (fun H locs hG hz hq hS => ?_)
                have hG : St D r (sP_stop P q k) (svQ (svQ Q n P) (svN n + 1 - 1) P) (svN (svN n + 1 - 1) + 1) H := hG
                clear hz hq
                refine topN (n := nc P q + 1) rfl ?_
                refine lv_iload hx hb dL_law_489 (lv_at hl 0 rfl) ?_
                refine lv_icmp_eq (tgt := 496) hx hb dL_law_491 (by decide) (fun c491 => ?_) (fun c491 => ?_)
                · have c491 : nc P q + 1 = nc P q + 1 := (nI_eq (a := nc P q + 1) (b := nc P q + 1) (by omega) (by omega)).mp c491
                  refine lv_goto (tgt := 1058) hx hb dL_law_496 (by decide) ?_
                  refine W.widen (k := c0 + 360) (n := s0 + 2160) (by omega) (by omega) ?_
                  exact kk (sP_stop P q k) (svQ (svQ Q n P) (svN n + 1 - 1) P) (svN (svN n + 1 - 1) + 1) _ _ _ _ iv1 (by omega) hG hS (lv_sub hl [3, 4, 5, 6] rfl)
                · have c491 : ¬ nc P q + 1 = nc P q + 1 := fun hh9 => c491 ((nI_eq (a := nc P q + 1) (b := nc P q + 1) (by omega) (by omega)).mpr hh9)
                  exact absurd c491 (by omega)
    · have c429 : nc P q = 12 := (nI_eq (a := nc P q) (b := 12) (by omega) (by omega)).mp c429
      exact absurd c429 (by omega)
  · refine lwS (As := [.ref r, .int (nI q), .int (nI k)]) (rest := []) hx hb hml hown hts hl.1 hK hKx (fun _ h => h) (c_L_addStop l hl0 D r P Q n P Q n (-90200) (nI q) (nI k) (fun C G hd => E_addStop_f hqp hk1 (by omega) hd)) (gHS qM_L_137 qT_L_addStop qK_L qC_L_addStop) hds_L_addStop ⟨(Nat.le_of_ble_eq_true rfl), (Nat.le_of_ble_eq_true rfl)⟩ hG rfl (Nat.le_of_ble_eq_true rfl) ⟨(by show c0 + 2 + 3 ≤ 661124; omega), (by show s0 + 12 + 18 ≤ 7118252; omega)⟩ dL_law_418 hS hAr (fun H locs hG hz hq hS => ?_)
    have hG : St D r P Q n H := hG
    clear hz hq
    refine lv_istore (lv' := [(11, .int (-90200)), (10, .int (nI k)), (9, .int (nI (nc P q))), (0, .ref b), (1, .ref r), (2, .int (nI i)), (4, .int y), (5, .int (nI (ns P))), (6, .int (nI (np P))), (8, .int (nI q))]) hx hb dL_law_421 hl (by decide) rfl (fun ls hl => ?_)
    refine lv_iload hx hb dL_law_423 (lv_at hl 0 rfl) ?_
    refine lv_iload hx hb dL_law_425 (lv_at hl 2 rfl) ?_
    refine lv_bipush (v := 12) hx hb dL_law_427 (by decide) ?_
    refine topN (n := 12) rfl ?_
    refine lv_icmp_ne (tgt := 437) hx hb dL_law_429 (by decide) (fun c429 => ?_) (fun c429 => ?_)
    · have c429 : ¬ nc P q = 12 := fun hh9 => c429 ((nI_eq (a := nc P q) (b := 12) (by omega) (by omega)).mpr hh9)
      exact absurd c429 (by omega)
    · have c429 : nc P q = 12 := (nI_eq (a := nc P q) (b := 12) (by omega) (by omega)).mp c429
      refine lv_ldc hx hb hown (hts _ qV_L_20) dL_law_432 ?_
      refine lv_goto (tgt := 441) hx hb dL_law_434 (by decide) ?_
      refine lv_icmp_ne (tgt := 494) hx hb dL_law_441 (by decide) (fun c441 => ?_) (fun c441 => ?_)
      · exact absurd c441 (by decide)
      · refine lv_iload hx hb dL_law_444 (lv_at hl 0 rfl) ?_
        refine lv_if_lt (tgt := 496) hx hb dL_law_446 (by decide) (fun c446 => ?_) (fun c446 => ?_)
        · refine lv_goto (tgt := 1058) hx hb dL_law_496 (by decide) ?_
          refine W.widen (k := c0 + 360) (n := s0 + 2160) (by omega) (by omega) ?_
          exact kk P Q n _ _ _ _ hI (by omega) hG hS (lv_sub hl [3, 4, 5, 6] rfl)
        · exact absurd c446 (by decide)

set_option maxHeartbeats 4000000 in
set_option maxRecDepth 100000 in
theorem law_c3 {p : Program} {l : Launch} {e : Env} {s : State} {m : MethodId} {args : Array Value} {below : List Frame} {meth : Method} {c : Code} {Qz : State → Prop} {D : va_G} {b L r : Nat} {xs : Nat → Int32} {P : Nat → Int32} {Q : Nat → Nat → Int32} {n h i q : Nat} {y : Int32} {c0 s0 : Nat} (hl0 : l.stackTraces = false) (hx : p.tables.exec = Jvm.exec) (hb : c.code = cL_law) (hml : c.maxLocals = 15) (hown : s.vm.findClass RL = some m.cls) (hts : ∀ w ∈ AW, w.before args s = true) (hK : Kn D s) (hKx : Kx r s) (hX : va_X b L xs s s.heap) (hbl : b < r) (hsz0 : s.heap.size = r) (hL0 : L ≤ 260) (hI : Iv h P) (hc0 : c0 ≤ 600000) (hs0 : s0 ≤ 7000000) (h1s : 1 ≤ ns P) (hqp : q < np P) (kk : ∀ (P1 : Nat → Int32) (Q1 : Nat → Nat → Int32) (n1 h1 : Nat) (H : Heap) (locs : List Loc) (ls : Array Slot), Iv h1 P1 → 1 ≤ ns P1 → St D r P1 Q1 n1 H → va_S (fun q => r ≤ q) s.heap H locs → lv_has ls 15 [(0, .ref b), (1, .ref r), (2, .int (nI i)), (4, .int y)] → W p l e room_1 s m args below meth c H locs (c0 + 360) (s0 + 2160) Qz (F0 m 1058 ls [])) (H : Heap) (locs : List Loc) (ls : Array Slot) (hG : St D r P Q n H) (hS : va_S (fun q => r ≤ q) s.heap H locs) (hl : lv_has ls 15 [(0, .ref b), (1, .ref r), (2, .int (nI i)), (4, .int y), (5, .int (nI (ns P))), (6, .int (nI (np P))), (8, .int (nI q))]) : W p l e room_1 s m args below meth c H locs (c0) (s0) Qz (F0 m 519 ls []) := by
  have hAr : ∀ q, inS r q → r ≤ q := fun q h => h.1
  obtain ⟨z0, z00, z1, z2, hN1, hN2, z5, z7, ⟨S9, S91, z3⟩, k9, k91, z6⟩ := snd_rest hI
  obtain ⟨K, b9, a9, g9, s9, ro, me, p0, s1, p1, K1, p2, b1, f3, nc1, p4, a1, a2, p5, g1, g2, p6, ro1, p7, z9, z9e, me1, sh⟩ := snd_plow hI hqp
  refine lv_aload_n hx hb dL_law_519 rfl (lv_at hl 1 rfl) ?_
  refine lv_iload hx hb dL_law_520 (lv_at hl 6 rfl) ?_
  refine lv_iconst (v := 3) hx hb dL_law_522 (by decide) ?_
  refine lwS (As := [.ref r, .int (nI q), .int 3]) (rest := []) hx hb hml hown hts hl.1 hK hKx (fun _ h => h) (c_L_plow l hl0 D r P Q n (P (169 + 20 * q + 3)) (nI q) 3 (fun C h => R_plow (q := q) (k := 3) h (by omega) rfl (by decide))) (gHS qM_L_100 qT_L_plow qK_L qC_L_plow) hds_L_plow ⟨(Nat.le_of_ble_eq_true rfl), (Nat.le_of_ble_eq_true rfl)⟩ hG rfl (Nat.le_of_ble_eq_true rfl) ⟨(by show c0 + 2 ≤ 661124; omega), (by show s0 + 12 ≤ 7118252; omega)⟩ dL_law_523 hS hAr (fun H locs hG hz hq hS => ?_)
  have hG : St D r P Q n H := hG
  clear hz hq
  refine topN (n := nc P q) f3 ?_
  refine lv_istore (lv' := [(9, .int (nI (nc P q))), (0, .ref b), (1, .ref r), (2, .int (nI i)), (4, .int y), (5, .int (nI (ns P))), (6, .int (nI (np P))), (8, .int (nI q))]) hx hb dL_law_526 hl (by decide) rfl (fun ls hl => ?_)
  refine lv_aload_n hx hb dL_law_528 rfl (lv_at hl 2 rfl) ?_
  refine lv_iload hx hb dL_law_529 (lv_at hl 7 rfl) ?_
  obtain ⟨iv1, iv2, iv3⟩ := Iv_clear hI hqp
  obtain ⟨rd0, rd1, rd2⟩ := rd_clear (P := P) (q := q)
  refine lwS (As := [.ref r, .int (nI q)]) (rest := []) hx hb hml hown hts hl.1 hK hKx (fun _ h => h) (c_L_clearRoute l hl0 D r P Q n (sP_clear P q) (svQ Q n P) (svN n + 1) (nI (nc P q)) (nI q) (fun C G hd => E_clearRoute hqp hd)) (gHS qM_L_139 qT_L_clearRoute qK_L qC_L_clearRoute) hds_L_clearRoute ⟨(Nat.le_of_ble_eq_true rfl), (Nat.le_of_ble_eq_true rfl)⟩ hG rfl (Nat.le_of_ble_eq_true rfl) ⟨(by show c0 + 2 + 1 ≤ 661124; omega), (by show s0 + 12 + 6 ≤ 7118252; omega)⟩ dL_law_531 hS hAr (fun H locs hG hz hq hS => ?_)
  have hG : St D r (sP_clear P q) (svQ Q n P) (svN n + 1) H := hG
  clear hz hq
  refine topN (n := nc P q) rfl ?_
  refine lv_iload hx hb dL_law_534 (lv_at hl 0 rfl) ?_
  refine lv_icmp_ne (tgt := 569) hx hb dL_law_536 (by decide) (fun c536 => ?_) (fun c536 => ?_)
  · have c536 : ¬ nc P q = nc P q := fun hh9 => c536 ((nI_eq (a := nc P q) (b := nc P q) (by omega) (by omega)).mpr hh9)
    exact absurd c536 (by omega)
  · have c536 : nc P q = nc P q := (nI_eq (a := nc P q) (b := nc P q) (by omega) (by omega)).mp c536
    refine lv_aload_n hx hb dL_law_539 rfl (lv_at hl 2 rfl) ?_
    refine lv_iload hx hb dL_law_540 (lv_at hl 7 rfl) ?_
    refine lv_iconst (v := 3) hx hb dL_law_542 (by decide) ?_
    refine lwS (As := [.ref r, .int (nI q), .int 3]) (rest := []) hx hb hml hown hts hl.1 hK hKx (fun _ h => h) (c_L_plow l hl0 D r (sP_clear P q) (svQ Q n P) (svN n + 1) ((sP_clear P q) (169 + 20 * q + 3)) (nI q) 3 (fun C h => R_plow (q := q) (k := 3) h (by omega) rfl (by decide))) (gHS qM_L_100 qT_L_plow qK_L qC_L_plow) hds_L_plow ⟨(Nat.le_of_ble_eq_true rfl), (Nat.le_of_ble_eq_true rfl)⟩ hG rfl (Nat.le_of_ble_eq_true rfl) ⟨(by show c0 + 2 + 1 + 2 ≤ 661124; omega), (by show s0 + 12 + 6 + 12 ≤ 7118252; omega)⟩ dL_law_543 hS hAr (fun H locs hG hz hq hS => ?_)
    have hG : St D r (sP_clear P q) (svQ Q n P) (svN n + 1) H := hG
    clear hz hq
    refine topE (y := 0) rd0 ?_
    refine lv_if_ne (tgt := 569) hx hb dL_law_546 (by decide) (fun c546 => ?_) (fun c546 => ?_)
    · exact absurd c546 (by decide)
    · refine lv_aload_n hx hb dL_law_549 rfl (lv_at hl 2 rfl) ?_
      refine lv_iload hx hb dL_law_550 (lv_at hl 7 rfl) ?_
      refine lv_iconst (v := 4) hx hb dL_law_552 (by decide) ?_
      refine lwS (As := [.ref r, .int (nI q), .int 4]) (rest := []) hx hb hml hown hts hl.1 hK hKx (fun _ h => h) (c_L_plow l hl0 D r (sP_clear P q) (svQ Q n P) (svN n + 1) ((sP_clear P q) (169 + 20 * q + 4)) (nI q) 4 (fun C h => R_plow (q := q) (k := 4) h (by omega) rfl (by decide))) (gHS qM_L_100 qT_L_plow qK_L qC_L_plow) hds_L_plow ⟨(Nat.le_of_ble_eq_true rfl), (Nat.le_of_ble_eq_true rfl)⟩ hG rfl (Nat.le_of_ble_eq_true rfl) ⟨(by show c0 + 2 + 1 + 2 + 2 ≤ 661124; omega), (by show s0 + 12 + 6 + 12 + 12 ≤ 7118252; omega)⟩ dL_law_553 hS hAr (fun H locs hG hz hq hS => ?_)
      have hG : St D r (sP_clear P q) (svQ Q n P) (svN n + 1) H := hG
      clear hz hq
      refine topE (y := 0) rd1 ?_
      refine lv_if_ne (tgt := 569) hx hb dL_law_556 (by decide) (fun c556 => ?_) (fun c556 => ?_)
      · exact absurd c556 (by decide)
      · refine lv_aload_n hx hb dL_law_559 rfl (lv_at hl 2 rfl) ?_
        refine lv_iload hx hb dL_law_560 (lv_at hl 7 rfl) ?_
        refine lv_iconst (v := 5) hx hb dL_law_562 (by decide) ?_
        refine lwS (As := [.ref r, .int (nI q), .int 5]) (rest := []) hx hb hml hown hts hl.1 hK hKx (fun _ h => h) (c_L_plow l hl0 D r (sP_clear P q) (svQ Q n P) (svN n + 1) ((sP_clear P q) (169 + 20 * q + 5)) (nI q) 5 (fun C h => R_plow (q := q) (k := 5) h (by omega) rfl (by decide))) (gHS qM_L_100 qT_L_plow qK_L qC_L_plow) hds_L_plow ⟨(Nat.le_of_ble_eq_true rfl), (Nat.le_of_ble_eq_true rfl)⟩ hG rfl (Nat.le_of_ble_eq_true rfl) ⟨(by show c0 + 2 + 1 + 2 + 2 + 2 ≤ 661124; omega), (by show s0 + 12 + 6 + 12 + 12 + 12 ≤ 7118252; omega)⟩ dL_law_563 hS hAr (fun H locs hG hz hq hS => ?_)
        have hG : St D r (sP_clear P q) (svQ Q n P) (svN n + 1) H := hG
        clear hz hq
        refine topE (y := 0) rd2 ?_
        refine lv_if_eq (tgt := 571) hx hb dL_law_566 (by decide) (fun c566 => ?_) (fun c566 => ?_)
        · refine lv_goto (tgt := 1058) hx hb dL_law_571 (by decide) ?_
          refine W.widen (k := c0 + 360) (n := s0 + 2160) (by omega) (by omega) ?_
          exact kk (sP_clear P q) (svQ Q n P) (svN n + 1) _ _ _ _ iv1 (by omega) hG hS (lv_sub hl [1, 2, 3, 4] rfl)
        · exact absurd c566 (by decide)

set_option maxHeartbeats 4000000 in
set_option maxRecDepth 100000 in
theorem law_c4 {p : Program} {l : Launch} {e : Env} {s : State} {m : MethodId} {args : Array Value} {below : List Frame} {meth : Method} {c : Code} {Qz : State → Prop} {D : va_G} {b L r : Nat} {xs : Nat → Int32} {P : Nat → Int32} {Q : Nat → Nat → Int32} {n h i q : Nat} {y : Int32} {c0 s0 : Nat} (hl0 : l.stackTraces = false) (hx : p.tables.exec = Jvm.exec) (hb : c.code = cL_law) (hml : c.maxLocals = 15) (hown : s.vm.findClass RL = some m.cls) (hts : ∀ w ∈ AW, w.before args s = true) (hK : Kn D s) (hKx : Kx r s) (hX : va_X b L xs s s.heap) (hbl : b < r) (hsz0 : s.heap.size = r) (hL0 : L ≤ 260) (hI : Iv h P) (hc0 : c0 ≤ 600000) (hs0 : s0 ≤ 7000000) (h1s : 1 ≤ ns P) (hqp : q < np P) (kk : ∀ (P1 : Nat → Int32) (Q1 : Nat → Nat → Int32) (n1 h1 : Nat) (H : Heap) (locs : List Loc) (ls : Array Slot), Iv h1 P1 → 1 ≤ ns P1 → St D r P1 Q1 n1 H → va_S (fun q => r ≤ q) s.heap H locs → lv_has ls 15 [(0, .ref b), (1, .ref r), (2, .int (nI i)), (4, .int y)] → W p l e room_1 s m args below meth c H locs (c0 + 360) (s0 + 2160) Qz (F0 m 1058 ls [])) (H : Heap) (locs : List Loc) (ls : Array Slot) (hG : St D r P Q n H) (hS : va_S (fun q => r ≤ q) s.heap H locs) (hl : lv_has ls 15 [(0, .ref b), (1, .ref r), (2, .int (nI i)), (4, .int y), (5, .int (nI (ns P))), (6, .int (nI (np P))), (8, .int (nI q))]) : W p l e room_1 s m args below meth c H locs (c0) (s0) Qz (F0 m 585 ls []) := by
  have hAr : ∀ q, inS r q → r ≤ q := fun q h => h.1
  obtain ⟨z0, z00, z1, z2, hN1, hN2, z5, z7, ⟨S9, S91, z3⟩, k9, k91, z6⟩ := snd_rest hI
  obtain ⟨K, b9, a9, g9, s9, ro, me, p0, s1, p1, K1, p2, b1, f3, nc1, p4, a1, a2, p5, g1, g2, p6, ro1, p7, z9, z9e, me1, sh⟩ := snd_plow hI hqp
  refine lv_aload_n hx hb dL_law_585 rfl (lv_at hl 1 rfl) ?_
  refine lv_iload hx hb dL_law_586 (lv_at hl 6 rfl) ?_
  refine lv_iconst (v := 3) hx hb dL_law_588 (by decide) ?_
  refine lwS (As := [.ref r, .int (nI q), .int 3]) (rest := []) hx hb hml hown hts hl.1 hK hKx (fun _ h => h) (c_L_plow l hl0 D r P Q n (P (169 + 20 * q + 3)) (nI q) 3 (fun C h => R_plow (q := q) (k := 3) h (by omega) rfl (by decide))) (gHS qM_L_100 qT_L_plow qK_L qC_L_plow) hds_L_plow ⟨(Nat.le_of_ble_eq_true rfl), (Nat.le_of_ble_eq_true rfl)⟩ hG rfl (Nat.le_of_ble_eq_true rfl) ⟨(by show c0 + 2 ≤ 661124; omega), (by show s0 + 12 ≤ 7118252; omega)⟩ dL_law_589 hS hAr (fun H locs hG hz hq hS => ?_)
  have hG : St D r P Q n H := hG
  clear hz hq
  refine topN (n := nc P q) f3 ?_
  refine lv_istore (lv' := [(9, .int (nI (nc P q))), (0, .ref b), (1, .ref r), (2, .int (nI i)), (4, .int y), (5, .int (nI (ns P))), (6, .int (nI (np P))), (8, .int (nI q))]) hx hb dL_law_592 hl (by decide) rfl (fun ls hl => ?_)
  refine lv_iload hx hb dL_law_594 (lv_at hl 4 rfl) ?_
  refine lv_bipush (v := 13) hx hb dL_law_596 (by decide) ?_
  refine topN (n := 13) rfl ?_
  obtain ⟨k, ezk, hk1⟩ : ∃ z, lowN y 13 = z ∧ z < 13 := ⟨_, rfl, lowN_lt (by decide)⟩
  refine gcSi (As := [.int y, .int (nI 13)]) (rest := []) hx hb hml hown hts hl.1 hK (c_L_low l D (fun H => St D r P Q n H) y 13 (by decide) (by decide)) (gaS qM_L_121 qT_L_low qK_L qC_L_low) hds_L_low ⟨(Nat.le_of_ble_eq_true rfl), (Nat.le_of_ble_eq_true rfl)⟩ hG rfl (Nat.le_of_ble_eq_true rfl) ⟨(by show c0 + 2 ≤ 661124; omega), (by show s0 + 12 ≤ 7118252; omega)⟩ dL_law_598 hS (fun _ h => False.elim h) (fun H locs hG _ hq hS => ?_)
  have hG : St D r P Q n H := hG
  refine topN (n := k) (by rw [ezk]) ?_
  refine lv_istore (lv' := [(10, .int (nI k)), (9, .int (nI (nc P q))), (0, .ref b), (1, .ref r), (2, .int (nI i)), (4, .int y), (5, .int (nI (ns P))), (6, .int (nI (np P))), (8, .int (nI q))]) hx hb dL_law_601 hl (by decide) rfl (fun ls hl => ?_)
  rcases th_case (P := P) (q := q) k with hc | hc | hc
  · refine lv_aload_n hx hb dL_law_603 rfl (lv_at hl 3 rfl) ?_
    rcases Nat.lt_or_ge k (nc P q) with hk | hk
    · refine lv_iload hx hb dL_law_604 (lv_at hl 8 rfl) ?_
      refine lv_iload hx hb dL_law_606 (lv_at hl 0 rfl) ?_
      refine lwS (As := [.ref r, .int (nI q), .int (nI k)]) (rest := []) hx hb hml hown hts hl.1 hK hKx (fun _ h => h) (c_L_stop l hl0 D r P Q n (P (169 + 20 * q + 8 + k)) (nI q) (nI k) (fun C h => R_stop (q := q) (j := k) h hqp hk)) (gHS qM_L_102 qT_L_stop qK_L qC_L_stop) hds_L_stop ⟨(Nat.le_of_ble_eq_true rfl), (Nat.le_of_ble_eq_true rfl)⟩ hG rfl (Nat.le_of_ble_eq_true rfl) ⟨(by show c0 + 2 + 2 ≤ 661124; omega), (by show s0 + 12 + 12 ≤ 7118252; omega)⟩ dL_law_608 hS hAr (fun H locs hG hz hq hS => ?_)
      have hG : St D r P Q n H := hG
      clear hz hq
      refine lv_topi (fun x1 ex1 => ?_)
      refine lv_istore (lv' := [(11, .int x1), (10, .int (nI k)), (9, .int (nI (nc P q))), (0, .ref b), (1, .ref r), (2, .int (nI i)), (4, .int y), (5, .int (nI (ns P))), (6, .int (nI (np P))), (8, .int (nI q))]) hx hb dL_law_611 hl (by decide) rfl (fun ls hl => ?_)
      refine lv_aload_n hx hb dL_law_613 rfl (lv_at hl 4 rfl) ?_
      refine lv_iload hx hb dL_law_614 (lv_at hl 9 rfl) ?_
      refine lv_iload hx hb dL_law_616 (lv_at hl 1 rfl) ?_
      refine lv_iconst (v := 1) hx hb dL_law_618 (by decide) ?_
      refine topN (n := 1) rfl ?_
      refine iaddN (a := k) (b := 1) hx hb dL_law_619 ?_
      refine lwS (As := [.ref r, .int (nI q), .int (nI (k + 1))]) (rest := []) hx hb hml hown hts hl.1 hK hKx (fun _ h => h) (c_L_stop l hl0 D r P Q n (-90300) (nI q) (nI (k + 1)) (fun C h => R_stop_i (q := q) (j := k + 1) h hqp (by omega) (by omega))) (gHS qM_L_102 qT_L_stop qK_L qC_L_stop) hds_L_stop ⟨(Nat.le_of_ble_eq_true rfl), (Nat.le_of_ble_eq_true rfl)⟩ hG rfl (Nat.le_of_ble_eq_true rfl) ⟨(by show c0 + 2 + 2 + 2 ≤ 661124; omega), (by show s0 + 12 + 12 + 12 ≤ 7118252; omega)⟩ dL_law_620 hS hAr (fun H locs hG hz hq hS => ?_)
      have hG : St D r P Q n H := hG
      clear hz hq
      refine lv_istore (lv' := [(12, .int (-90300)), (11, .int x1), (10, .int (nI k)), (9, .int (nI (nc P q))), (0, .ref b), (1, .ref r), (2, .int (nI i)), (4, .int y), (5, .int (nI (ns P))), (6, .int (nI (np P))), (8, .int (nI q))]) hx hb dL_law_623 hl (by decide) rfl (fun ls hl => ?_)
      have K666 : ∀ (bz : Int32) (H : Heap) (locs : List Loc) (ls : Array Slot) (hbz : (bz = 0 ∧ fR_X7_isBusy P q (nI k) = 0) ∨ (bz = 1 ∧ ¬ fR_X7_isBusy P q (nI k) = 0)) (hG : St D r P Q n H) (hS : va_S (fun q => r ≤ q) s.heap H locs) (hl : lv_has ls 15 [(0, .ref b), (1, .ref r), (2, .int (nI i)), (4, .int y), (5, .int (nI (ns P))), (6, .int (nI (np P))), (8, .int (nI q)), (9, .int (nI (nc P q))), (10, .int (nI k)), (11, .int x1), (12, .int (-90300))]), W p l e room_1 s m args below meth c H locs (c0 + 20) (s0 + 120) (Qz) (F0 m 666 ls [.int bz]) := by
        intro bz H locs ls hbz hG hS hl
        refine lv_istore (lv' := [(13, .int bz), (0, .ref b), (1, .ref r), (2, .int (nI i)), (4, .int y), (5, .int (nI (ns P))), (6, .int (nI (np P))), (8, .int (nI q)), (9, .int (nI (nc P q))), (10, .int (nI k)), (11, .int x1), (12, .int (-90300))]) hx hb dL_law_666 hl (by decide) rfl (fun ls hl => ?_)
        refine lv_aload_n hx hb dL_law_668 rfl (lv_at hl 2 rfl) ?_
        refine lv_iload hx hb dL_law_669 (lv_at hl 7 rfl) ?_
        refine lv_iload hx hb dL_law_671 (lv_at hl 9 rfl) ?_
        refine lwS (As := [.ref r, .int (nI q), .int (nI k)]) (rest := []) hx hb hml hown hts hl.1 hK hKx (fun _ h => h) (c_L_exchange l hl0 D r P Q n P Q n (-90300) (nI q) (nI k) (fun C G hd => E_exchange_i hqp hc (by omega) hd)) (gHS qM_L_131 qT_L_exchange qK_L qC_L_exchange) hds_L_exchange ⟨(Nat.le_of_ble_eq_true rfl), (Nat.le_of_ble_eq_true rfl)⟩ hG rfl (Nat.le_of_ble_eq_true rfl) ⟨(by show c0 + 20 + 3 ≤ 661124; omega), (by show s0 + 120 + 18 ≤ 7118252; omega)⟩ dL_law_673 hS hAr (fun H locs hG hz hq hS => ?_)
        have hG : St D r P Q n H := hG
        clear hz hq
        refine lv_istore (lv' := [(14, .int (-90300)), (13, .int bz), (0, .ref b), (1, .ref r), (2, .int (nI i)), (4, .int y), (5, .int (nI (ns P))), (6, .int (nI (np P))), (8, .int (nI q)), (9, .int (nI (nc P q))), (10, .int (nI k)), (11, .int x1), (12, .int (-90300))]) hx hb dL_law_676 hl (by decide) rfl (fun ls hl => ?_)
        refine lv_iload hx hb dL_law_678 (lv_at hl 0 rfl) ?_
        refine lv_iload hx hb dL_law_680 (lv_at hl 10 rfl) ?_
        refine lv_iconst (v := 1) hx hb dL_law_682 (by decide) ?_
        refine topN (n := 1) rfl ?_
        refine iaddN (a := k) (b := 1) hx hb dL_law_683 ?_
        refine lv_iload hx hb dL_law_684 (lv_at hl 9 rfl) ?_
        refine lv_icmp_lt (tgt := 694) hx hb dL_law_686 (by decide) (fun c686 => ?_) (fun c686 => ?_)
        · have c686 : k + 1 < nc P q := (nI_ltI (a := k + 1) (b := nc P q) (by omega) (by omega)).mp c686
          exact absurd c686 (by omega)
        · have c686 : ¬ k + 1 < nc P q := fun hh9 => c686 ((nI_ltI (a := k + 1) (b := nc P q) (by omega) (by omega)).mpr hh9)
          refine lv_ldc hx hb hown (hts _ qV_L_29) dL_law_689 ?_
          refine lv_goto (tgt := 706) hx hb dL_law_691 (by decide) ?_
          refine lv_icmp_ne (tgt := 742) hx hb dL_law_706 (by decide) (fun c706 => ?_) (fun c706 => ?_)
          · exact absurd c706 (by decide)
          · refine lv_iload hx hb dL_law_709 (lv_at hl 0 rfl) ?_
            refine lv_if_lt (tgt := 744) hx hb dL_law_711 (by decide) (fun c711 => ?_) (fun c711 => ?_)
            · refine lv_goto (tgt := 1058) hx hb dL_law_744 (by decide) ?_
              refine W.widen (k := c0 + 360) (n := s0 + 2160) (by omega) (by omega) ?_
              exact kk P Q n _ _ _ _ hI (by omega) hG hS (lv_sub hl [2, 3, 4, 5] rfl)
            · exact absurd c711 (by decide)
      refine lv_aload_n hx hb dL_law_625 rfl (lv_at hl 5 rfl) ?_
      refine lv_iload hx hb dL_law_626 (lv_at hl 10 rfl) ?_
      refine lv_iconst (v := 5) hx hb dL_law_628 (by decide) ?_
      refine lwS (As := [.ref r, .int (nI q), .int 5]) (rest := []) hx hb hml hown hts hl.1 hK hKx (fun _ h => h) (c_L_plow l hl0 D r P Q n (P (169 + 20 * q + 5)) (nI q) 5 (fun C h => R_plow (q := q) (k := 5) h (by omega) rfl (by decide))) (gHS qM_L_100 qT_L_plow qK_L qC_L_plow) hds_L_plow ⟨(Nat.le_of_ble_eq_true rfl), (Nat.le_of_ble_eq_true rfl)⟩ hG rfl (Nat.le_of_ble_eq_true rfl) ⟨(by show c0 + 2 + 2 + 2 + 2 ≤ 661124; omega), (by show s0 + 12 + 12 + 12 + 12 ≤ 7118252; omega)⟩ dL_law_629 hS hAr (fun H locs hG hz hq hS => ?_)
      have hG : St D r P Q n H := hG
      clear hz hq
      refine lv_if_le (tgt := 665) hx hb dL_law_632 (by decide) (fun c632 => ?_) (fun c632 => ?_)
      · refine lv_iconst (v := 0) hx hb dL_law_665 (by decide) ?_
        refine W.widen (k := c0 + 20) (n := s0 + 120) (by omega) (by omega) ?_
        exact K666 0 _ _ _ (by first | exact Or.inl ⟨rfl, busy_0a c632⟩ | exact Or.inl ⟨rfl, busy_0b (by omega) c644 c658⟩ | exact Or.inr ⟨rfl, busy_1 (by omega) c632 (Or.inl c644)⟩ | exact Or.inr ⟨rfl, busy_1 (by omega) c632 (Or.inr c658)⟩) hG hS (lv_sub hl [4, 5, 6, 7, 8, 9, 10, 3, 2, 1, 0] rfl)
      · refine lv_aload_n hx hb dL_law_635 rfl (lv_at hl 5 rfl) ?_
        refine lv_iload hx hb dL_law_636 (lv_at hl 10 rfl) ?_
        refine lv_iconst (v := 4) hx hb dL_law_638 (by decide) ?_
        refine lwS (As := [.ref r, .int (nI q), .int 4]) (rest := []) hx hb hml hown hts hl.1 hK hKx (fun _ h => h) (c_L_plow l hl0 D r P Q n (P (169 + 20 * q + 4)) (nI q) 4 (fun C h => R_plow (q := q) (k := 4) h (by omega) rfl (by decide))) (gHS qM_L_100 qT_L_plow qK_L qC_L_plow) hds_L_plow ⟨(Nat.le_of_ble_eq_true rfl), (Nat.le_of_ble_eq_true rfl)⟩ hG rfl (Nat.le_of_ble_eq_true rfl) ⟨(by show c0 + 2 + 2 + 2 + 2 + 2 ≤ 661124; omega), (by show s0 + 12 + 12 + 12 + 12 + 12 ≤ 7118252; omega)⟩ dL_law_639 hS hAr (fun H locs hG hz hq hS => ?_)
        have hG : St D r P Q n H := hG
        clear hz hq
        refine lv_iload hx hb dL_law_642 (lv_at hl 2 rfl) ?_
        refine lv_icmp_eq (tgt := 661) hx hb dL_law_644 (by decide) (fun c644 => ?_) (fun c644 => ?_)
        · refine lv_iconst (v := 1) hx hb dL_law_661 (by decide) ?_
          refine lv_goto (tgt := 666) hx hb dL_law_662 (by decide) ?_
          refine W.widen (k := c0 + 20) (n := s0 + 120) (by omega) (by omega) ?_
          exact K666 1 _ _ _ (by first | exact Or.inl ⟨rfl, busy_0a c632⟩ | exact Or.inl ⟨rfl, busy_0b (by omega) c644 c658⟩ | exact Or.inr ⟨rfl, busy_1 (by omega) c632 (Or.inl c644)⟩ | exact Or.inr ⟨rfl, busy_1 (by omega) c632 (Or.inr c658)⟩) hG hS (lv_sub hl [4, 5, 6, 7, 8, 9, 10, 3, 2, 1, 0] rfl)
        · refine lv_aload_n hx hb dL_law_647 rfl (lv_at hl 5 rfl) ?_
          refine lv_iload hx hb dL_law_648 (lv_at hl 10 rfl) ?_
          refine lv_iconst (v := 4) hx hb dL_law_650 (by decide) ?_
          refine lwS (As := [.ref r, .int (nI q), .int 4]) (rest := []) hx hb hml hown hts hl.1 hK hKx (fun _ h => h) (c_L_plow l hl0 D r P Q n (P (169 + 20 * q + 4)) (nI q) 4 (fun C h => R_plow (q := q) (k := 4) h (by omega) rfl (by decide))) (gHS qM_L_100 qT_L_plow qK_L qC_L_plow) hds_L_plow ⟨(Nat.le_of_ble_eq_true rfl), (Nat.le_of_ble_eq_true rfl)⟩ hG rfl (Nat.le_of_ble_eq_true rfl) ⟨(by show c0 + 2 + 2 + 2 + 2 + 2 + 2 ≤ 661124; omega), (by show s0 + 12 + 12 + 12 + 12 + 12 + 12 ≤ 7118252; omega)⟩ dL_law_651 hS hAr (fun H locs hG hz hq hS => ?_)
          have hG : St D r P Q n H := hG
          clear hz hq
          refine lv_iload hx hb dL_law_654 (lv_at hl 2 rfl) ?_
          refine lv_iconst (v := 1) hx hb dL_law_656 (by decide) ?_
          refine topN (n := 1) rfl ?_
          refine iaddN (a := k) (b := 1) hx hb dL_law_657 ?_
          refine lv_icmp_ne (tgt := 665) hx hb dL_law_658 (by decide) (fun c658 => ?_) (fun c658 => ?_)
          · refine lv_iconst (v := 0) hx hb dL_law_665 (by decide) ?_
            refine W.widen (k := c0 + 20) (n := s0 + 120) (by omega) (by omega) ?_
            exact K666 0 _ _ _ (by first | exact Or.inl ⟨rfl, busy_0a c632⟩ | exact Or.inl ⟨rfl, busy_0b (by omega) c644 c658⟩ | exact Or.inr ⟨rfl, busy_1 (by omega) c632 (Or.inl c644)⟩ | exact Or.inr ⟨rfl, busy_1 (by omega) c632 (Or.inr c658)⟩) hG hS (lv_sub hl [4, 5, 6, 7, 8, 9, 10, 3, 2, 1, 0] rfl)
          · refine lv_iconst (v := 1) hx hb dL_law_661 (by decide) ?_
            refine lv_goto (tgt := 666) hx hb dL_law_662 (by decide) ?_
            refine W.widen (k := c0 + 20) (n := s0 + 120) (by omega) (by omega) ?_
            exact K666 1 _ _ _ (by first | exact Or.inl ⟨rfl, busy_0a c632⟩ | exact Or.inl ⟨rfl, busy_0b (by omega) c644 c658⟩ | exact Or.inr ⟨rfl, busy_1 (by omega) c632 (Or.inl c644)⟩ | exact Or.inr ⟨rfl, busy_1 (by omega) c632 (Or.inr c658)⟩) hG hS (lv_sub hl [4, 5, 6, 7, 8, 9, 10, 3, 2, 1, 0] rfl)
    · refine lv_iload hx hb dL_law_604 (lv_at hl 8 rfl) ?_
      refine lv_iload hx hb dL_law_606 (lv_at hl 0 rfl) ?_
      refine lwS (As := [.ref r, .int (nI q), .int (nI k)]) (rest := []) hx hb hml hown hts hl.1 hK hKx (fun _ h => h) (c_L_stop l hl0 D r P Q n (-90300) (nI q) (nI k) (fun C h => R_stop_i (q := q) (j := k) h hqp (by omega) (by omega))) (gHS qM_L_102 qT_L_stop qK_L qC_L_stop) hds_L_stop ⟨(Nat.le_of_ble_eq_true rfl), (Nat.le_of_ble_eq_true rfl)⟩ hG rfl (Nat.le_of_ble_eq_true rfl) ⟨(by show c0 + 2 + 2 ≤ 661124; omega), (by show s0 + 12 + 12 ≤ 7118252; omega)⟩ dL_law_608 hS hAr (fun H locs hG hz hq hS => ?_)
      have hG : St D r P Q n H := hG
      clear hz hq
      refine lv_istore (lv' := [(11, .int (-90300)), (10, .int (nI k)), (9, .int (nI (nc P q))), (0, .ref b), (1, .ref r), (2, .int (nI i)), (4, .int y), (5, .int (nI (ns P))), (6, .int (nI (np P))), (8, .int (nI q))]) hx hb dL_law_611 hl (by decide) rfl (fun ls hl => ?_)
      refine lv_aload_n hx hb dL_law_613 rfl (lv_at hl 4 rfl) ?_
      refine lv_iload hx hb dL_law_614 (lv_at hl 9 rfl) ?_
      refine lv_iload hx hb dL_law_616 (lv_at hl 1 rfl) ?_
      refine lv_iconst (v := 1) hx hb dL_law_618 (by decide) ?_
      refine topN (n := 1) rfl ?_
      refine iaddN (a := k) (b := 1) hx hb dL_law_619 ?_
      refine lwS (As := [.ref r, .int (nI q), .int (nI (k + 1))]) (rest := []) hx hb hml hown hts hl.1 hK hKx (fun _ h => h) (c_L_stop l hl0 D r P Q n (-90300) (nI q) (nI (k + 1)) (fun C h => R_stop_i (q := q) (j := k + 1) h hqp (by omega) (by omega))) (gHS qM_L_102 qT_L_stop qK_L qC_L_stop) hds_L_stop ⟨(Nat.le_of_ble_eq_true rfl), (Nat.le_of_ble_eq_true rfl)⟩ hG rfl (Nat.le_of_ble_eq_true rfl) ⟨(by show c0 + 2 + 2 + 2 ≤ 661124; omega), (by show s0 + 12 + 12 + 12 ≤ 7118252; omega)⟩ dL_law_620 hS hAr (fun H locs hG hz hq hS => ?_)
      have hG : St D r P Q n H := hG
      clear hz hq
      refine lv_istore (lv' := [(12, .int (-90300)), (11, .int (-90300)), (10, .int (nI k)), (9, .int (nI (nc P q))), (0, .ref b), (1, .ref r), (2, .int (nI i)), (4, .int y), (5, .int (nI (ns P))), (6, .int (nI (np P))), (8, .int (nI q))]) hx hb dL_law_623 hl (by decide) rfl (fun ls hl => ?_)
      have K666 : ∀ (bz : Int32) (H : Heap) (locs : List Loc) (ls : Array Slot) (hbz : (bz = 0 ∧ fR_X7_isBusy P q (nI k) = 0) ∨ (bz = 1 ∧ ¬ fR_X7_isBusy P q (nI k) = 0)) (hG : St D r P Q n H) (hS : va_S (fun q => r ≤ q) s.heap H locs) (hl : lv_has ls 15 [(0, .ref b), (1, .ref r), (2, .int (nI i)), (4, .int y), (5, .int (nI (ns P))), (6, .int (nI (np P))), (8, .int (nI q)), (9, .int (nI (nc P q))), (10, .int (nI k)), (11, .int (-90300)), (12, .int (-90300))]), W p l e room_1 s m args below meth c H locs (c0 + 20) (s0 + 120) (Qz) (F0 m 666 ls [.int bz]) := by
        intro bz H locs ls hbz hG hS hl
        refine lv_istore (lv' := [(13, .int bz), (0, .ref b), (1, .ref r), (2, .int (nI i)), (4, .int y), (5, .int (nI (ns P))), (6, .int (nI (np P))), (8, .int (nI q)), (9, .int (nI (nc P q))), (10, .int (nI k)), (11, .int (-90300)), (12, .int (-90300))]) hx hb dL_law_666 hl (by decide) rfl (fun ls hl => ?_)
        refine lv_aload_n hx hb dL_law_668 rfl (lv_at hl 2 rfl) ?_
        refine lv_iload hx hb dL_law_669 (lv_at hl 7 rfl) ?_
        refine lv_iload hx hb dL_law_671 (lv_at hl 9 rfl) ?_
        refine lwS (As := [.ref r, .int (nI q), .int (nI k)]) (rest := []) hx hb hml hown hts hl.1 hK hKx (fun _ h => h) (c_L_exchange l hl0 D r P Q n P Q n (-90300) (nI q) (nI k) (fun C G hd => E_exchange_i hqp hc (by omega) hd)) (gHS qM_L_131 qT_L_exchange qK_L qC_L_exchange) hds_L_exchange ⟨(Nat.le_of_ble_eq_true rfl), (Nat.le_of_ble_eq_true rfl)⟩ hG rfl (Nat.le_of_ble_eq_true rfl) ⟨(by show c0 + 20 + 3 ≤ 661124; omega), (by show s0 + 120 + 18 ≤ 7118252; omega)⟩ dL_law_673 hS hAr (fun H locs hG hz hq hS => ?_)
        have hG : St D r P Q n H := hG
        clear hz hq
        refine lv_istore (lv' := [(14, .int (-90300)), (13, .int bz), (0, .ref b), (1, .ref r), (2, .int (nI i)), (4, .int y), (5, .int (nI (ns P))), (6, .int (nI (np P))), (8, .int (nI q)), (9, .int (nI (nc P q))), (10, .int (nI k)), (11, .int (-90300)), (12, .int (-90300))]) hx hb dL_law_676 hl (by decide) rfl (fun ls hl => ?_)
        refine lv_iload hx hb dL_law_678 (lv_at hl 0 rfl) ?_
        refine lv_iload hx hb dL_law_680 (lv_at hl 10 rfl) ?_
        refine lv_iconst (v := 1) hx hb dL_law_682 (by decide) ?_
        refine topN (n := 1) rfl ?_
        refine iaddN (a := k) (b := 1) hx hb dL_law_683 ?_
        refine lv_iload hx hb dL_law_684 (lv_at hl 9 rfl) ?_
        refine lv_icmp_lt (tgt := 694) hx hb dL_law_686 (by decide) (fun c686 => ?_) (fun c686 => ?_)
        · have c686 : k + 1 < nc P q := (nI_ltI (a := k + 1) (b := nc P q) (by omega) (by omega)).mp c686
          exact absurd c686 (by omega)
        · have c686 : ¬ k + 1 < nc P q := fun hh9 => c686 ((nI_ltI (a := k + 1) (b := nc P q) (by omega) (by omega)).mpr hh9)
          refine lv_ldc hx hb hown (hts _ qV_L_29) dL_law_689 ?_
          refine lv_goto (tgt := 706) hx hb dL_law_691 (by decide) ?_
          refine lv_icmp_ne (tgt := 742) hx hb dL_law_706 (by decide) (fun c706 => ?_) (fun c706 => ?_)
          · exact absurd c706 (by decide)
          · refine lv_iload hx hb dL_law_709 (lv_at hl 0 rfl) ?_
            refine lv_if_lt (tgt := 744) hx hb dL_law_711 (by decide) (fun c711 => ?_) (fun c711 => ?_)
            · refine lv_goto (tgt := 1058) hx hb dL_law_744 (by decide) ?_
              refine W.widen (k := c0 + 360) (n := s0 + 2160) (by omega) (by omega) ?_
              exact kk P Q n _ _ _ _ hI (by omega) hG hS (lv_sub hl [2, 3, 4, 5] rfl)
            · exact absurd c711 (by decide)
      refine lv_aload_n hx hb dL_law_625 rfl (lv_at hl 5 rfl) ?_
      refine lv_iload hx hb dL_law_626 (lv_at hl 10 rfl) ?_
      refine lv_iconst (v := 5) hx hb dL_law_628 (by decide) ?_
      refine lwS (As := [.ref r, .int (nI q), .int 5]) (rest := []) hx hb hml hown hts hl.1 hK hKx (fun _ h => h) (c_L_plow l hl0 D r P Q n (P (169 + 20 * q + 5)) (nI q) 5 (fun C h => R_plow (q := q) (k := 5) h (by omega) rfl (by decide))) (gHS qM_L_100 qT_L_plow qK_L qC_L_plow) hds_L_plow ⟨(Nat.le_of_ble_eq_true rfl), (Nat.le_of_ble_eq_true rfl)⟩ hG rfl (Nat.le_of_ble_eq_true rfl) ⟨(by show c0 + 2 + 2 + 2 + 2 ≤ 661124; omega), (by show s0 + 12 + 12 + 12 + 12 ≤ 7118252; omega)⟩ dL_law_629 hS hAr (fun H locs hG hz hq hS => ?_)
      have hG : St D r P Q n H := hG
      clear hz hq
      refine lv_if_le (tgt := 665) hx hb dL_law_632 (by decide) (fun c632 => ?_) (fun c632 => ?_)
      · refine lv_iconst (v := 0) hx hb dL_law_665 (by decide) ?_
        refine W.widen (k := c0 + 20) (n := s0 + 120) (by omega) (by omega) ?_
        exact K666 0 _ _ _ (by first | exact Or.inl ⟨rfl, busy_0a c632⟩ | exact Or.inl ⟨rfl, busy_0b (by omega) c644 c658⟩ | exact Or.inr ⟨rfl, busy_1 (by omega) c632 (Or.inl c644)⟩ | exact Or.inr ⟨rfl, busy_1 (by omega) c632 (Or.inr c658)⟩) hG hS (lv_sub hl [4, 5, 6, 7, 8, 9, 10, 3, 2, 1, 0] rfl)
      · refine lv_aload_n hx hb dL_law_635 rfl (lv_at hl 5 rfl) ?_
        refine lv_iload hx hb dL_law_636 (lv_at hl 10 rfl) ?_
        refine lv_iconst (v := 4) hx hb dL_law_638 (by decide) ?_
        refine lwS (As := [.ref r, .int (nI q), .int 4]) (rest := []) hx hb hml hown hts hl.1 hK hKx (fun _ h => h) (c_L_plow l hl0 D r P Q n (P (169 + 20 * q + 4)) (nI q) 4 (fun C h => R_plow (q := q) (k := 4) h (by omega) rfl (by decide))) (gHS qM_L_100 qT_L_plow qK_L qC_L_plow) hds_L_plow ⟨(Nat.le_of_ble_eq_true rfl), (Nat.le_of_ble_eq_true rfl)⟩ hG rfl (Nat.le_of_ble_eq_true rfl) ⟨(by show c0 + 2 + 2 + 2 + 2 + 2 ≤ 661124; omega), (by show s0 + 12 + 12 + 12 + 12 + 12 ≤ 7118252; omega)⟩ dL_law_639 hS hAr (fun H locs hG hz hq hS => ?_)
        have hG : St D r P Q n H := hG
        clear hz hq
        refine lv_iload hx hb dL_law_642 (lv_at hl 2 rfl) ?_
        refine lv_icmp_eq (tgt := 661) hx hb dL_law_644 (by decide) (fun c644 => ?_) (fun c644 => ?_)
        · refine lv_iconst (v := 1) hx hb dL_law_661 (by decide) ?_
          refine lv_goto (tgt := 666) hx hb dL_law_662 (by decide) ?_
          refine W.widen (k := c0 + 20) (n := s0 + 120) (by omega) (by omega) ?_
          exact K666 1 _ _ _ (by first | exact Or.inl ⟨rfl, busy_0a c632⟩ | exact Or.inl ⟨rfl, busy_0b (by omega) c644 c658⟩ | exact Or.inr ⟨rfl, busy_1 (by omega) c632 (Or.inl c644)⟩ | exact Or.inr ⟨rfl, busy_1 (by omega) c632 (Or.inr c658)⟩) hG hS (lv_sub hl [4, 5, 6, 7, 8, 9, 10, 3, 2, 1, 0] rfl)
        · refine lv_aload_n hx hb dL_law_647 rfl (lv_at hl 5 rfl) ?_
          refine lv_iload hx hb dL_law_648 (lv_at hl 10 rfl) ?_
          refine lv_iconst (v := 4) hx hb dL_law_650 (by decide) ?_
          refine lwS (As := [.ref r, .int (nI q), .int 4]) (rest := []) hx hb hml hown hts hl.1 hK hKx (fun _ h => h) (c_L_plow l hl0 D r P Q n (P (169 + 20 * q + 4)) (nI q) 4 (fun C h => R_plow (q := q) (k := 4) h (by omega) rfl (by decide))) (gHS qM_L_100 qT_L_plow qK_L qC_L_plow) hds_L_plow ⟨(Nat.le_of_ble_eq_true rfl), (Nat.le_of_ble_eq_true rfl)⟩ hG rfl (Nat.le_of_ble_eq_true rfl) ⟨(by show c0 + 2 + 2 + 2 + 2 + 2 + 2 ≤ 661124; omega), (by show s0 + 12 + 12 + 12 + 12 + 12 + 12 ≤ 7118252; omega)⟩ dL_law_651 hS hAr (fun H locs hG hz hq hS => ?_)
          have hG : St D r P Q n H := hG
          clear hz hq
          refine lv_iload hx hb dL_law_654 (lv_at hl 2 rfl) ?_
          refine lv_iconst (v := 1) hx hb dL_law_656 (by decide) ?_
          refine topN (n := 1) rfl ?_
          refine iaddN (a := k) (b := 1) hx hb dL_law_657 ?_
          refine lv_icmp_ne (tgt := 665) hx hb dL_law_658 (by decide) (fun c658 => ?_) (fun c658 => ?_)
          · refine lv_iconst (v := 0) hx hb dL_law_665 (by decide) ?_
            refine W.widen (k := c0 + 20) (n := s0 + 120) (by omega) (by omega) ?_
            exact K666 0 _ _ _ (by first | exact Or.inl ⟨rfl, busy_0a c632⟩ | exact Or.inl ⟨rfl, busy_0b (by omega) c644 c658⟩ | exact Or.inr ⟨rfl, busy_1 (by omega) c632 (Or.inl c644)⟩ | exact Or.inr ⟨rfl, busy_1 (by omega) c632 (Or.inr c658)⟩) hG hS (lv_sub hl [4, 5, 6, 7, 8, 9, 10, 3, 2, 1, 0] rfl)
          · refine lv_iconst (v := 1) hx hb dL_law_661 (by decide) ?_
            refine lv_goto (tgt := 666) hx hb dL_law_662 (by decide) ?_
            refine W.widen (k := c0 + 20) (n := s0 + 120) (by omega) (by omega) ?_
            exact K666 1 _ _ _ (by first | exact Or.inl ⟨rfl, busy_0a c632⟩ | exact Or.inl ⟨rfl, busy_0b (by omega) c644 c658⟩ | exact Or.inr ⟨rfl, busy_1 (by omega) c632 (Or.inl c644)⟩ | exact Or.inr ⟨rfl, busy_1 (by omega) c632 (Or.inr c658)⟩) hG hS (lv_sub hl [4, 5, 6, 7, 8, 9, 10, 3, 2, 1, 0] rfl)
  · refine lv_aload_n hx hb dL_law_603 rfl (lv_at hl 3 rfl) ?_
    refine lv_iload hx hb dL_law_604 (lv_at hl 8 rfl) ?_
    refine lv_iload hx hb dL_law_606 (lv_at hl 0 rfl) ?_
    have hc1 := hc.1
    obtain ⟨rf, rf1, rf2⟩ := th_route (k := k) hI hqp (by omega)
    obtain ⟨rr, rr1, rr2⟩ := th_route (k := k + 1) hI hqp hc.1
    refine lwS (As := [.ref r, .int (nI q), .int (nI k)]) (rest := []) hx hb hml hown hts hl.1 hK hKx (fun _ h => h) (c_L_stop l hl0 D r P Q n (P (169 + 20 * q + 8 + k)) (nI q) (nI k) (fun C h => R_stop (q := q) (j := k) h hqp (by have := hc.1; omega))) (gHS qM_L_102 qT_L_stop qK_L qC_L_stop) hds_L_stop ⟨(Nat.le_of_ble_eq_true rfl), (Nat.le_of_ble_eq_true rfl)⟩ hG rfl (Nat.le_of_ble_eq_true rfl) ⟨(by show c0 + 2 + 2 ≤ 661124; omega), (by show s0 + 12 + 12 ≤ 7118252; omega)⟩ dL_law_608 hS hAr (fun H locs hG hz hq hS => ?_)
    have hG : St D r P Q n H := hG
    clear hz hq
    refine topN (n := rf) rf1 ?_
    refine lv_istore (lv' := [(11, .int (nI rf)), (10, .int (nI k)), (9, .int (nI (nc P q))), (0, .ref b), (1, .ref r), (2, .int (nI i)), (4, .int y), (5, .int (nI (ns P))), (6, .int (nI (np P))), (8, .int (nI q))]) hx hb dL_law_611 hl (by decide) rfl (fun ls hl => ?_)
    refine lv_aload_n hx hb dL_law_613 rfl (lv_at hl 4 rfl) ?_
    refine lv_iload hx hb dL_law_614 (lv_at hl 9 rfl) ?_
    refine lv_iload hx hb dL_law_616 (lv_at hl 1 rfl) ?_
    refine lv_iconst (v := 1) hx hb dL_law_618 (by decide) ?_
    refine topN (n := 1) rfl ?_
    refine iaddN (a := k) (b := 1) hx hb dL_law_619 ?_
    refine lwS (As := [.ref r, .int (nI q), .int (nI (k + 1))]) (rest := []) hx hb hml hown hts hl.1 hK hKx (fun _ h => h) (c_L_stop l hl0 D r P Q n (P (169 + 20 * q + 8 + (k + 1))) (nI q) (nI (k + 1)) (fun C h => R_stop (q := q) (j := k + 1) h hqp hc.1)) (gHS qM_L_102 qT_L_stop qK_L qC_L_stop) hds_L_stop ⟨(Nat.le_of_ble_eq_true rfl), (Nat.le_of_ble_eq_true rfl)⟩ hG rfl (Nat.le_of_ble_eq_true rfl) ⟨(by show c0 + 2 + 2 + 2 ≤ 661124; omega), (by show s0 + 12 + 12 + 12 ≤ 7118252; omega)⟩ dL_law_620 hS hAr (fun H locs hG hz hq hS => ?_)
    have hG : St D r P Q n H := hG
    clear hz hq
    refine topN (n := rr) rr1 ?_
    refine lv_istore (lv' := [(12, .int (nI rr)), (11, .int (nI rf)), (10, .int (nI k)), (9, .int (nI (nc P q))), (0, .ref b), (1, .ref r), (2, .int (nI i)), (4, .int y), (5, .int (nI (ns P))), (6, .int (nI (np P))), (8, .int (nI q))]) hx hb dL_law_623 hl (by decide) rfl (fun ls hl => ?_)
    have K666 : ∀ (bz : Int32) (H : Heap) (locs : List Loc) (ls : Array Slot) (hbz : (bz = 0 ∧ fR_X7_isBusy P q (nI k) = 0) ∨ (bz = 1 ∧ ¬ fR_X7_isBusy P q (nI k) = 0)) (hG : St D r P Q n H) (hS : va_S (fun q => r ≤ q) s.heap H locs) (hl : lv_has ls 15 [(0, .ref b), (1, .ref r), (2, .int (nI i)), (4, .int y), (5, .int (nI (ns P))), (6, .int (nI (np P))), (8, .int (nI q)), (9, .int (nI (nc P q))), (10, .int (nI k)), (11, .int (nI rf)), (12, .int (nI rr))]), W p l e room_1 s m args below meth c H locs (c0 + 20) (s0 + 120) (Qz) (F0 m 666 ls [.int bz]) := by
      intro bz H locs ls hbz hG hS hl
      refine lv_istore (lv' := [(13, .int bz), (0, .ref b), (1, .ref r), (2, .int (nI i)), (4, .int y), (5, .int (nI (ns P))), (6, .int (nI (np P))), (8, .int (nI q)), (9, .int (nI (nc P q))), (10, .int (nI k)), (11, .int (nI rf)), (12, .int (nI rr))]) hx hb dL_law_666 hl (by decide) rfl (fun ls hl => ?_)
      refine lv_aload_n hx hb dL_law_668 rfl (lv_at hl 2 rfl) ?_
      refine lv_iload hx hb dL_law_669 (lv_at hl 7 rfl) ?_
      refine lv_iload hx hb dL_law_671 (lv_at hl 9 rfl) ?_
      refine lwS (As := [.ref r, .int (nI q), .int (nI k)]) (rest := []) hx hb hml hown hts hl.1 hK hKx (fun _ h => h) (c_L_exchange l hl0 D r P Q n P Q n (-90200) (nI q) (nI k) (fun C G hd => E_exchange_b hqp hc.1 hc.2 hd)) (gHS qM_L_131 qT_L_exchange qK_L qC_L_exchange) hds_L_exchange ⟨(Nat.le_of_ble_eq_true rfl), (Nat.le_of_ble_eq_true rfl)⟩ hG rfl (Nat.le_of_ble_eq_true rfl) ⟨(by show c0 + 20 + 3 ≤ 661124; omega), (by show s0 + 120 + 18 ≤ 7118252; omega)⟩ dL_law_673 hS hAr (fun H locs hG hz hq hS => ?_)
      have hG : St D r P Q n H := hG
      clear hz hq
      refine lv_istore (lv' := [(14, .int (-90200)), (13, .int bz), (0, .ref b), (1, .ref r), (2, .int (nI i)), (4, .int y), (5, .int (nI (ns P))), (6, .int (nI (np P))), (8, .int (nI q)), (9, .int (nI (nc P q))), (10, .int (nI k)), (11, .int (nI rf)), (12, .int (nI rr))]) hx hb dL_law_676 hl (by decide) rfl (fun ls hl => ?_)
      refine lv_iload hx hb dL_law_678 (lv_at hl 0 rfl) ?_
      refine lv_iload hx hb dL_law_680 (lv_at hl 10 rfl) ?_
      refine lv_iconst (v := 1) hx hb dL_law_682 (by decide) ?_
      refine topN (n := 1) rfl ?_
      refine iaddN (a := k) (b := 1) hx hb dL_law_683 ?_
      refine lv_iload hx hb dL_law_684 (lv_at hl 9 rfl) ?_
      refine lv_icmp_lt (tgt := 694) hx hb dL_law_686 (by decide) (fun c686 => ?_) (fun c686 => ?_)
      · have c686 : k + 1 < nc P q := (nI_ltI (a := k + 1) (b := nc P q) (by omega) (by omega)).mp c686
        refine lv_iload hx hb dL_law_694 (lv_at hl 1 rfl) ?_
        refine lv_if_eq (tgt := 704) hx hb dL_law_696 (by decide) (fun c696 => ?_) (fun c696 => ?_)
        · exact (hbz.elim (fun h9 => hc.2 h9.2) (fun h9 => absurd (h9.1.symm.trans c696) (by decide))).elim
        · refine lv_ldc hx hb hown (hts _ qV_L_20) dL_law_699 ?_
          refine lv_goto (tgt := 706) hx hb dL_law_701 (by decide) ?_
          refine lv_icmp_ne (tgt := 742) hx hb dL_law_706 (by decide) (fun c706 => ?_) (fun c706 => ?_)
          · exact absurd c706 (by decide)
          · refine lv_iload hx hb dL_law_709 (lv_at hl 0 rfl) ?_
            refine lv_if_lt (tgt := 744) hx hb dL_law_711 (by decide) (fun c711 => ?_) (fun c711 => ?_)
            · refine lv_goto (tgt := 1058) hx hb dL_law_744 (by decide) ?_
              refine W.widen (k := c0 + 360) (n := s0 + 2160) (by omega) (by omega) ?_
              exact kk P Q n _ _ _ _ hI (by omega) hG hS (lv_sub hl [2, 3, 4, 5] rfl)
            · exact absurd c711 (by decide)
      · have c686 : ¬ k + 1 < nc P q := fun hh9 => c686 ((nI_ltI (a := k + 1) (b := nc P q) (by omega) (by omega)).mpr hh9)
        exact absurd c686 (by omega)
    refine lv_aload_n hx hb dL_law_625 rfl (lv_at hl 5 rfl) ?_
    refine lv_iload hx hb dL_law_626 (lv_at hl 10 rfl) ?_
    refine lv_iconst (v := 5) hx hb dL_law_628 (by decide) ?_
    refine lwS (As := [.ref r, .int (nI q), .int 5]) (rest := []) hx hb hml hown hts hl.1 hK hKx (fun _ h => h) (c_L_plow l hl0 D r P Q n (P (169 + 20 * q + 5)) (nI q) 5 (fun C h => R_plow (q := q) (k := 5) h (by omega) rfl (by decide))) (gHS qM_L_100 qT_L_plow qK_L qC_L_plow) hds_L_plow ⟨(Nat.le_of_ble_eq_true rfl), (Nat.le_of_ble_eq_true rfl)⟩ hG rfl (Nat.le_of_ble_eq_true rfl) ⟨(by show c0 + 2 + 2 + 2 + 2 ≤ 661124; omega), (by show s0 + 12 + 12 + 12 + 12 ≤ 7118252; omega)⟩ dL_law_629 hS hAr (fun H locs hG hz hq hS => ?_)
    have hG : St D r P Q n H := hG
    clear hz hq
    refine lv_if_le (tgt := 665) hx hb dL_law_632 (by decide) (fun c632 => ?_) (fun c632 => ?_)
    · refine lv_iconst (v := 0) hx hb dL_law_665 (by decide) ?_
      refine W.widen (k := c0 + 20) (n := s0 + 120) (by omega) (by omega) ?_
      exact K666 0 _ _ _ (by first | exact Or.inl ⟨rfl, busy_0a c632⟩ | exact Or.inl ⟨rfl, busy_0b (by omega) c644 c658⟩ | exact Or.inr ⟨rfl, busy_1 (by omega) c632 (Or.inl c644)⟩ | exact Or.inr ⟨rfl, busy_1 (by omega) c632 (Or.inr c658)⟩) hG hS (lv_sub hl [4, 5, 6, 7, 8, 9, 10, 3, 2, 1, 0] rfl)
    · refine lv_aload_n hx hb dL_law_635 rfl (lv_at hl 5 rfl) ?_
      refine lv_iload hx hb dL_law_636 (lv_at hl 10 rfl) ?_
      refine lv_iconst (v := 4) hx hb dL_law_638 (by decide) ?_
      refine lwS (As := [.ref r, .int (nI q), .int 4]) (rest := []) hx hb hml hown hts hl.1 hK hKx (fun _ h => h) (c_L_plow l hl0 D r P Q n (P (169 + 20 * q + 4)) (nI q) 4 (fun C h => R_plow (q := q) (k := 4) h (by omega) rfl (by decide))) (gHS qM_L_100 qT_L_plow qK_L qC_L_plow) hds_L_plow ⟨(Nat.le_of_ble_eq_true rfl), (Nat.le_of_ble_eq_true rfl)⟩ hG rfl (Nat.le_of_ble_eq_true rfl) ⟨(by show c0 + 2 + 2 + 2 + 2 + 2 ≤ 661124; omega), (by show s0 + 12 + 12 + 12 + 12 + 12 ≤ 7118252; omega)⟩ dL_law_639 hS hAr (fun H locs hG hz hq hS => ?_)
      have hG : St D r P Q n H := hG
      clear hz hq
      refine lv_iload hx hb dL_law_642 (lv_at hl 2 rfl) ?_
      refine lv_icmp_eq (tgt := 661) hx hb dL_law_644 (by decide) (fun c644 => ?_) (fun c644 => ?_)
      · refine lv_iconst (v := 1) hx hb dL_law_661 (by decide) ?_
        refine lv_goto (tgt := 666) hx hb dL_law_662 (by decide) ?_
        refine W.widen (k := c0 + 20) (n := s0 + 120) (by omega) (by omega) ?_
        exact K666 1 _ _ _ (by first | exact Or.inl ⟨rfl, busy_0a c632⟩ | exact Or.inl ⟨rfl, busy_0b (by omega) c644 c658⟩ | exact Or.inr ⟨rfl, busy_1 (by omega) c632 (Or.inl c644)⟩ | exact Or.inr ⟨rfl, busy_1 (by omega) c632 (Or.inr c658)⟩) hG hS (lv_sub hl [4, 5, 6, 7, 8, 9, 10, 3, 2, 1, 0] rfl)
      · refine lv_aload_n hx hb dL_law_647 rfl (lv_at hl 5 rfl) ?_
        refine lv_iload hx hb dL_law_648 (lv_at hl 10 rfl) ?_
        refine lv_iconst (v := 4) hx hb dL_law_650 (by decide) ?_
        refine lwS (As := [.ref r, .int (nI q), .int 4]) (rest := []) hx hb hml hown hts hl.1 hK hKx (fun _ h => h) (c_L_plow l hl0 D r P Q n (P (169 + 20 * q + 4)) (nI q) 4 (fun C h => R_plow (q := q) (k := 4) h (by omega) rfl (by decide))) (gHS qM_L_100 qT_L_plow qK_L qC_L_plow) hds_L_plow ⟨(Nat.le_of_ble_eq_true rfl), (Nat.le_of_ble_eq_true rfl)⟩ hG rfl (Nat.le_of_ble_eq_true rfl) ⟨(by show c0 + 2 + 2 + 2 + 2 + 2 + 2 ≤ 661124; omega), (by show s0 + 12 + 12 + 12 + 12 + 12 + 12 ≤ 7118252; omega)⟩ dL_law_651 hS hAr (fun H locs hG hz hq hS => ?_)
        have hG : St D r P Q n H := hG
        clear hz hq
        refine lv_iload hx hb dL_law_654 (lv_at hl 2 rfl) ?_
        refine lv_iconst (v := 1) hx hb dL_law_656 (by decide) ?_
        refine topN (n := 1) rfl ?_
        refine iaddN (a := k) (b := 1) hx hb dL_law_657 ?_
        refine lv_icmp_ne (tgt := 665) hx hb dL_law_658 (by decide) (fun c658 => ?_) (fun c658 => ?_)
        · refine lv_iconst (v := 0) hx hb dL_law_665 (by decide) ?_
          refine W.widen (k := c0 + 20) (n := s0 + 120) (by omega) (by omega) ?_
          exact K666 0 _ _ _ (by first | exact Or.inl ⟨rfl, busy_0a c632⟩ | exact Or.inl ⟨rfl, busy_0b (by omega) c644 c658⟩ | exact Or.inr ⟨rfl, busy_1 (by omega) c632 (Or.inl c644)⟩ | exact Or.inr ⟨rfl, busy_1 (by omega) c632 (Or.inr c658)⟩) hG hS (lv_sub hl [4, 5, 6, 7, 8, 9, 10, 3, 2, 1, 0] rfl)
        · refine lv_iconst (v := 1) hx hb dL_law_661 (by decide) ?_
          refine lv_goto (tgt := 666) hx hb dL_law_662 (by decide) ?_
          refine W.widen (k := c0 + 20) (n := s0 + 120) (by omega) (by omega) ?_
          exact K666 1 _ _ _ (by first | exact Or.inl ⟨rfl, busy_0a c632⟩ | exact Or.inl ⟨rfl, busy_0b (by omega) c644 c658⟩ | exact Or.inr ⟨rfl, busy_1 (by omega) c632 (Or.inl c644)⟩ | exact Or.inr ⟨rfl, busy_1 (by omega) c632 (Or.inr c658)⟩) hG hS (lv_sub hl [4, 5, 6, 7, 8, 9, 10, 3, 2, 1, 0] rfl)
  · refine lv_aload_n hx hb dL_law_603 rfl (lv_at hl 3 rfl) ?_
    refine lv_iload hx hb dL_law_604 (lv_at hl 8 rfl) ?_
    refine lv_iload hx hb dL_law_606 (lv_at hl 0 rfl) ?_
    have hc1 := hc.1
    obtain ⟨rf, rf1, rf2⟩ := th_route (k := k) hI hqp (by omega)
    obtain ⟨rr, rr1, rr2⟩ := th_route (k := k + 1) hI hqp hc.1
    refine lwS (As := [.ref r, .int (nI q), .int (nI k)]) (rest := []) hx hb hml hown hts hl.1 hK hKx (fun _ h => h) (c_L_stop l hl0 D r P Q n (P (169 + 20 * q + 8 + k)) (nI q) (nI k) (fun C h => R_stop (q := q) (j := k) h hqp (by have := hc.1; omega))) (gHS qM_L_102 qT_L_stop qK_L qC_L_stop) hds_L_stop ⟨(Nat.le_of_ble_eq_true rfl), (Nat.le_of_ble_eq_true rfl)⟩ hG rfl (Nat.le_of_ble_eq_true rfl) ⟨(by show c0 + 2 + 2 ≤ 661124; omega), (by show s0 + 12 + 12 ≤ 7118252; omega)⟩ dL_law_608 hS hAr (fun H locs hG hz hq hS => ?_)
    have hG : St D r P Q n H := hG
    clear hz hq
    refine topN (n := rf) rf1 ?_
    refine lv_istore (lv' := [(11, .int (nI rf)), (10, .int (nI k)), (9, .int (nI (nc P q))), (0, .ref b), (1, .ref r), (2, .int (nI i)), (4, .int y), (5, .int (nI (ns P))), (6, .int (nI (np P))), (8, .int (nI q))]) hx hb dL_law_611 hl (by decide) rfl (fun ls hl => ?_)
    refine lv_aload_n hx hb dL_law_613 rfl (lv_at hl 4 rfl) ?_
    refine lv_iload hx hb dL_law_614 (lv_at hl 9 rfl) ?_
    refine lv_iload hx hb dL_law_616 (lv_at hl 1 rfl) ?_
    refine lv_iconst (v := 1) hx hb dL_law_618 (by decide) ?_
    refine topN (n := 1) rfl ?_
    refine iaddN (a := k) (b := 1) hx hb dL_law_619 ?_
    refine lwS (As := [.ref r, .int (nI q), .int (nI (k + 1))]) (rest := []) hx hb hml hown hts hl.1 hK hKx (fun _ h => h) (c_L_stop l hl0 D r P Q n (P (169 + 20 * q + 8 + (k + 1))) (nI q) (nI (k + 1)) (fun C h => R_stop (q := q) (j := k + 1) h hqp hc.1)) (gHS qM_L_102 qT_L_stop qK_L qC_L_stop) hds_L_stop ⟨(Nat.le_of_ble_eq_true rfl), (Nat.le_of_ble_eq_true rfl)⟩ hG rfl (Nat.le_of_ble_eq_true rfl) ⟨(by show c0 + 2 + 2 + 2 ≤ 661124; omega), (by show s0 + 12 + 12 + 12 ≤ 7118252; omega)⟩ dL_law_620 hS hAr (fun H locs hG hz hq hS => ?_)
    have hG : St D r P Q n H := hG
    clear hz hq
    refine topN (n := rr) rr1 ?_
    refine lv_istore (lv' := [(12, .int (nI rr)), (11, .int (nI rf)), (10, .int (nI k)), (9, .int (nI (nc P q))), (0, .ref b), (1, .ref r), (2, .int (nI i)), (4, .int y), (5, .int (nI (ns P))), (6, .int (nI (np P))), (8, .int (nI q))]) hx hb dL_law_623 hl (by decide) rfl (fun ls hl => ?_)
    have K666 : ∀ (bz : Int32) (H : Heap) (locs : List Loc) (ls : Array Slot) (hbz : (bz = 0 ∧ fR_X7_isBusy P q (nI k) = 0) ∨ (bz = 1 ∧ ¬ fR_X7_isBusy P q (nI k) = 0)) (hG : St D r P Q n H) (hS : va_S (fun q => r ≤ q) s.heap H locs) (hl : lv_has ls 15 [(0, .ref b), (1, .ref r), (2, .int (nI i)), (4, .int y), (5, .int (nI (ns P))), (6, .int (nI (np P))), (8, .int (nI q)), (9, .int (nI (nc P q))), (10, .int (nI k)), (11, .int (nI rf)), (12, .int (nI rr))]), W p l e room_1 s m args below meth c H locs (c0 + 20) (s0 + 120) (Qz) (F0 m 666 ls [.int bz]) := by
      intro bz H locs ls hbz hG hS hl
      refine lv_istore (lv' := [(13, .int bz), (0, .ref b), (1, .ref r), (2, .int (nI i)), (4, .int y), (5, .int (nI (ns P))), (6, .int (nI (np P))), (8, .int (nI q)), (9, .int (nI (nc P q))), (10, .int (nI k)), (11, .int (nI rf)), (12, .int (nI rr))]) hx hb dL_law_666 hl (by decide) rfl (fun ls hl => ?_)
      refine lv_aload_n hx hb dL_law_668 rfl (lv_at hl 2 rfl) ?_
      refine lv_iload hx hb dL_law_669 (lv_at hl 7 rfl) ?_
      refine lv_iload hx hb dL_law_671 (lv_at hl 9 rfl) ?_
      obtain ⟨iv1, iv2, iv3⟩ := Iv_exchange hI hqp hc.1 hc.2
      obtain ⟨rd0, rd1, rd2⟩ := rd_exch (P := P) (q := q) (k := k)
      refine lwS (As := [.ref r, .int (nI q), .int (nI k)]) (rest := []) hx hb hml hown hts hl.1 hK hKx (fun _ h => h) (c_L_exchange l hl0 D r P Q n (fP_X7_exchanges P q k) (svQ Q n P) (svN n + 1) (P (169 + 20 * q + 8 + (k + 1))) (nI q) (nI k) (fun C G hd => E_exchange hqp hc.1 hc.2 hd)) (gHS qM_L_131 qT_L_exchange qK_L qC_L_exchange) hds_L_exchange ⟨(Nat.le_of_ble_eq_true rfl), (Nat.le_of_ble_eq_true rfl)⟩ hG rfl (Nat.le_of_ble_eq_true rfl) ⟨(by show c0 + 20 + 3 ≤ 661124; omega), (by show s0 + 120 + 18 ≤ 7118252; omega)⟩ dL_law_673 hS hAr (fun H locs hG hz hq hS => ?_)
      have hG : St D r (fP_X7_exchanges P q k) (svQ Q n P) (svN n + 1) H := hG
      clear hz hq
      refine topN (n := rr) rr1 ?_
      refine lv_istore (lv' := [(14, .int (nI rr)), (13, .int bz), (0, .ref b), (1, .ref r), (2, .int (nI i)), (4, .int y), (5, .int (nI (ns P))), (6, .int (nI (np P))), (8, .int (nI q)), (9, .int (nI (nc P q))), (10, .int (nI k)), (11, .int (nI rf)), (12, .int (nI rr))]) hx hb dL_law_676 hl (by decide) rfl (fun ls hl => ?_)
      refine lv_iload hx hb dL_law_678 (lv_at hl 0 rfl) ?_
      refine lv_iload hx hb dL_law_680 (lv_at hl 10 rfl) ?_
      refine lv_iconst (v := 1) hx hb dL_law_682 (by decide) ?_
      refine topN (n := 1) rfl ?_
      refine iaddN (a := k) (b := 1) hx hb dL_law_683 ?_
      refine lv_iload hx hb dL_law_684 (lv_at hl 9 rfl) ?_
      refine lv_icmp_lt (tgt := 694) hx hb dL_law_686 (by decide) (fun c686 => ?_) (fun c686 => ?_)
      · have c686 : k + 1 < nc P q := (nI_ltI (a := k + 1) (b := nc P q) (by omega) (by omega)).mp c686
        refine lv_iload hx hb dL_law_694 (lv_at hl 1 rfl) ?_
        refine lv_if_eq (tgt := 704) hx hb dL_law_696 (by decide) (fun c696 => ?_) (fun c696 => ?_)
        · refine lv_iload hx hb dL_law_704 (lv_at hl 12 rfl) ?_
          refine lv_icmp_ne (tgt := 742) hx hb dL_law_706 (by decide) (fun c706 => ?_) (fun c706 => ?_)
          · have c706 : ¬ rr = rr := fun hh9 => c706 ((nI_eq (a := rr) (b := rr) (by omega) (by omega)).mpr hh9)
            exact absurd c706 (by omega)
          · have c706 : rr = rr := (nI_eq (a := rr) (b := rr) (by omega) (by omega)).mp c706
            refine lv_iload hx hb dL_law_709 (lv_at hl 0 rfl) ?_
            refine lv_if_lt (tgt := 744) hx hb dL_law_711 (by decide) (fun c711 => ?_) (fun c711 => ?_)
            · have c711 : rr < 0 := (nI_ltI (a := rr) (b := 0) (by omega) (by omega)).mp c711
              exact absurd c711 (by omega)
            · have c711 : ¬ rr < 0 := fun hh9 => c711 ((nI_ltI (a := rr) (b := 0) (by omega) (by omega)).mpr hh9)
              refine lv_aload_n hx hb dL_law_714 rfl (lv_at hl 3 rfl) ?_
              refine lv_iload hx hb dL_law_715 (lv_at hl 8 rfl) ?_
              refine lv_iload hx hb dL_law_717 (lv_at hl 10 rfl) ?_
              refine lv_iconst (v := 1) hx hb dL_law_719 (by decide) ?_
              refine topN (n := 1) rfl ?_
              refine iaddN (a := k) (b := 1) hx hb dL_law_720 ?_
              refine lwS (As := [.ref r, .int (nI q), .int (nI (k + 1))]) (rest := []) hx hb hml hown hts hl.1 hK hKx (fun _ h => h) (c_L_stop l hl0 D r (fP_X7_exchanges P q k) (svQ Q n P) (svN n + 1) (fP_X7_exchanges P q k (169 + 20 * q + 8 + (k + 1))) (nI q) (nI (k + 1)) (fun C h => R_stop (q := q) (j := k + 1) h (by omega) (by omega))) (gHS qM_L_102 qT_L_stop qK_L qC_L_stop) hds_L_stop ⟨(Nat.le_of_ble_eq_true rfl), (Nat.le_of_ble_eq_true rfl)⟩ hG rfl (Nat.le_of_ble_eq_true rfl) ⟨(by show c0 + 20 + 3 + 2 ≤ 661124; omega), (by show s0 + 120 + 18 + 12 ≤ 7118252; omega)⟩ dL_law_721 hS hAr (fun H locs hG hz hq hS => ?_)
              have hG : St D r (fP_X7_exchanges P q k) (svQ Q n P) (svN n + 1) H := hG
              clear hz hq
              refine topN (n := rf) (rd0.trans rf1) ?_
              refine lv_iload hx hb dL_law_724 (lv_at hl 11 rfl) ?_
              refine lv_icmp_ne (tgt := 742) hx hb dL_law_726 (by decide) (fun c726 => ?_) (fun c726 => ?_)
              · have c726 : ¬ rf = rf := fun hh9 => c726 ((nI_eq (a := rf) (b := rf) (by omega) (by omega)).mpr hh9)
                exact absurd c726 (by omega)
              · have c726 : rf = rf := (nI_eq (a := rf) (b := rf) (by omega) (by omega)).mp c726
                refine lv_aload_n hx hb dL_law_729 rfl (lv_at hl 3 rfl) ?_
                refine lv_iload hx hb dL_law_730 (lv_at hl 8 rfl) ?_
                refine lv_iload hx hb dL_law_732 (lv_at hl 10 rfl) ?_
                refine lwS (As := [.ref r, .int (nI q), .int (nI k)]) (rest := []) hx hb hml hown hts hl.1 hK hKx (fun _ h => h) (c_L_stop l hl0 D r (fP_X7_exchanges P q k) (svQ Q n P) (svN n + 1) (fP_X7_exchanges P q k (169 + 20 * q + 8 + k)) (nI q) (nI k) (fun C h => R_stop (q := q) (j := k) h (by omega) (by omega))) (gHS qM_L_102 qT_L_stop qK_L qC_L_stop) hds_L_stop ⟨(Nat.le_of_ble_eq_true rfl), (Nat.le_of_ble_eq_true rfl)⟩ hG rfl (Nat.le_of_ble_eq_true rfl) ⟨(by show c0 + 20 + 3 + 2 + 2 ≤ 661124; omega), (by show s0 + 120 + 18 + 12 + 12 ≤ 7118252; omega)⟩ dL_law_734 hS hAr (fun H locs hG hz hq hS => ?_)
                have hG : St D r (fP_X7_exchanges P q k) (svQ Q n P) (svN n + 1) H := hG
                clear hz hq
                refine topN (n := rr) (rd1.trans rr1) ?_
                refine lv_iload hx hb dL_law_737 (lv_at hl 12 rfl) ?_
                refine lv_icmp_eq (tgt := 744) hx hb dL_law_739 (by decide) (fun c739 => ?_) (fun c739 => ?_)
                · have c739 : rr = rr := (nI_eq (a := rr) (b := rr) (by omega) (by omega)).mp c739
                  refine lv_goto (tgt := 1058) hx hb dL_law_744 (by decide) ?_
                  refine W.widen (k := c0 + 360) (n := s0 + 2160) (by omega) (by omega) ?_
                  exact kk (fP_X7_exchanges P q k) (svQ Q n P) (svN n + 1) _ _ _ _ iv1 (by omega) hG hS (lv_sub hl [2, 3, 4, 5] rfl)
                · have c739 : ¬ rr = rr := fun hh9 => c739 ((nI_eq (a := rr) (b := rr) (by omega) (by omega)).mpr hh9)
                  exact absurd c739 (by omega)
        · exact (hbz.elim (fun h9 => c696 h9.1) (fun h9 => h9.2 hc.2)).elim
      · have c686 : ¬ k + 1 < nc P q := fun hh9 => c686 ((nI_ltI (a := k + 1) (b := nc P q) (by omega) (by omega)).mpr hh9)
        exact absurd c686 (by omega)
    refine lv_aload_n hx hb dL_law_625 rfl (lv_at hl 5 rfl) ?_
    refine lv_iload hx hb dL_law_626 (lv_at hl 10 rfl) ?_
    refine lv_iconst (v := 5) hx hb dL_law_628 (by decide) ?_
    refine lwS (As := [.ref r, .int (nI q), .int 5]) (rest := []) hx hb hml hown hts hl.1 hK hKx (fun _ h => h) (c_L_plow l hl0 D r P Q n (P (169 + 20 * q + 5)) (nI q) 5 (fun C h => R_plow (q := q) (k := 5) h (by omega) rfl (by decide))) (gHS qM_L_100 qT_L_plow qK_L qC_L_plow) hds_L_plow ⟨(Nat.le_of_ble_eq_true rfl), (Nat.le_of_ble_eq_true rfl)⟩ hG rfl (Nat.le_of_ble_eq_true rfl) ⟨(by show c0 + 2 + 2 + 2 + 2 ≤ 661124; omega), (by show s0 + 12 + 12 + 12 + 12 ≤ 7118252; omega)⟩ dL_law_629 hS hAr (fun H locs hG hz hq hS => ?_)
    have hG : St D r P Q n H := hG
    clear hz hq
    refine lv_if_le (tgt := 665) hx hb dL_law_632 (by decide) (fun c632 => ?_) (fun c632 => ?_)
    · refine lv_iconst (v := 0) hx hb dL_law_665 (by decide) ?_
      refine W.widen (k := c0 + 20) (n := s0 + 120) (by omega) (by omega) ?_
      exact K666 0 _ _ _ (by first | exact Or.inl ⟨rfl, busy_0a c632⟩ | exact Or.inl ⟨rfl, busy_0b (by omega) c644 c658⟩ | exact Or.inr ⟨rfl, busy_1 (by omega) c632 (Or.inl c644)⟩ | exact Or.inr ⟨rfl, busy_1 (by omega) c632 (Or.inr c658)⟩) hG hS (lv_sub hl [4, 5, 6, 7, 8, 9, 10, 3, 2, 1, 0] rfl)
    · refine lv_aload_n hx hb dL_law_635 rfl (lv_at hl 5 rfl) ?_
      refine lv_iload hx hb dL_law_636 (lv_at hl 10 rfl) ?_
      refine lv_iconst (v := 4) hx hb dL_law_638 (by decide) ?_
      refine lwS (As := [.ref r, .int (nI q), .int 4]) (rest := []) hx hb hml hown hts hl.1 hK hKx (fun _ h => h) (c_L_plow l hl0 D r P Q n (P (169 + 20 * q + 4)) (nI q) 4 (fun C h => R_plow (q := q) (k := 4) h (by omega) rfl (by decide))) (gHS qM_L_100 qT_L_plow qK_L qC_L_plow) hds_L_plow ⟨(Nat.le_of_ble_eq_true rfl), (Nat.le_of_ble_eq_true rfl)⟩ hG rfl (Nat.le_of_ble_eq_true rfl) ⟨(by show c0 + 2 + 2 + 2 + 2 + 2 ≤ 661124; omega), (by show s0 + 12 + 12 + 12 + 12 + 12 ≤ 7118252; omega)⟩ dL_law_639 hS hAr (fun H locs hG hz hq hS => ?_)
      have hG : St D r P Q n H := hG
      clear hz hq
      refine lv_iload hx hb dL_law_642 (lv_at hl 2 rfl) ?_
      refine lv_icmp_eq (tgt := 661) hx hb dL_law_644 (by decide) (fun c644 => ?_) (fun c644 => ?_)
      · refine lv_iconst (v := 1) hx hb dL_law_661 (by decide) ?_
        refine lv_goto (tgt := 666) hx hb dL_law_662 (by decide) ?_
        refine W.widen (k := c0 + 20) (n := s0 + 120) (by omega) (by omega) ?_
        exact K666 1 _ _ _ (by first | exact Or.inl ⟨rfl, busy_0a c632⟩ | exact Or.inl ⟨rfl, busy_0b (by omega) c644 c658⟩ | exact Or.inr ⟨rfl, busy_1 (by omega) c632 (Or.inl c644)⟩ | exact Or.inr ⟨rfl, busy_1 (by omega) c632 (Or.inr c658)⟩) hG hS (lv_sub hl [4, 5, 6, 7, 8, 9, 10, 3, 2, 1, 0] rfl)
      · refine lv_aload_n hx hb dL_law_647 rfl (lv_at hl 5 rfl) ?_
        refine lv_iload hx hb dL_law_648 (lv_at hl 10 rfl) ?_
        refine lv_iconst (v := 4) hx hb dL_law_650 (by decide) ?_
        refine lwS (As := [.ref r, .int (nI q), .int 4]) (rest := []) hx hb hml hown hts hl.1 hK hKx (fun _ h => h) (c_L_plow l hl0 D r P Q n (P (169 + 20 * q + 4)) (nI q) 4 (fun C h => R_plow (q := q) (k := 4) h (by omega) rfl (by decide))) (gHS qM_L_100 qT_L_plow qK_L qC_L_plow) hds_L_plow ⟨(Nat.le_of_ble_eq_true rfl), (Nat.le_of_ble_eq_true rfl)⟩ hG rfl (Nat.le_of_ble_eq_true rfl) ⟨(by show c0 + 2 + 2 + 2 + 2 + 2 + 2 ≤ 661124; omega), (by show s0 + 12 + 12 + 12 + 12 + 12 + 12 ≤ 7118252; omega)⟩ dL_law_651 hS hAr (fun H locs hG hz hq hS => ?_)
        have hG : St D r P Q n H := hG
        clear hz hq
        refine lv_iload hx hb dL_law_654 (lv_at hl 2 rfl) ?_
        refine lv_iconst (v := 1) hx hb dL_law_656 (by decide) ?_
        refine topN (n := 1) rfl ?_
        refine iaddN (a := k) (b := 1) hx hb dL_law_657 ?_
        refine lv_icmp_ne (tgt := 665) hx hb dL_law_658 (by decide) (fun c658 => ?_) (fun c658 => ?_)
        · refine lv_iconst (v := 0) hx hb dL_law_665 (by decide) ?_
          refine W.widen (k := c0 + 20) (n := s0 + 120) (by omega) (by omega) ?_
          exact K666 0 _ _ _ (by first | exact Or.inl ⟨rfl, busy_0a c632⟩ | exact Or.inl ⟨rfl, busy_0b (by omega) c644 c658⟩ | exact Or.inr ⟨rfl, busy_1 (by omega) c632 (Or.inl c644)⟩ | exact Or.inr ⟨rfl, busy_1 (by omega) c632 (Or.inr c658)⟩) hG hS (lv_sub hl [4, 5, 6, 7, 8, 9, 10, 3, 2, 1, 0] rfl)
        · refine lv_iconst (v := 1) hx hb dL_law_661 (by decide) ?_
          refine lv_goto (tgt := 666) hx hb dL_law_662 (by decide) ?_
          refine W.widen (k := c0 + 20) (n := s0 + 120) (by omega) (by omega) ?_
          exact K666 1 _ _ _ (by first | exact Or.inl ⟨rfl, busy_0a c632⟩ | exact Or.inl ⟨rfl, busy_0b (by omega) c644 c658⟩ | exact Or.inr ⟨rfl, busy_1 (by omega) c632 (Or.inl c644)⟩ | exact Or.inr ⟨rfl, busy_1 (by omega) c632 (Or.inr c658)⟩) hG hS (lv_sub hl [4, 5, 6, 7, 8, 9, 10, 3, 2, 1, 0] rfl)

set_option maxHeartbeats 4000000 in
set_option maxRecDepth 100000 in
theorem law_c5 {p : Program} {l : Launch} {e : Env} {s : State} {m : MethodId} {args : Array Value} {below : List Frame} {meth : Method} {c : Code} {Qz : State → Prop} {D : va_G} {b L r : Nat} {xs : Nat → Int32} {P : Nat → Int32} {Q : Nat → Nat → Int32} {n h i : Nat} {y : Int32} {c0 s0 : Nat} (hl0 : l.stackTraces = false) (hx : p.tables.exec = Jvm.exec) (hb : c.code = cL_law) (hml : c.maxLocals = 15) (hown : s.vm.findClass RL = some m.cls) (hts : ∀ w ∈ AW, w.before args s = true) (hK : Kn D s) (hKx : Kx r s) (hX : va_X b L xs s s.heap) (hbl : b < r) (hsz0 : s.heap.size = r) (hL0 : L ≤ 260) (hI : Iv h P) (hc0 : c0 ≤ 600000) (hs0 : s0 ≤ 7000000) (h1s : 1 ≤ ns P) (kk : ∀ (P1 : Nat → Int32) (Q1 : Nat → Nat → Int32) (n1 h1 : Nat) (H : Heap) (locs : List Loc) (ls : Array Slot), Iv h1 P1 → 1 ≤ ns P1 → St D r P1 Q1 n1 H → va_S (fun q => r ≤ q) s.heap H locs → lv_has ls 15 [(0, .ref b), (1, .ref r), (2, .int (nI i)), (4, .int y)] → W p l e room_1 s m args below meth c H locs (c0 + 360) (s0 + 2160) Qz (F0 m 1058 ls [])) (H : Heap) (locs : List Loc) (ls : Array Slot) (hG : St D r P Q n H) (hS : va_S (fun q => r ≤ q) s.heap H locs) (hl : lv_has ls 15 [(0, .ref b), (1, .ref r), (2, .int (nI i)), (4, .int y)]) : W p l e room_1 s m args below meth c H locs (c0) (s0) Qz (F0 m 754 ls []) := by
  have hAr : ∀ q, inS r q → r ≤ q := fun q h => h.1
  obtain ⟨z0, z00, z1, z2, hN1, hN2, z5, z7, ⟨S9, S91, z3⟩, k9, k91, z6⟩ := snd_rest hI
  refine lv_iload hx hb dL_law_754 (lv_at hl 3 rfl) ?_
  refine lv_iconst (v := 3) hx hb dL_law_756 (by decide) ?_
  refine topN (n := 3) rfl ?_
  obtain ⟨t9, ezt9, ht91⟩ : ∃ z, lowN y 3 = z ∧ z < 3 := ⟨_, rfl, lowN_lt (by decide)⟩
  refine gcSi (As := [.int y, .int (nI 3)]) (rest := []) hx hb hml hown hts hl.1 hK (c_L_low l D (fun H => St D r P Q n H) y 3 (by decide) (by decide)) (gaS qM_L_121 qT_L_low qK_L qC_L_low) hds_L_low ⟨(Nat.le_of_ble_eq_true rfl), (Nat.le_of_ble_eq_true rfl)⟩ hG rfl (Nat.le_of_ble_eq_true rfl) ⟨(by show c0 ≤ 661124; omega), (by show s0 ≤ 7118252; omega)⟩ dL_law_757 hS (fun _ h => False.elim h) (fun H locs hG _ hq hS => ?_)
  have hG : St D r P Q n H := hG
  refine topN (n := t9) (by rw [ezt9]) ?_
  refine lv_istore (lv' := [(9, .int (nI t9)), (0, .ref b), (1, .ref r), (2, .int (nI i)), (4, .int y)]) hx hb dL_law_760 hl (by decide) rfl (fun ls hl => ?_)
  refine lv_aload_n hx hb dL_law_762 rfl (lv_at hl 2 rfl) ?_
  refine lv_iload hx hb dL_law_763 (lv_at hl 0 rfl) ?_
  refine lv_iconst (v := 0) hx hb dL_law_765 (by decide) ?_
  refine lwS (As := [.ref r, .int (nI t9), .int 0]) (rest := []) hx hb hml hown hts hl.1 hK hKx (fun _ h => h) (c_L_terms l hl0 D r P Q n (P (229 + 4 * t9 + 0)) (nI t9) 0 (fun C h => R_terms (t := t9) (k := 0) h rfl (by omega) rfl (by decide))) (gHS qM_L_98 qT_L_terms qK_L qC_L_terms) hds_L_terms ⟨(Nat.le_of_ble_eq_true rfl), (Nat.le_of_ble_eq_true rfl)⟩ hG rfl (Nat.le_of_ble_eq_true rfl) ⟨(by show c0 + 2 ≤ 661124; omega), (by show s0 + 12 ≤ 7118252; omega)⟩ dL_law_766 hS hAr (fun H locs hG hz hq hS => ?_)
  have hG : St D r P Q n H := hG
  clear hz hq
  refine lv_istore (lv' := [(10, .int (P (229 + 4 * t9 + 0))), (9, .int (nI t9)), (0, .ref b), (1, .ref r), (2, .int (nI i)), (4, .int y)]) hx hb dL_law_769 hl (by decide) rfl (fun ls hl => ?_)
  refine lv_iconst (v := 1) hx hb dL_law_771 (by decide) ?_
  refine topN (n := 1) rfl ?_
  refine lv_iload hx hb dL_law_772 (lv_at hl 5 rfl) ?_
  refine lv_iconst (v := 2) hx hb dL_law_774 (by decide) ?_
  refine lv_ishr hx hb dL_law_775 ?_
  refine lv_topi (fun ya eya => ?_)
  refine lv_bipush (v := 60) hx hb dL_law_776 (by decide) ?_
  refine topN (n := 60) rfl ?_
  obtain ⟨a9, eza9, ha91⟩ : ∃ z, lowN ya 60 = z ∧ z < 60 := ⟨_, rfl, lowN_lt (by decide)⟩
  refine gcSi (As := [.int ya, .int (nI 60)]) (rest := [.int (nI 1)]) hx hb hml hown hts hl.1 hK (c_L_low l D (fun H => St D r P Q n H) ya 60 (by decide) (by decide)) (gaS qM_L_121 qT_L_low qK_L qC_L_low) hds_L_low ⟨(Nat.le_of_ble_eq_true rfl), (Nat.le_of_ble_eq_true rfl)⟩ hG rfl (Nat.le_of_ble_eq_true rfl) ⟨(by show c0 + 2 ≤ 661124; omega), (by show s0 + 12 ≤ 7118252; omega)⟩ dL_law_778 hS (fun _ h => False.elim h) (fun H locs hG _ hq hS => ?_)
  have hG : St D r P Q n H := hG
  refine topN (n := a9) (by rw [eza9]) ?_
  refine iaddN (a := 1) (b := a9) hx hb dL_law_781 ?_
  refine lv_istore (lv' := [(11, .int (nI (1 + a9))), (10, .int (P (229 + 4 * t9 + 0))), (9, .int (nI t9)), (0, .ref b), (1, .ref r), (2, .int (nI i)), (4, .int y)]) hx hb dL_law_782 hl (by decide) rfl (fun ls hl => ?_)
  refine lv_aload_n hx hb dL_law_784 rfl (lv_at hl 4 rfl) ?_
  refine lv_iload hx hb dL_law_785 (lv_at hl 2 rfl) ?_
  refine lv_iload hx hb dL_law_787 (lv_at hl 0 rfl) ?_
  refine lv_iconst (v := 1) hx hb dL_law_789 (by decide) ?_
  refine topN (n := 1) rfl ?_
  refine lv_iload hx hb dL_law_790 (lv_at hl 6 rfl) ?_
  refine lv_bipush (v := 8) hx hb dL_law_792 (by decide) ?_
  refine lv_ishr hx hb dL_law_794 ?_
  refine lv_topi (fun yb eyb => ?_)
  refine lv_bipush (v := 8) hx hb dL_law_795 (by decide) ?_
  refine topN (n := 8) rfl ?_
  obtain ⟨b9, ezb9, hb91⟩ : ∃ z, lowN yb 8 = z ∧ z < 8 := ⟨_, rfl, lowN_lt (by decide)⟩
  refine gcSi (As := [.int yb, .int (nI 8)]) (rest := [.int (nI 1), .int (nI (1 + a9)), .int (nI t9), .ref r]) hx hb hml hown hts hl.1 hK (c_L_low l D (fun H => St D r P Q n H) yb 8 (by decide) (by decide)) (gaS qM_L_121 qT_L_low qK_L qC_L_low) hds_L_low ⟨(Nat.le_of_ble_eq_true rfl), (Nat.le_of_ble_eq_true rfl)⟩ hG rfl (Nat.le_of_ble_eq_true rfl) ⟨(by show c0 + 2 ≤ 661124; omega), (by show s0 + 12 ≤ 7118252; omega)⟩ dL_law_797 hS (fun _ h => False.elim h) (fun H locs hG _ hq hS => ?_)
  have hG : St D r P Q n H := hG
  refine topN (n := b9) (by rw [ezb9]) ?_
  refine iaddN (a := 1) (b := b9) hx hb dL_law_800 ?_
  refine lv_iload hx hb dL_law_801 (lv_at hl 6 rfl) ?_
  refine lv_bipush (v := 12) hx hb dL_law_803 (by decide) ?_
  refine lv_ishr hx hb dL_law_805 ?_
  refine lv_topi (fun yc eyc => ?_)
  refine lv_bipush (v := 60) hx hb dL_law_806 (by decide) ?_
  refine topN (n := 60) rfl ?_
  obtain ⟨c9, ezc9, hc91⟩ : ∃ z, lowN yc 60 = z ∧ z < 60 := ⟨_, rfl, lowN_lt (by decide)⟩
  refine gcSi (As := [.int yc, .int (nI 60)]) (rest := [.int (nI (1 + b9)), .int (nI (1 + a9)), .int (nI t9), .ref r]) hx hb hml hown hts hl.1 hK (c_L_low l D (fun H => St D r P Q n H) yc 60 (by decide) (by decide)) (gaS qM_L_121 qT_L_low qK_L qC_L_low) hds_L_low ⟨(Nat.le_of_ble_eq_true rfl), (Nat.le_of_ble_eq_true rfl)⟩ hG rfl (Nat.le_of_ble_eq_true rfl) ⟨(by show c0 + 2 ≤ 661124; omega), (by show s0 + 12 ≤ 7118252; omega)⟩ dL_law_808 hS (fun _ h => False.elim h) (fun H locs hG _ hq hS => ?_)
  have hG : St D r P Q n H := hG
  refine topN (n := c9) (by rw [ezc9]) ?_
  obtain ⟨iv1, iv2, iv3⟩ := Iv_terms (t := t9) (a := 1 + a9) (b := 1 + b9) (c := c9) hI (by omega) (by omega) (by omega) (by omega)
  obtain ⟨rd0, rd1, rd2⟩ := rd_terms (P := P) (t := t9) (a := nI (1 + a9)) (b := nI (1 + b9)) (c := nI c9)
  refine lwS (As := [.ref r, .int (nI t9), .int (nI (1 + a9)), .int (nI (1 + b9)), .int (nI c9)]) (rest := []) hx hb hml hown hts hl.1 hK hKx (fun _ h => h) (c_L_setTerms l hl0 D r P Q n (fP_X7_layTerms P t9 (nI (1 + a9)) (nI (1 + b9)) (nI c9)) (svQ Q n P) (svN n + 1) (P (229 + 4 * t9 + 0)) (nI t9) (nI (1 + a9)) (nI (1 + b9)) (nI c9) (fun C G hd => E_setTerms (by omega) (by omega) (by omega) (by omega) hd)) (gHS qM_L_141 qT_L_setTerms qK_L qC_L_setTerms) hds_L_setTerms ⟨(Nat.le_of_ble_eq_true rfl), (Nat.le_of_ble_eq_true rfl)⟩ hG rfl (Nat.le_of_ble_eq_true rfl) ⟨(by show c0 + 2 + 4 ≤ 661124; omega), (by show s0 + 12 + 24 ≤ 7118252; omega)⟩ dL_law_811 hS hAr (fun H locs hG hz hq hS => ?_)
  have hG : St D r (fP_X7_layTerms P t9 (nI (1 + a9)) (nI (1 + b9)) (nI c9)) (svQ Q n P) (svN n + 1) H := hG
  clear hz hq
  refine lv_iload hx hb dL_law_814 (lv_at hl 1 rfl) ?_
  refine lv_icmp_ne (tgt := 873) hx hb dL_law_816 (by decide) (fun c816 => ?_) (fun c816 => ?_)
  · exact absurd rfl c816
  · refine lv_aload_n hx hb dL_law_819 rfl (lv_at hl 4 rfl) ?_
    refine lv_iload hx hb dL_law_820 (lv_at hl 2 rfl) ?_
    refine lv_iconst (v := 0) hx hb dL_law_822 (by decide) ?_
    refine lwS (As := [.ref r, .int (nI t9), .int 0]) (rest := []) hx hb hml hown hts hl.1 hK hKx (fun _ h => h) (c_L_terms l hl0 D r (fP_X7_layTerms P t9 (nI (1 + a9)) (nI (1 + b9)) (nI c9)) (svQ Q n P) (svN n + 1) ((fP_X7_layTerms P t9 (nI (1 + a9)) (nI (1 + b9)) (nI c9)) (229 + 4 * t9 + 0)) (nI t9) 0 (fun C h => R_terms (t := t9) (k := 0) h rfl (by omega) rfl (by decide))) (gHS qM_L_98 qT_L_terms qK_L qC_L_terms) hds_L_terms ⟨(Nat.le_of_ble_eq_true rfl), (Nat.le_of_ble_eq_true rfl)⟩ hG rfl (Nat.le_of_ble_eq_true rfl) ⟨(by show c0 + 2 + 4 + 2 ≤ 661124; omega), (by show s0 + 12 + 24 + 12 ≤ 7118252; omega)⟩ dL_law_823 hS hAr (fun H locs hG hz hq hS => ?_)
    have hG : St D r (fP_X7_layTerms P t9 (nI (1 + a9)) (nI (1 + b9)) (nI c9)) (svQ Q n P) (svN n + 1) H := hG
    clear hz hq
    refine topN (n := 1 + a9) rd0 ?_
    refine lv_iload hx hb dL_law_826 (lv_at hl 0 rfl) ?_
    refine lv_icmp_ne (tgt := 873) hx hb dL_law_828 (by decide) (fun c828 => ?_) (fun c828 => ?_)
    · have c828 : ¬ 1 + a9 = 1 + a9 := fun hh9 => c828 ((nI_eq (a := 1 + a9) (b := 1 + a9) (by omega) (by omega)).mpr hh9)
      exact absurd c828 (by omega)
    · have c828 : 1 + a9 = 1 + a9 := (nI_eq (a := 1 + a9) (b := 1 + a9) (by omega) (by omega)).mp c828
      refine lv_aload_n hx hb dL_law_831 rfl (lv_at hl 4 rfl) ?_
      refine lv_iload hx hb dL_law_832 (lv_at hl 2 rfl) ?_
      refine lv_iconst (v := 1) hx hb dL_law_834 (by decide) ?_
      refine lwS (As := [.ref r, .int (nI t9), .int 1]) (rest := []) hx hb hml hown hts hl.1 hK hKx (fun _ h => h) (c_L_terms l hl0 D r (fP_X7_layTerms P t9 (nI (1 + a9)) (nI (1 + b9)) (nI c9)) (svQ Q n P) (svN n + 1) ((fP_X7_layTerms P t9 (nI (1 + a9)) (nI (1 + b9)) (nI c9)) (229 + 4 * t9 + 1)) (nI t9) 1 (fun C h => R_terms (t := t9) (k := 1) h rfl (by omega) rfl (by decide))) (gHS qM_L_98 qT_L_terms qK_L qC_L_terms) hds_L_terms ⟨(Nat.le_of_ble_eq_true rfl), (Nat.le_of_ble_eq_true rfl)⟩ hG rfl (Nat.le_of_ble_eq_true rfl) ⟨(by show c0 + 2 + 4 + 2 + 2 ≤ 661124; omega), (by show s0 + 12 + 24 + 12 + 12 ≤ 7118252; omega)⟩ dL_law_835 hS hAr (fun H locs hG hz hq hS => ?_)
      have hG : St D r (fP_X7_layTerms P t9 (nI (1 + a9)) (nI (1 + b9)) (nI c9)) (svQ Q n P) (svN n + 1) H := hG
      clear hz hq
      refine topN (n := 1 + b9) rd1 ?_
      refine lv_iconst (v := 1) hx hb dL_law_838 (by decide) ?_
      refine topN (n := 1) rfl ?_
      refine lv_iload hx hb dL_law_839 (lv_at hl 6 rfl) ?_
      refine lv_bipush (v := 8) hx hb dL_law_841 (by decide) ?_
      refine lv_ishr hx hb dL_law_843 ?_
      refine topE (y := yb) eyb.symm ?_
      refine lv_bipush (v := 8) hx hb dL_law_844 (by decide) ?_
      refine topN (n := 8) rfl ?_
      refine gcSi (As := [.int yb, .int (nI 8)]) (rest := [.int (nI 1), .int (nI (1 + b9))]) hx hb hml hown hts hl.1 hK (c_L_low l D (fun H => St D r (fP_X7_layTerms P t9 (nI (1 + a9)) (nI (1 + b9)) (nI c9)) (svQ Q n P) (svN n + 1) H) yb 8 (by decide) (by decide)) (gaS qM_L_121 qT_L_low qK_L qC_L_low) hds_L_low ⟨(Nat.le_of_ble_eq_true rfl), (Nat.le_of_ble_eq_true rfl)⟩ hG rfl (Nat.le_of_ble_eq_true rfl) ⟨(by show c0 + 2 + 4 + 2 + 2 ≤ 661124; omega), (by show s0 + 12 + 24 + 12 + 12 ≤ 7118252; omega)⟩ dL_law_846 hS (fun _ h => False.elim h) (fun H locs hG _ hq hS => ?_)
      have hG : St D r (fP_X7_layTerms P t9 (nI (1 + a9)) (nI (1 + b9)) (nI c9)) (svQ Q n P) (svN n + 1) H := hG
      refine topN (n := b9) (by rw [ezb9]) ?_
      refine iaddN (a := 1) (b := b9) hx hb dL_law_849 ?_
      refine lv_icmp_ne (tgt := 873) hx hb dL_law_850 (by decide) (fun c850 => ?_) (fun c850 => ?_)
      · have c850 : ¬ 1 + b9 = 1 + b9 := fun hh9 => c850 ((nI_eq (a := 1 + b9) (b := 1 + b9) (by omega) (by omega)).mpr hh9)
        exact absurd c850 (by omega)
      · have c850 : 1 + b9 = 1 + b9 := (nI_eq (a := 1 + b9) (b := 1 + b9) (by omega) (by omega)).mp c850
        refine lv_aload_n hx hb dL_law_853 rfl (lv_at hl 4 rfl) ?_
        refine lv_iload hx hb dL_law_854 (lv_at hl 2 rfl) ?_
        refine lv_iconst (v := 2) hx hb dL_law_856 (by decide) ?_
        refine lwS (As := [.ref r, .int (nI t9), .int 2]) (rest := []) hx hb hml hown hts hl.1 hK hKx (fun _ h => h) (c_L_terms l hl0 D r (fP_X7_layTerms P t9 (nI (1 + a9)) (nI (1 + b9)) (nI c9)) (svQ Q n P) (svN n + 1) ((fP_X7_layTerms P t9 (nI (1 + a9)) (nI (1 + b9)) (nI c9)) (229 + 4 * t9 + 2)) (nI t9) 2 (fun C h => R_terms (t := t9) (k := 2) h rfl (by omega) rfl (by decide))) (gHS qM_L_98 qT_L_terms qK_L qC_L_terms) hds_L_terms ⟨(Nat.le_of_ble_eq_true rfl), (Nat.le_of_ble_eq_true rfl)⟩ hG rfl (Nat.le_of_ble_eq_true rfl) ⟨(by show c0 + 2 + 4 + 2 + 2 + 2 ≤ 661124; omega), (by show s0 + 12 + 24 + 12 + 12 + 12 ≤ 7118252; omega)⟩ dL_law_857 hS hAr (fun H locs hG hz hq hS => ?_)
        have hG : St D r (fP_X7_layTerms P t9 (nI (1 + a9)) (nI (1 + b9)) (nI c9)) (svQ Q n P) (svN n + 1) H := hG
        clear hz hq
        refine topN (n := c9) rd2 ?_
        refine lv_iload hx hb dL_law_860 (lv_at hl 6 rfl) ?_
        refine lv_bipush (v := 12) hx hb dL_law_862 (by decide) ?_
        refine lv_ishr hx hb dL_law_864 ?_
        refine topE (y := yc) eyc.symm ?_
        refine lv_bipush (v := 60) hx hb dL_law_865 (by decide) ?_
        refine topN (n := 60) rfl ?_
        refine gcSi (As := [.int yc, .int (nI 60)]) (rest := [.int (nI c9)]) hx hb hml hown hts hl.1 hK (c_L_low l D (fun H => St D r (fP_X7_layTerms P t9 (nI (1 + a9)) (nI (1 + b9)) (nI c9)) (svQ Q n P) (svN n + 1) H) yc 60 (by decide) (by decide)) (gaS qM_L_121 qT_L_low qK_L qC_L_low) hds_L_low ⟨(Nat.le_of_ble_eq_true rfl), (Nat.le_of_ble_eq_true rfl)⟩ hG rfl (Nat.le_of_ble_eq_true rfl) ⟨(by show c0 + 2 + 4 + 2 + 2 + 2 ≤ 661124; omega), (by show s0 + 12 + 24 + 12 + 12 + 12 ≤ 7118252; omega)⟩ dL_law_867 hS (fun _ h => False.elim h) (fun H locs hG _ hq hS => ?_)
        have hG : St D r (fP_X7_layTerms P t9 (nI (1 + a9)) (nI (1 + b9)) (nI c9)) (svQ Q n P) (svN n + 1) H := hG
        refine topN (n := c9) (by rw [ezc9]) ?_
        refine lv_icmp_eq (tgt := 875) hx hb dL_law_870 (by decide) (fun c870 => ?_) (fun c870 => ?_)
        · have c870 : c9 = c9 := (nI_eq (a := c9) (b := c9) (by omega) (by omega)).mp c870
          refine lv_goto (tgt := 1058) hx hb dL_law_875 (by decide) ?_
          refine W.widen (k := c0 + 360) (n := s0 + 2160) (by omega) (by omega) ?_
          exact kk (fP_X7_layTerms P t9 (nI (1 + a9)) (nI (1 + b9)) (nI c9)) (svQ Q n P) (svN n + 1) _ _ _ _ iv1 (by omega) hG hS (lv_sub hl [3, 4, 5, 6] rfl)
        · have c870 : ¬ c9 = c9 := fun hh9 => c870 ((nI_eq (a := c9) (b := c9) (by omega) (by omega)).mpr hh9)
          exact absurd c870 (by omega)

set_option maxHeartbeats 4000000 in
set_option maxRecDepth 100000 in
theorem law_c6 {p : Program} {l : Launch} {e : Env} {s : State} {m : MethodId} {args : Array Value} {below : List Frame} {meth : Method} {c : Code} {Qz : State → Prop} {D : va_G} {b L r : Nat} {xs : Nat → Int32} {P : Nat → Int32} {Q : Nat → Nat → Int32} {n h i : Nat} {y : Int32} {c0 s0 : Nat} (hl0 : l.stackTraces = false) (hx : p.tables.exec = Jvm.exec) (hb : c.code = cL_law) (hml : c.maxLocals = 15) (hown : s.vm.findClass RL = some m.cls) (hts : ∀ w ∈ AW, w.before args s = true) (hK : Kn D s) (hKx : Kx r s) (hX : va_X b L xs s s.heap) (hbl : b < r) (hsz0 : s.heap.size = r) (hL0 : L ≤ 260) (hI : Iv h P) (hc0 : c0 ≤ 600000) (hs0 : s0 ≤ 7000000) (h1s : 1 ≤ ns P) (kk : ∀ (P1 : Nat → Int32) (Q1 : Nat → Nat → Int32) (n1 h1 : Nat) (H : Heap) (locs : List Loc) (ls : Array Slot), Iv h1 P1 → 1 ≤ ns P1 → St D r P1 Q1 n1 H → va_S (fun q => r ≤ q) s.heap H locs → lv_has ls 15 [(0, .ref b), (1, .ref r), (2, .int (nI i)), (4, .int y)] → W p l e room_1 s m args below meth c H locs (c0 + 360) (s0 + 2160) Qz (F0 m 1058 ls [])) (H : Heap) (locs : List Loc) (ls : Array Slot) (hG : St D r P Q n H) (hS : va_S (fun q => r ≤ q) s.heap H locs) (hl : lv_has ls 15 [(0, .ref b), (1, .ref r), (2, .int (nI i)), (4, .int y)]) : W p l e room_1 s m args below meth c H locs (c0) (s0) Qz (F0 m 885 ls []) := by
  have hAr : ∀ q, inS r q → r ≤ q := fun q h => h.1
  obtain ⟨z0, z00, z1, z2, hN1, hN2, z5, z7, ⟨S9, S91, z3⟩, k9, k91, z6⟩ := snd_rest hI
  refine lv_aload_n hx hb dL_law_885 rfl (lv_at hl 1 rfl) ?_
  refine lv_iconst (v := 4) hx hb dL_law_886 (by decide) ?_
  refine lwS (As := [.ref r, .int 4]) (rest := []) hx hb hml hown hts hl.1 hK hKx (fun _ h => h) (c_L_value l hl0 D r P Q n (P 4) 4 (fun C h => (R_value (k := 4) h rfl (by decide)).trans rfl)) (gHS qM_L_88 qT_L_value qK_L qC_L_value) hds_L_value ⟨(Nat.le_of_ble_eq_true rfl), (Nat.le_of_ble_eq_true rfl)⟩ hG rfl (Nat.le_of_ble_eq_true rfl) ⟨(by show c0 + 1 ≤ 661124; omega), (by show s0 + 6 ≤ 7118252; omega)⟩ dL_law_887 hS hAr (fun H locs hG hz hq hS => ?_)
  have hG : St D r P Q n H := hG
  clear hz hq
  refine lv_istore (lv' := [(9, .int (P 4)), (0, .ref b), (1, .ref r), (2, .int (nI i)), (4, .int y)]) hx hb dL_law_890 hl (by decide) rfl (fun ls hl => ?_)
  refine lv_aload_n hx hb dL_law_892 rfl (lv_at hl 2 rfl) ?_
  refine lv_iload hx hb dL_law_893 (lv_at hl 4 rfl) ?_
  refine lv_bipush (v := 51) hx hb dL_law_895 (by decide) ?_
  refine topN (n := 51) rfl ?_
  obtain ⟨s9, ezs9, hs91⟩ : ∃ z, lowN y 51 = z ∧ z < 51 := ⟨_, rfl, lowN_lt (by decide)⟩
  refine gcSi (As := [.int y, .int (nI 51)]) (rest := [.ref r]) hx hb hml hown hts hl.1 hK (c_L_low l D (fun H => St D r P Q n H) y 51 (by decide) (by decide)) (gaS qM_L_121 qT_L_low qK_L qC_L_low) hds_L_low ⟨(Nat.le_of_ble_eq_true rfl), (Nat.le_of_ble_eq_true rfl)⟩ hG rfl (Nat.le_of_ble_eq_true rfl) ⟨(by show c0 + 1 ≤ 661124; omega), (by show s0 + 6 ≤ 7118252; omega)⟩ dL_law_897 hS (fun _ h => False.elim h) (fun H locs hG _ hq hS => ?_)
  have hG : St D r P Q n H := hG
  refine topN (n := s9) (by rw [ezs9]) ?_
  obtain ⟨iv1, iv2, iv3⟩ := Iv_spread (a := s9) hI (by omega)
  refine lwS (As := [.ref r, .int (nI s9)]) (rest := []) hx hb hml hown hts hl.1 hK hKx (fun _ h => h) (c_L_setSpread l hl0 D r P Q n (upd P 4 (nI s9)) (svQ Q n P) (svN n + 1) (P 4) (nI s9) (fun C G hd => E_setSpread (by omega) hd)) (gHS qM_L_143 qT_L_setSpread qK_L qC_L_setSpread) hds_L_setSpread ⟨(Nat.le_of_ble_eq_true rfl), (Nat.le_of_ble_eq_true rfl)⟩ hG rfl (Nat.le_of_ble_eq_true rfl) ⟨(by show c0 + 1 + 1 ≤ 661124; omega), (by show s0 + 6 + 6 ≤ 7118252; omega)⟩ dL_law_900 hS hAr (fun H locs hG hz hq hS => ?_)
  have hG : St D r (upd P 4 (nI s9)) (svQ Q n P) (svN n + 1) H := hG
  clear hz hq
  refine lv_iload hx hb dL_law_903 (lv_at hl 0 rfl) ?_
  refine lv_icmp_ne (tgt := 923) hx hb dL_law_905 (by decide) (fun c905 => ?_) (fun c905 => ?_)
  · exact absurd rfl c905
  · refine lv_aload_n hx hb dL_law_908 rfl (lv_at hl 2 rfl) ?_
    refine lv_iconst (v := 4) hx hb dL_law_909 (by decide) ?_
    refine lwS (As := [.ref r, .int 4]) (rest := []) hx hb hml hown hts hl.1 hK hKx (fun _ h => h) (c_L_value l hl0 D r (upd P 4 (nI s9)) (svQ Q n P) (svN n + 1) ((upd P 4 (nI s9)) 4) 4 (fun C h => (R_value (k := 4) h rfl (by decide)).trans rfl)) (gHS qM_L_88 qT_L_value qK_L qC_L_value) hds_L_value ⟨(Nat.le_of_ble_eq_true rfl), (Nat.le_of_ble_eq_true rfl)⟩ hG rfl (Nat.le_of_ble_eq_true rfl) ⟨(by show c0 + 1 + 1 + 1 ≤ 661124; omega), (by show s0 + 6 + 6 + 6 ≤ 7118252; omega)⟩ dL_law_910 hS hAr (fun H locs hG hz hq hS => ?_)
    have hG : St D r (upd P 4 (nI s9)) (svQ Q n P) (svN n + 1) H := hG
    clear hz hq
    refine topN (n := s9) upd_s ?_
    refine lv_iload hx hb dL_law_913 (lv_at hl 4 rfl) ?_
    refine lv_bipush (v := 51) hx hb dL_law_915 (by decide) ?_
    refine topN (n := 51) rfl ?_
    refine gcSi (As := [.int y, .int (nI 51)]) (rest := [.int (nI s9)]) hx hb hml hown hts hl.1 hK (c_L_low l D (fun H => St D r (upd P 4 (nI s9)) (svQ Q n P) (svN n + 1) H) y 51 (by decide) (by decide)) (gaS qM_L_121 qT_L_low qK_L qC_L_low) hds_L_low ⟨(Nat.le_of_ble_eq_true rfl), (Nat.le_of_ble_eq_true rfl)⟩ hG rfl (Nat.le_of_ble_eq_true rfl) ⟨(by show c0 + 1 + 1 + 1 ≤ 661124; omega), (by show s0 + 6 + 6 + 6 ≤ 7118252; omega)⟩ dL_law_917 hS (fun _ h => False.elim h) (fun H locs hG _ hq hS => ?_)
    have hG : St D r (upd P 4 (nI s9)) (svQ Q n P) (svN n + 1) H := hG
    refine topN (n := s9) (by rw [ezs9]) ?_
    refine lv_icmp_eq (tgt := 925) hx hb dL_law_920 (by decide) (fun c920 => ?_) (fun c920 => ?_)
    · have c920 : s9 = s9 := (nI_eq (a := s9) (b := s9) (by omega) (by omega)).mp c920
      refine lv_goto (tgt := 1058) hx hb dL_law_925 (by decide) ?_
      refine W.widen (k := c0 + 360) (n := s0 + 2160) (by omega) (by omega) ?_
      exact kk (upd P 4 (nI s9)) (svQ Q n P) (svN n + 1) _ _ _ _ iv1 (by omega) hG hS (lv_sub hl [1, 2, 3, 4] rfl)
    · have c920 : ¬ s9 = s9 := fun hh9 => c920 ((nI_eq (a := s9) (b := s9) (by omega) (by omega)).mpr hh9)
      exact absurd c920 (by omega)

set_option maxHeartbeats 4000000 in
set_option maxRecDepth 100000 in
theorem law_c7 {p : Program} {l : Launch} {e : Env} {s : State} {m : MethodId} {args : Array Value} {below : List Frame} {meth : Method} {c : Code} {Qz : State → Prop} {D : va_G} {b L r : Nat} {xs : Nat → Int32} {P : Nat → Int32} {Q : Nat → Nat → Int32} {n h i : Nat} {y : Int32} {c0 s0 : Nat} (hl0 : l.stackTraces = false) (hx : p.tables.exec = Jvm.exec) (hb : c.code = cL_law) (hml : c.maxLocals = 15) (hown : s.vm.findClass RL = some m.cls) (hts : ∀ w ∈ AW, w.before args s = true) (hK : Kn D s) (hKx : Kx r s) (hX : va_X b L xs s s.heap) (hbl : b < r) (hsz0 : s.heap.size = r) (hL0 : L ≤ 260) (hI : Iv h P) (hc0 : c0 ≤ 600000) (hs0 : s0 ≤ 7000000) (h1s : 1 ≤ ns P) (kk : ∀ (P1 : Nat → Int32) (Q1 : Nat → Nat → Int32) (n1 h1 : Nat) (H : Heap) (locs : List Loc) (ls : Array Slot), Iv h1 P1 → 1 ≤ ns P1 → St D r P1 Q1 n1 H → va_S (fun q => r ≤ q) s.heap H locs → lv_has ls 15 [(0, .ref b), (1, .ref r), (2, .int (nI i)), (4, .int y)] → W p l e room_1 s m args below meth c H locs (c0 + 360) (s0 + 2160) Qz (F0 m 1058 ls [])) (H : Heap) (locs : List Loc) (ls : Array Slot) (hG : St D r P Q n H) (hS : va_S (fun q => r ≤ q) s.heap H locs) (hl : lv_has ls 15 [(0, .ref b), (1, .ref r), (2, .int (nI i)), (4, .int y)]) : W p l e room_1 s m args below meth c H locs (c0) (s0) Qz (F0 m 935 ls []) := by
  have hAr : ∀ q, inS r q → r ≤ q := fun q h => h.1
  obtain ⟨z0, z00, z1, z2, hN1, hN2, z5, z7, ⟨S9, S91, z3⟩, k9, k91, z6⟩ := snd_rest hI
  refine lv_aload_n hx hb dL_law_935 rfl (lv_at hl 1 rfl) ?_
  refine lv_iconst (v := 3) hx hb dL_law_936 (by decide) ?_
  refine lwS (As := [.ref r, .int 3]) (rest := []) hx hb hml hown hts hl.1 hK hKx (fun _ h => h) (c_L_value l hl0 D r P Q n (P 3) 3 (fun C h => (R_value (k := 3) h rfl (by decide)).trans rfl)) (gHS qM_L_88 qT_L_value qK_L qC_L_value) hds_L_value ⟨(Nat.le_of_ble_eq_true rfl), (Nat.le_of_ble_eq_true rfl)⟩ hG rfl (Nat.le_of_ble_eq_true rfl) ⟨(by show c0 + 1 ≤ 661124; omega), (by show s0 + 6 ≤ 7118252; omega)⟩ dL_law_937 hS hAr (fun H locs hG hz hq hS => ?_)
  have hG : St D r P Q n H := hG
  clear hz hq
  refine topN (n := S9) z3 ?_
  refine lv_istore (lv' := [(9, .int (nI S9)), (0, .ref b), (1, .ref r), (2, .int (nI i)), (4, .int y)]) hx hb dL_law_940 hl (by decide) rfl (fun ls hl => ?_)
  refine lv_iload hx hb dL_law_942 (lv_at hl 4 rfl) ?_
  refine lv_sipush (v := 2000) hx hb dL_law_944 (by decide) ?_
  refine topN (n := 2000) rfl ?_
  obtain ⟨m9, ezm9, hm91⟩ : ∃ z, lowN y 2000 = z ∧ z < 2000 := ⟨_, rfl, lowN_lt (by decide)⟩
  obtain ⟨dv1, dv2⟩ := dv_le (k := m9) z3 S91 (by omega)
  refine gcSi (As := [.int y, .int (nI 2000)]) (rest := []) hx hb hml hown hts hl.1 hK (c_L_low l D (fun H => St D r P Q n H) y 2000 (by decide) (by decide)) (gaS qM_L_121 qT_L_low qK_L qC_L_low) hds_L_low ⟨(Nat.le_of_ble_eq_true rfl), (Nat.le_of_ble_eq_true rfl)⟩ hG rfl (Nat.le_of_ble_eq_true rfl) ⟨(by show c0 + 1 ≤ 661124; omega), (by show s0 + 6 ≤ 7118252; omega)⟩ dL_law_947 hS (fun _ h => False.elim h) (fun H locs hG _ hq hS => ?_)
  have hG : St D r P Q n H := hG
  refine topN (n := m9) (by rw [ezm9]) ?_
  refine lv_istore (lv' := [(10, .int (nI m9)), (9, .int (nI S9)), (0, .ref b), (1, .ref r), (2, .int (nI i)), (4, .int y)]) hx hb dL_law_950 hl (by decide) rfl (fun ls hl => ?_)
  refine lv_aload_n hx hb dL_law_952 rfl (lv_at hl 3 rfl) ?_
  refine lv_iload hx hb dL_law_953 (lv_at hl 0 rfl) ?_
  rcases Nat.lt_or_ge 100000 (S9 + m9) with hc | hc
  · refine lwS (As := [.ref r, .int (nI m9)]) (rest := []) hx hb hml hown hts hl.1 hK hKx (fun _ h => h) (c_L_deliver l hl0 D r P Q n P Q n (-90200) (nI m9) (fun C G hd => E_deliver_f (by omega) (fun h9 => absurd (dv2.mp h9) (by omega)) hd)) (gHS qM_L_145 qT_L_deliver qK_L qC_L_deliver) hds_L_deliver ⟨(Nat.le_of_ble_eq_true rfl), (Nat.le_of_ble_eq_true rfl)⟩ hG rfl (Nat.le_of_ble_eq_true rfl) ⟨(by show c0 + 1 + 2 ≤ 661124; omega), (by show s0 + 6 + 12 ≤ 7118252; omega)⟩ dL_law_955 hS hAr (fun H locs hG hz hq hS => ?_)
    have hG : St D r P Q n H := hG
    clear hz hq
    refine lv_iload hx hb dL_law_958 (lv_at hl 1 rfl) ?_
    refine lv_iload hx hb dL_law_960 (lv_at hl 0 rfl) ?_
    refine iaddN (a := S9) (b := m9) hx hb dL_law_962 ?_
    refine lv_ldc hx hb hown (hts _ qV_L_108) dL_law_963 ?_
    refine lv_icmp_le (tgt := 973) hx hb dL_law_965 (by decide) (fun c965 => ?_) (fun c965 => ?_)
    · have c965 : S9 + m9 ≤ 100000 := (nI_leI (a := S9 + m9) (b := 100000) (by omega) (by omega)).mp c965
      exact absurd c965 (by omega)
    · have c965 : ¬ S9 + m9 ≤ 100000 := fun hh9 => c965 ((nI_leI (a := S9 + m9) (b := 100000) (by omega) (by omega)).mpr hh9)
      refine lv_ldc hx hb hown (hts _ qV_L_20) dL_law_968 ?_
      refine lv_goto (tgt := 978) hx hb dL_law_970 (by decide) ?_
      refine lv_icmp_eq (tgt := 983) hx hb dL_law_978 (by decide) (fun c978 => ?_) (fun c978 => ?_)
      · refine lv_goto (tgt := 1058) hx hb dL_law_983 (by decide) ?_
        refine W.widen (k := c0 + 360) (n := s0 + 2160) (by omega) (by omega) ?_
        exact kk P Q n _ _ _ _ hI (by omega) hG hS (lv_sub hl [2, 3, 4, 5] rfl)
      · exact absurd c978 (by decide)
  · obtain ⟨iv1, iv2, iv3⟩ := Iv_deliver (k := m9) hI (by omega) (dv2.mpr hc)
    refine lwS (As := [.ref r, .int (nI m9)]) (rest := []) hx hb hml hown hts hl.1 hK hKx (fun _ h => h) (c_L_deliver l hl0 D r P Q n (sP_deliver P m9) (svQ Q n P) (svN n + 1) (P 3 + nI m9) (nI m9) (fun C G hd => E_deliver (by omega) (dv2.mpr hc) hd)) (gHS qM_L_145 qT_L_deliver qK_L qC_L_deliver) hds_L_deliver ⟨(Nat.le_of_ble_eq_true rfl), (Nat.le_of_ble_eq_true rfl)⟩ hG rfl (Nat.le_of_ble_eq_true rfl) ⟨(by show c0 + 1 + 2 ≤ 661124; omega), (by show s0 + 6 + 12 ≤ 7118252; omega)⟩ dL_law_955 hS hAr (fun H locs hG hz hq hS => ?_)
    have hG : St D r (sP_deliver P m9) (svQ Q n P) (svN n + 1) H := hG
    clear hz hq
    refine topN (n := S9 + m9) dv1 ?_
    refine lv_iload hx hb dL_law_958 (lv_at hl 1 rfl) ?_
    refine lv_iload hx hb dL_law_960 (lv_at hl 0 rfl) ?_
    refine iaddN (a := S9) (b := m9) hx hb dL_law_962 ?_
    refine lv_ldc hx hb hown (hts _ qV_L_108) dL_law_963 ?_
    refine lv_icmp_le (tgt := 973) hx hb dL_law_965 (by decide) (fun c965 => ?_) (fun c965 => ?_)
    · have c965 : S9 + m9 ≤ 100000 := (nI_leI (a := S9 + m9) (b := 100000) (by omega) (by omega)).mp c965
      refine lv_iload hx hb dL_law_973 (lv_at hl 1 rfl) ?_
      refine lv_iload hx hb dL_law_975 (lv_at hl 0 rfl) ?_
      refine iaddN (a := S9) (b := m9) hx hb dL_law_977 ?_
      refine lv_icmp_eq (tgt := 983) hx hb dL_law_978 (by decide) (fun c978 => ?_) (fun c978 => ?_)
      · have c978 : S9 + m9 = S9 + m9 := (nI_eq (a := S9 + m9) (b := S9 + m9) (by omega) (by omega)).mp c978
        refine lv_goto (tgt := 1058) hx hb dL_law_983 (by decide) ?_
        refine W.widen (k := c0 + 360) (n := s0 + 2160) (by omega) (by omega) ?_
        exact kk (sP_deliver P m9) (svQ Q n P) (svN n + 1) _ _ _ _ iv1 (by omega) hG hS (lv_sub hl [2, 3, 4, 5] rfl)
      · have c978 : ¬ S9 + m9 = S9 + m9 := fun hh9 => c978 ((nI_eq (a := S9 + m9) (b := S9 + m9) (by omega) (by omega)).mpr hh9)
        exact absurd c978 (by omega)
    · have c965 : ¬ S9 + m9 ≤ 100000 := fun hh9 => c965 ((nI_leI (a := S9 + m9) (b := 100000) (by omega) (by omega)).mpr hh9)
      exact absurd c965 (by omega)

set_option maxHeartbeats 4000000 in
set_option maxRecDepth 100000 in
theorem law_c8 {p : Program} {l : Launch} {e : Env} {s : State} {m : MethodId} {args : Array Value} {below : List Frame} {meth : Method} {c : Code} {Qz : State → Prop} {D : va_G} {b L r : Nat} {xs : Nat → Int32} {P : Nat → Int32} {Q : Nat → Nat → Int32} {n h i : Nat} {y : Int32} {c0 s0 : Nat} (hl0 : l.stackTraces = false) (hx : p.tables.exec = Jvm.exec) (hb : c.code = cL_law) (hml : c.maxLocals = 15) (hown : s.vm.findClass RL = some m.cls) (hts : ∀ w ∈ AW, w.before args s = true) (hK : Kn D s) (hKx : Kx r s) (hX : va_X b L xs s s.heap) (hbl : b < r) (hsz0 : s.heap.size = r) (hL0 : L ≤ 260) (hI : Iv h P) (hc0 : c0 ≤ 600000) (hs0 : s0 ≤ 7000000) (h1s : 1 ≤ ns P) (kk : ∀ (P1 : Nat → Int32) (Q1 : Nat → Nat → Int32) (n1 h1 : Nat) (H : Heap) (locs : List Loc) (ls : Array Slot), Iv h1 P1 → 1 ≤ ns P1 → St D r P1 Q1 n1 H → va_S (fun q => r ≤ q) s.heap H locs → lv_has ls 15 [(0, .ref b), (1, .ref r), (2, .int (nI i)), (4, .int y)] → W p l e room_1 s m args below meth c H locs (c0 + 360) (s0 + 2160) Qz (F0 m 1058 ls [])) (H : Heap) (locs : List Loc) (ls : Array Slot) (hG : St D r P Q n H) (hS : va_S (fun q => r ≤ q) s.heap H locs) (hl : lv_has ls 15 [(0, .ref b), (1, .ref r), (2, .int (nI i)), (4, .int y)]) : W p l e room_1 s m args below meth c H locs (c0) (s0) Qz (F0 m 986 ls []) := by
  have hAr : ∀ q, inS r q → r ≤ q := fun q h => h.1
  obtain ⟨z0, z00, z1, z2, hN1, hN2, z5, z7, ⟨S9, S91, z3⟩, k9, k91, z6⟩ := snd_rest hI
  refine lv_aload_n hx hb dL_law_986 rfl (lv_at hl 1 rfl) ?_
  refine lv_iload hx hb dL_law_987 (lv_at hl 3 rfl) ?_
  refine lv_bipush (v := 121) hx hb dL_law_989 (by decide) ?_
  refine topN (n := 121) rfl ?_
  obtain ⟨ta, ezta, hta1⟩ : ∃ z, lowN y 121 = z ∧ z < 121 := ⟨_, rfl, lowN_lt (by decide)⟩
  refine gcSi (As := [.int y, .int (nI 121)]) (rest := [.ref r]) hx hb hml hown hts hl.1 hK (c_L_low l D (fun H => St D r P Q n H) y 121 (by decide) (by decide)) (gaS qM_L_121 qT_L_low qK_L qC_L_low) hds_L_low ⟨(Nat.le_of_ble_eq_true rfl), (Nat.le_of_ble_eq_true rfl)⟩ hG rfl (Nat.le_of_ble_eq_true rfl) ⟨(by show c0 ≤ 661124; omega), (by show s0 ≤ 7118252; omega)⟩ dL_law_991 hS (fun _ h => False.elim h) (fun H locs hG _ hq hS => ?_)
  have hG : St D r P Q n H := hG
  refine topN (n := ta) (by rw [ezta]) ?_
  refine lv_bipush (v := 60) hx hb dL_law_994 (by decide) ?_
  refine lv_isub hx hb dL_law_996 ?_
  refine lv_topi (fun T9 eT9 => ?_)
  refine lv_iload hx hb dL_law_997 (lv_at hl 3 rfl) ?_
  refine lv_bipush (v := 8) hx hb dL_law_999 (by decide) ?_
  refine lv_ishr hx hb dL_law_1001 ?_
  refine lv_topi (fun ya eya => ?_)
  refine lv_iconst (v := 2) hx hb dL_law_1002 (by decide) ?_
  refine topN (n := 2) rfl ?_
  obtain ⟨za, ezza, hza1⟩ : ∃ z, lowN ya 2 = z ∧ z < 2 := ⟨_, rfl, lowN_lt (by decide)⟩
  refine gcSi (As := [.int ya, .int (nI 2)]) (rest := [.int T9, .ref r]) hx hb hml hown hts hl.1 hK (c_L_low l D (fun H => St D r P Q n H) ya 2 (by decide) (by decide)) (gaS qM_L_121 qT_L_low qK_L qC_L_low) hds_L_low ⟨(Nat.le_of_ble_eq_true rfl), (Nat.le_of_ble_eq_true rfl)⟩ hG rfl (Nat.le_of_ble_eq_true rfl) ⟨(by show c0 ≤ 661124; omega), (by show s0 ≤ 7118252; omega)⟩ dL_law_1003 hS (fun _ h => False.elim h) (fun H locs hG _ hq hS => ?_)
  have hG : St D r P Q n H := hG
  refine topN (n := za) (by rw [ezza]) ?_
  have K1023 : ∀ (sn : Nat) (H : Heap) (locs : List Loc) (ls : Array Slot) (hsn : sn < 30) (hG : St D r P Q n H) (hS : va_S (fun q => r ≤ q) s.heap H locs) (hl : lv_has ls 15 [(0, .ref b), (1, .ref r), (2, .int (nI i)), (4, .int y)]), W p l e room_1 s m args below meth c H locs (c0) (s0) (Qz) (F0 m 1023 ls [.int (nI sn), .int T9, .ref r]) := by
    intro sn H locs ls hsn hG hS hl
    refine lv_iload hx hb dL_law_1023 (lv_at hl 3 rfl) ?_
    refine lv_bipush (v := 14) hx hb dL_law_1025 (by decide) ?_
    refine lv_ishr hx hb dL_law_1027 ?_
    refine lv_topi (fun yd eyd => ?_)
    refine lv_iload hx hb dL_law_1028 (lv_at hl 3 rfl) ?_
    refine lv_bipush (v := 20) hx hb dL_law_1030 (by decide) ?_
    refine lv_ishr hx hb dL_law_1032 ?_
    refine lv_topi (fun ye eye => ?_)
    refine lv_iconst (v := 4) hx hb dL_law_1033 (by decide) ?_
    refine topN (n := 4) rfl ?_
    obtain ⟨zb, ezzb, hzb1⟩ : ∃ z, lowN ye 4 = z ∧ z < 4 := ⟨_, rfl, lowN_lt (by decide)⟩
    refine gcSi (As := [.int ye, .int (nI 4)]) (rest := [.int yd, .int (nI sn), .int T9, .ref r]) hx hb hml hown hts hl.1 hK (c_L_low l D (fun H => St D r P Q n H) ye 4 (by decide) (by decide)) (gaS qM_L_121 qT_L_low qK_L qC_L_low) hds_L_low ⟨(Nat.le_of_ble_eq_true rfl), (Nat.le_of_ble_eq_true rfl)⟩ hG rfl (Nat.le_of_ble_eq_true rfl) ⟨(by show c0 ≤ 661124; omega), (by show s0 ≤ 7118252; omega)⟩ dL_law_1034 hS (fun _ h => False.elim h) (fun H locs hG _ hq hS => ?_)
    have hG : St D r P Q n H := hG
    refine topN (n := zb) (by rw [ezzb]) ?_
    have K1047 : ∀ (N9 : Nat) (H : Heap) (locs : List Loc) (ls : Array Slot) (hN9 : N9 = 50 ∨ N9 = 6) (hG : St D r P Q n H) (hS : va_S (fun q => r ≤ q) s.heap H locs) (hl : lv_has ls 15 [(0, .ref b), (1, .ref r), (2, .int (nI i)), (4, .int y)]), W p l e room_1 s m args below meth c H locs (c0) (s0) (Qz) (F0 m 1047 ls [.int (nI N9), .int yd, .int (nI sn), .int T9, .ref r]) := by
      intro N9 H locs ls hN9 hG hS hl
      obtain ⟨u9, ezu9, hu91⟩ : ∃ z, lowN yd N9 = z ∧ z < N9 := ⟨_, rfl, lowN_lt (by omega)⟩
      refine gcSi (As := [.int yd, .int (nI N9)]) (rest := [.int (nI sn), .int T9, .ref r]) hx hb hml hown hts hl.1 hK (c_L_low l D (fun H => St D r P Q n H) yd N9 (by omega) (by omega)) (gaS qM_L_121 qT_L_low qK_L qC_L_low) hds_L_low ⟨(Nat.le_of_ble_eq_true rfl), (Nat.le_of_ble_eq_true rfl)⟩ hG rfl (Nat.le_of_ble_eq_true rfl) ⟨(by show c0 ≤ 661124; omega), (by show s0 ≤ 7118252; omega)⟩ dL_law_1047 hS (fun _ h => False.elim h) (fun H locs hG _ hq hS => ?_)
      have hG : St D r P Q n H := hG
      refine topN (n := u9) (by rw [ezu9]) ?_
      have hw : ¬ fR_X7_isWeather T9 (nI sn) = 0 := wth_ok (by rw [eT9]; exact T60_in ⟨ta, hta1⟩) (by omega)
      refine lwM (As := [.ref r, .int T9, .int (nI sn), .int (nI u9)]) (rest := []) (mc := 320) (ms := 2000) hx hb hml hown hts hl.1 hK hKx (fun _ h => h) (c_L_passes l hl0 D r P Q n h u9 T9 (nI sn) hI hw (by omega)) (gaS qM_L_164 qT_L_passes qK_L qC_L_passes) hds_L_passes ⟨(Nat.le_of_ble_eq_true rfl), (Nat.le_of_ble_eq_true rfl)⟩ hG rfl (Nat.le_of_ble_eq_true rfl) ⟨(by show c0 + 320 ≤ 661124; omega), (by show s0 + 2000 ≤ 7118252; omega)⟩ dL_law_1050 hS (fun _ h => h) (fun H locs hG hz hq hS => ?_)
      obtain ⟨P9, Q9, n9, h9, hG, hI9, hn9, hp9⟩ := hG
      refine lv_if_ne (tgt := 1058) hx hb dL_law_1053 (by decide) (fun c1053 => ?_) (fun c1053 => ?_)
      · refine W.widen (k := c0 + 360) (n := s0 + 2160) (by omega) (by omega) ?_
        exact kk P9 Q9 n9 _ _ _ _ hI9 (by omega) hG hS (lv_sub hl [0, 1, 2, 3] rfl)
      · exact absurd c1053 (by decide)
    refine lv_if_ne (tgt := 1045) hx hb dL_law_1037 (by decide) (fun c1037 => ?_) (fun c1037 => ?_)
    · have c1037 : ¬ zb = 0 := fun hh9 => c1037 ((nI_eq (a := zb) (b := 0) (by omega) (by omega)).mpr hh9)
      refine lv_bipush (v := 6) hx hb dL_law_1045 (by decide) ?_
      refine topN (n := 6) rfl ?_
      exact K1047 6 _ _ _ (by first | assumption | omega) hG hS (lv_sub hl [0, 1, 2, 3] rfl)
    · have c1037 : zb = 0 := (nI_eq (a := zb) (b := 0) (by omega) (by omega)).mp c1037
      refine lv_bipush (v := 50) hx hb dL_law_1040 (by decide) ?_
      refine topN (n := 50) rfl ?_
      refine lv_goto (tgt := 1047) hx hb dL_law_1042 (by decide) ?_
      exact K1047 50 _ _ _ (by first | assumption | omega) hG hS (lv_sub hl [0, 1, 2, 3] rfl)
  refine lv_if_ne (tgt := 1013) hx hb dL_law_1006 (by decide) (fun c1006 => ?_) (fun c1006 => ?_)
  · have c1006 : ¬ za = 0 := fun hh9 => c1006 ((nI_eq (a := za) (b := 0) (by omega) (by omega)).mpr hh9)
    refine lv_iload hx hb dL_law_1013 (lv_at hl 3 rfl) ?_
    refine lv_bipush (v := 9) hx hb dL_law_1015 (by decide) ?_
    refine lv_ishr hx hb dL_law_1017 ?_
    refine lv_topi (fun yb eyb => ?_)
    refine lv_bipush (v := 30) hx hb dL_law_1018 (by decide) ?_
    refine topN (n := 30) rfl ?_
    obtain ⟨sa, ezsa, hsa1⟩ : ∃ z, lowN yb 30 = z ∧ z < 30 := ⟨_, rfl, lowN_lt (by decide)⟩
    refine gcSi (As := [.int yb, .int (nI 30)]) (rest := [.int T9, .ref r]) hx hb hml hown hts hl.1 hK (c_L_low l D (fun H => St D r P Q n H) yb 30 (by decide) (by decide)) (gaS qM_L_121 qT_L_low qK_L qC_L_low) hds_L_low ⟨(Nat.le_of_ble_eq_true rfl), (Nat.le_of_ble_eq_true rfl)⟩ hG rfl (Nat.le_of_ble_eq_true rfl) ⟨(by show c0 ≤ 661124; omega), (by show s0 ≤ 7118252; omega)⟩ dL_law_1020 hS (fun _ h => False.elim h) (fun H locs hG _ hq hS => ?_)
    have hG : St D r P Q n H := hG
    refine topN (n := sa) (by rw [ezsa]) ?_
    exact K1023 sa _ _ _ (by first | assumption | omega) hG hS (lv_sub hl [0, 1, 2, 3] rfl)
  · have c1006 : za = 0 := (nI_eq (a := za) (b := 0) (by omega) (by omega)).mp c1006
    refine lv_iconst (v := 0) hx hb dL_law_1009 (by decide) ?_
    refine topN (n := 0) rfl ?_
    refine lv_goto (tgt := 1023) hx hb dL_law_1010 (by decide) ?_
    exact K1023 0 _ _ _ (by first | assumption | omega) hG hS (lv_sub hl [0, 1, 2, 3] rfl)
