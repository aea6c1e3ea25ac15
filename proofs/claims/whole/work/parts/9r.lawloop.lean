/-! The law: its switch and its loop. -/
theorem and31 (x : Int32) : ∃ k, k < 32 ∧ x &&& 31 = nI k := by
  refine ⟨(x &&& 31).toBitVec.toNat, ?_, ?_⟩
  · rw [Int32.toBitVec_and, BitVec.toNat_and]
    have h : (31 : Int32).toBitVec.toNat = 31 := by decide
    rw [h]
    exact Nat.lt_of_le_of_lt Nat.and_le_right (by decide)
  · apply Int32.toBitVec_inj.mp
    show _ = (Int32.ofNat _).toBitVec
    simp
theorem sub5 {L i : Nat} (hL : L ≤ 2560) (hi : i ≤ 5000) (h : ¬ Int32.ofNat L - 5 < nI i) : i + 5 ≤ L := by
  rw [Int32.lt_iff_toInt_lt, Int32.toInt_sub, nI_toInt (by omega)] at h
  have e1 : (Int32.ofNat L).toInt = L := nI_toInt (n := L) (by omega)
  have e2 : (5 : Int32).toInt = 5 := by decide
  rw [e1, e2, Int.bmod_eq_of_le (by omega) (by omega)] at h
  omega
theorem law_step {p : Program} {l : Launch} {e : Env} {s : State} {m : MethodId} {args : Array Value} {below : List Frame} {meth : Method} {c : Code} {H : Heap} {locs : List Loc} {cells slots : Nat} {Q : State → Prop} {ls : Array Slot} {D : va_G} {b L r i : Nat} {xs : Nat → Int32} (hl0 : l.stackTraces = false) (hx : p.tables.exec = Jvm.exec) (hb : c.code = cL_law) (hml : c.maxLocals = 9) (hown : s.vm.findClass RL = some m.cls) (hts : ∀ w ∈ AW, w.before args s = true) (hK : Kn D s) (hKx : Kx r s) (hX : va_X b L xs s s.heap) (hbl : b < r) (hsz : s.heap.size = r) (hL : L ≤ 2560) (hi : i + 5 ≤ L) (hc1 : cells + 4 ≤ 601024) (hc2 : slots + 24 ≤ 7293034) (hS : va_S (fun q => r ≤ q) s.heap H locs) (hl : lv_has ls 9 [(0, .ref b), (1, .ref r), (2, .ref (r + 206)), (3, .ref (r + 211)), (4, .int (nI i))]) (hI : LI D r H)
    (kk : ∀ (H1 : Heap) (locs1 : List Loc) (ls1 : Array Slot) (k1 k2 : Nat), k1 ≤ 4 → k2 ≤ 24 → LI D r H1 → va_S (fun q => r ≤ q) s.heap H1 locs1 → lv_has ls1 9 [(0, .ref b), (1, .ref r), (2, .ref (r + 206)), (3, .ref (r + 211)), (4, .int (nI i))] → W p l e room_1 s m args below meth c H1 locs1 (cells + k1) (slots + k2) Q (F0 m 1632 ls1 [])) : W p l e room_1 s m args below meth c H locs cells slots Q (F0 m 32 ls []) := by
  refine lv_aload_n hx hb dL_law_32 rfl (lv_at hl 0 rfl) ?_
  refine lv_iload hx hb dL_law_33 (lv_at hl 4 rfl) ?_
  refine lwX (i := i) hx hb hX hbl hsz hS (by omega) (by omega) dL_law_35 ?_
  refine lv_bipush (v := 31) hx hb dL_law_36 rfl ?_
  refine lv_iand hx hb dL_law_38 ?_
  obtain ⟨k, hk, ek⟩ := and31 (xs i)
  refine topE ek ?_
  by_cases h24 : 23 < k
  · refine lv_tableOut (tgt := 1632) hx hb dL_law_39 (Or.inr (by rw [nI_toInt (by omega)]; omega)) (by decide) ?_
    exact kk H locs ls 0 0 (by omega) (by omega) hI hS hl
  rcases (show k = 0 ∨ k = 1 ∨ k = 2 ∨ k = 3 ∨ k = 4 ∨ k = 5 ∨ k = 6 ∨ k = 7 ∨ k = 8 ∨ k = 9 ∨ k = 10 ∨ k = 11 ∨ k = 12 ∨ k = 13 ∨ k = 14 ∨ k = 15 ∨ k = 16 ∨ k = 17 ∨ k = 18 ∨ k = 19 ∨ k = 20 ∨ k = 21 ∨ k = 22 ∨ k = 23 by omega) with rfl | rfl | rfl | rfl | rfl | rfl | rfl | rfl | rfl | rfl | rfl | rfl | rfl | rfl | rfl | rfl | rfl | rfl | rfl | rfl | rfl | rfl | rfl | rfl
  · refine lv_tableIn (off := 109) (tgt := 148) hx hb dL_law_39 (by decide) (by decide) rfl (by decide) ?_
    exact law_addStreet hl0 hx hb hml hown hts hK hKx hX hbl hsz hL hi hc1 hc2 hS hl hI kk
  · refine lv_tableIn (off := 177) (tgt := 216) hx hb dL_law_39 (by decide) (by decide) rfl (by decide) ?_
    exact law_addPlow hl0 hx hb hml hown hts hK hKx hX hbl hsz hL hi hc1 hc2 hS hl hI kk
  · refine lv_tableIn (off := 245) (tgt := 284) hx hb dL_law_39 (by decide) (by decide) rfl (by decide) ?_
    exact law_addStop hl0 hx hb hml hown hts hK hKx hX hbl hsz hL hi hc1 hc2 hS hl hI kk
  · refine lv_tableIn (off := 313) (tgt := 352) hx hb dL_law_39 (by decide) (by decide) rfl (by decide) ?_
    exact law_clearRoute hl0 hx hb hml hown hts hK hKx hX hbl hsz hL hi hc1 hc2 hS hl hI kk
  · refine lv_tableIn (off := 369) (tgt := 408) hx hb dL_law_39 (by decide) (by decide) rfl (by decide) ?_
    exact law_exchange hl0 hx hb hml hown hts hK hKx hX hbl hsz hL hi hc1 hc2 hS hl hI kk
  · refine lv_tableIn (off := 437) (tgt := 476) hx hb dL_law_39 (by decide) (by decide) rfl (by decide) ?_
    exact law_setTerms hl0 hx hb hml hown hts hK hKx hX hbl hsz hL hi hc1 hc2 hS hl hI kk
  · refine lv_tableIn (off := 529) (tgt := 568) hx hb dL_law_39 (by decide) (by decide) rfl (by decide) ?_
    exact law_setSpread hl0 hx hb hml hown hts hK hKx hX hbl hsz hL hi hc1 hc2 hS hl hI kk
  · refine lv_tableIn (off := 585) (tgt := 624) hx hb dL_law_39 (by decide) (by decide) rfl (by decide) ?_
    exact law_deliver hl0 hx hb hml hown hts hK hKx hX hbl hsz hL hi hc1 hc2 hS hl hI kk
  · refine lv_tableIn (off := 641) (tgt := 680) hx hb dL_law_39 (by decide) (by decide) rfl (by decide) ?_
    exact law_run hl0 hx hb hml hown hts hK hKx hX hbl hsz hL hi hc1 hc2 hS hl hI kk
  · refine lv_tableIn (off := 721) (tgt := 760) hx hb dL_law_39 (by decide) (by decide) rfl (by decide) ?_
    exact law_value hl0 hx hb hml hown hts hK hKx hX hbl hsz hL hi hc1 hc2 hS hl hI kk
  · refine lv_tableIn (off := 777) (tgt := 816) hx hb dL_law_39 (by decide) (by decide) rfl (by decide) ?_
    exact law_street hl0 hx hb hml hown hts hK hKx hX hbl hsz hL hi hc1 hc2 hS hl hI kk
  · refine lv_tableIn (off := 845) (tgt := 884) hx hb dL_law_39 (by decide) (by decide) rfl (by decide) ?_
    exact law_plow hl0 hx hb hml hown hts hK hKx hX hbl hsz hL hi hc1 hc2 hS hl hI kk
  · refine lv_tableIn (off := 913) (tgt := 952) hx hb dL_law_39 (by decide) (by decide) rfl (by decide) ?_
    exact law_stop hl0 hx hb hml hown hts hK hKx hX hbl hsz hL hi hc1 hc2 hS hl hI kk
  · refine lv_tableIn (off := 981) (tgt := 1020) hx hb dL_law_39 (by decide) (by decide) rfl (by decide) ?_
    exact law_terms hl0 hx hb hml hown hts hK hKx hX hbl hsz hL hi hc1 hc2 hS hl hI kk
  · refine lv_tableIn (off := 1049) (tgt := 1088) hx hb dL_law_39 (by decide) (by decide) rfl (by decide) ?_
    exact law_meanDepth hl0 hx hb hml hown hts hK hKx hX hbl hsz hL hi hc1 hc2 hS hl hI kk
  · refine lv_tableIn (off := 1090) (tgt := 1129) hx hb dL_law_39 (by decide) (by decide) rfl (by decide) ?_
    exact law_creditsIn hl0 hx hb hml hown hts hK hKx hX hbl hsz hL hi hc1 hc2 hS hl hI kk
  · refine lv_tableIn (off := 1170) (tgt := 1209) hx hb dL_law_39 (by decide) (by decide) rfl (by decide) ?_
    exact law_bestExchange hl0 hx hb hml hown hts hK hKx hX hbl hsz hL hi hc1 hc2 hS hl hI kk
  · refine lv_tableIn (off := 1262) (tgt := 1301) hx hb dL_law_39 (by decide) (by decide) rfl (by decide) ?_
    exact law_leastSpeed hl0 hx hb hml hown hts hK hKx hX hbl hsz hL hi hc1 hc2 hS hl hI kk
  · refine lv_tableIn (off := 1354) (tgt := 1393) hx hb dL_law_39 (by decide) (by decide) rfl (by decide) ?_
    exact law_emptyIn hl0 hx hb hml hown hts hK hKx hX hbl hsz hL hi hc1 hc2 hS hl hI kk
  · refine lv_tableIn (off := 1422) (tgt := 1461) hx hb dL_law_39 (by decide) (by decide) rfl (by decide) ?_
    exact law_append hl0 hx hb hml hown hts hK hKx hX hbl hsz hL hi hc1 hc2 hS hl hI kk
  · refine lv_tableIn (off := 1478) (tgt := 1517) hx hb dL_law_39 (by decide) (by decide) rfl (by decide) ?_
    exact law_clearText hl0 hx hb hml hown hts hK hKx hX hbl hsz hL hi hc1 hc2 hS hl hI kk
  · refine lv_tableIn (off := 1491) (tgt := 1530) hx hb dL_law_39 (by decide) (by decide) rfl (by decide) ?_
    exact law_runText hl0 hx hb hml hown hts hK hKx hX hbl hsz hL hi hc1 hc2 hS hl hI kk
  · refine lv_tableIn (off := 1535) (tgt := 1574) hx hb dL_law_39 (by decide) (by decide) rfl (by decide) ?_
    exact law_undo hl0 hx hb hml hown hts hK hKx hX hbl hsz hL hi hc1 hc2 hS hl hI kk
  · refine lv_tableIn (off := 1579) (tgt := 1618) hx hb dL_law_39 (by decide) (by decide) rfl (by decide) ?_
    exact law_digest hl0 hx hb hml hown hts hK hKx hX hbl hsz hL hi hc1 hc2 hS hl hI kk
theorem law_loop {p : Program} {l : Launch} {e : Env} {s : State} {m : MethodId} {args : Array Value} {below : List Frame} {meth : Method} {c : Code} {Q : State → Prop} {D : va_G} {b L r : Nat} {xs : Nat → Int32} (hl0 : l.stackTraces = false) (hx : p.tables.exec = Jvm.exec) (hb : c.code = cL_law) (hml : c.maxLocals = 9) (hown : s.vm.findClass RL = some m.cls) (hts : ∀ w ∈ AW, w.before args s = true) (hK : Kn D s) (hKx : Kx r s) (hX : va_X b L xs s s.heap) (hbl : b < r) (hsz : s.heap.size = r) (hL : L ≤ 2560) 
    (kk : ∀ (H1 : Heap) (locs1 : List Loc) (ls1 : Array Slot) (c1 c2 : Nat), c1 ≤ 601024 → c2 ≤ 7293034 → va_S (fun q => r ≤ q) s.heap H1 locs1 → W p l e room_1 s m args below meth c H1 locs1 c1 c2 Q (F0 m 1638 ls1 [])) : ∀ (k i : Nat) (H : Heap) (locs : List Loc) (cells slots : Nat) (ls : Array Slot), L ≤ i + 5 * k → i ≤ 2565 → cells + 4 * k ≤ 601024 → slots + 24 * k ≤ 7293034 → va_S (fun q => r ≤ q) s.heap H locs → lv_has ls 9 [(0, .ref b), (1, .ref r), (2, .ref (r + 206)), (3, .ref (r + 211)), (4, .int (nI i))] → LI D r H → W p l e room_1 s m args below meth c H locs cells slots Q (F0 m 23 ls []) := by
  have hr0 : ∀ q, (fun q => r ≤ q) q → r ≤ q := fun _ h => h
  intro k
  induction k with
  | zero =>
    intro i H locs cells slots ls hLi hi9 hc1 hc2 hS hl hI
    refine lv_iload hx hb dL_law_23 (lv_at hl 4 rfl) ?_
    refine lv_aload_n hx hb dL_law_25 rfl (lv_at hl 0 rfl) ?_
    refine va_slen hx hb hX (by omega) (fun h => by omega) hS dL_law_26 ?_
    refine lv_iconst (v := 5) hx hb dL_law_27 (by decide) ?_
    refine lv_isub hx hb dL_law_28 ?_
    refine lv_icmp_gt (tgt := 1638) hx hb dL_law_29 (by decide) (fun _ => kk H locs ls cells slots (by omega) (by omega) hS) (fun h => ?_)
    exact absurd (sub5 hL (by omega) h) (by omega)
  | succ k ih =>
    intro i H locs cells slots ls hLi hi9 hc1 hc2 hS hl hI
    refine lv_iload hx hb dL_law_23 (lv_at hl 4 rfl) ?_
    refine lv_aload_n hx hb dL_law_25 rfl (lv_at hl 0 rfl) ?_
    refine va_slen hx hb hX (by omega) (fun h => by omega) hS dL_law_26 ?_
    refine lv_iconst (v := 5) hx hb dL_law_27 (by decide) ?_
    refine lv_isub hx hb dL_law_28 ?_
    refine lv_icmp_gt (tgt := 1638) hx hb dL_law_29 (by decide) (fun _ => kk H locs ls cells slots (by omega) (by omega) hS) (fun h => ?_)
    have hi := sub5 hL (by omega) h
    refine law_step hl0 hx hb hml hown hts hK hKx hX hbl hsz hL hi (by omega) (by omega) hS hl hI (fun H1 locs1 ls1 k1 k2 h1 h2 hI hS hl => ?_)
    refine lv_iinc (k := 4) (v := nI (i + 5)) (lv' := [(4, .int (nI (i + 5))), (0, .ref b), (1, .ref r), (2, .ref (r + 206)), (3, .ref (r + 211))]) hx hb dL_law_1632 hl rfl (nI_add i 5) (by decide) rfl (fun ls hl => ?_)
    refine lv_goto (tgt := 23) hx hb dL_law_1635 (by decide) ?_
    exact ih (i + 5) H1 locs1 _ _ ls (by omega) (by omega) (by omega) (by omega) hS (lv_sub hl [1, 2, 3, 4, 0] rfl) hI
