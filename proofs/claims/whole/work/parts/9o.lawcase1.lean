/-! The law, case by case. -/
theorem lgc_self {v : Int64} : lg_cmp v v = 0 := by
  unfold lg_cmp
  simp
theorem law_addStreet {p : Program} {l : Launch} {e : Env} {s : State} {m : MethodId} {args : Array Value} {below : List Frame} {meth : Method} {c : Code} {H : Heap} {locs : List Loc} {cells slots : Nat} {Q : State → Prop} {ls : Array Slot} {D : va_G} {b L r i : Nat} {xs : Nat → Int32} (hl0 : l.stackTraces = false) (hx : p.tables.exec = Jvm.exec) (hb : c.code = cL_law) (hml : c.maxLocals = 9) (hown : s.vm.findClass RL = some m.cls) (hts : ∀ w ∈ AW, w.before args s = true) (hK : Kn D s) (hKx : Kx r s) (hX : va_X b L xs s s.heap) (hbl : b < r) (hsz : s.heap.size = r) (hL : L ≤ 2560) (hi : i + 5 ≤ L) (hc1 : cells + 4 ≤ 601024) (hc2 : slots + 24 ≤ 7293034) (hS : va_S (fun q => r ≤ q) s.heap H locs) (hl : lv_has ls 9 [(0, .ref b), (1, .ref r), (2, .ref (r + 206)), (3, .ref (r + 211)), (4, .int (nI i))]) (hI : LI D r H)
    (kk : ∀ (H1 : Heap) (locs1 : List Loc) (ls1 : Array Slot) (k1 k2 : Nat), k1 ≤ 4 → k2 ≤ 24 → LI D r H1 → va_S (fun q => r ≤ q) s.heap H1 locs1 → lv_has ls1 9 [(0, .ref b), (1, .ref r), (2, .ref (r + 206)), (3, .ref (r + 211)), (4, .int (nI i))] → W p l e room_1 s m args below meth c H1 locs1 (cells + k1) (slots + k2) Q (F0 m 1632 ls1 [])) : W p l e room_1 s m args below meth c H locs cells slots Q (F0 m 148 ls []) := by
  obtain ⟨C, J, G, n, Y, X, U, Z, F, P, S, V, T, Fm, h, O, hG, hM, hO, hR⟩ := hI
  have hr0 : ∀ q, (fun q => r ≤ q) q → r ≤ q := fun _ h => h
  have hA1 : ∀ q, inH r (r + 211) q → r ≤ q := fun q h => h.elim (fun h => h.1) (fun h => by omega)
  have hA2 : ∀ q, inM (r + 206) q → r ≤ q := fun q h => by have := h.1; omega
  have hA3 : ∀ q, inS r q → r ≤ q := fun q h => h.1
  obtain ⟨u1, u2, u3⟩ := M_addStreet  (len := xs (i + 1)) (pri := xs (i + 2)) hR
  refine lv_aload_n hx hb dL_law_148 rfl (lv_at hl 1 rfl) ?_
  refine lv_aload_n hx hb dL_law_149 rfl (lv_at hl 0 rfl) ?_
  refine lv_iload hx hb dL_law_150 (lv_at hl 4 rfl) ?_
  refine lv_iconst (v := 1) hx hb dL_law_152 (by decide) ?_
  refine iaddN (a := i) (b := 1) hx hb dL_law_153 ?_
  refine lwX (i := i + 1) hx hb hX hbl hsz hS (by omega) (by omega) dL_law_154 ?_
  refine lv_aload_n hx hb dL_law_155 rfl (lv_at hl 0 rfl) ?_
  refine lv_iload hx hb dL_law_156 (lv_at hl 4 rfl) ?_
  refine lv_iconst (v := 2) hx hb dL_law_158 (by decide) ?_
  refine iaddN (a := i) (b := 2) hx hb dL_law_159 ?_
  refine lwX (i := i + 2) hx hb hX hbl hsz hS (by omega) (by omega) dL_law_160 ?_
  refine lv_aload_n hx hb dL_law_161 rfl (lv_at hl 3 rfl) ?_
  refine lwS (As := [.ref r, .int (xs (i + 1)), .int (xs (i + 2)), .ref (r + 211)]) (rest := []) hx hb hml hown hts hl.1 hK hKx hr0 (c_L_addStreet l hl0 D r (r + 211) (by omega) C J G n Y X U Z F O (xs (i + 1)) (xs (i + 2)) hR.1.okN hR.n4) (gHS qM_L_87 qT_L_addStreet qK_L qC_L_addStreet) hds_L_addStreet ⟨(Nat.le_of_ble_eq_true rfl), (Nat.le_of_ble_eq_true rfl)⟩ ⟨hG, hO⟩ rfl (Nat.le_of_ble_eq_true rfl) ⟨by show cells + 3 ≤ 601024; omega, by show slots + 18 ≤ 7293034; omega⟩ dL_law_162 hS hA1 (fun H locs hP hz hq hS => ?_)
  obtain ⟨hG, hO⟩ := hP
  have hM := hM.kept (fun q h => hq q (hM.lt h) (fun h2 => by rcases h2 with h2 | h2 <;> (have := h.1; have := h.2) <;> (try have := h2.2) <;> omega))
  refine lv_istore (lv' := [(5, .int (kq 1 (fE_X6_addStreet C G n (xs (i + 1)) (xs (i + 2))))), (0, .ref b), (1, .ref r), (2, .ref (r + 206)), (3, .ref (r + 211)), (4, .int (nI i))]) hx hb dL_law_165 hl (by decide) rfl (fun ls hl => ?_)
  refine lv_aload_n hx hb dL_law_167 rfl (lv_at hl 3 rfl) ?_
  refine lv_aload_n hx hb dL_law_168 rfl (lv_at hl 1 rfl) ?_
  refine lv_iload hx hb dL_law_169 (lv_at hl 5 rfl) ?_
  refine lv_iconst (v := 1) hx hb dL_law_171 (by decide) ?_
  refine iaddN (a := i) (b := 1) hx hb dL_law_172 ?_
  refine lwX (i := i + 1) hx hb hX hbl hsz hS (by omega) (by omega) dL_law_173 ?_
  refine lv_aload_n hx hb dL_law_174 rfl (lv_at hl 1 rfl) ?_
  refine lv_iload hx hb dL_law_175 (lv_at hl 5 rfl) ?_
  refine lv_iconst (v := 2) hx hb dL_law_177 (by decide) ?_
  refine iaddN (a := i) (b := 2) hx hb dL_law_178 ?_
  refine lwX (i := i + 2) hx hb hX hbl hsz hS (by omega) (by omega) dL_law_179 ?_
  refine gcVi (As := [.int (xs (i + 1)), .int (xs (i + 2))]) (rest := []) hx hb hml hown hts hl.1 hK (c_X7_addStreet l D (r + 206) P S V T Fm h (xs (i + 1)) (xs (i + 2)) hR.1.2.2.oN hR.2.1) (gaV qM_L_92 qI_X7_addStreet qS_X7_addStreet qK_X7 qC_X7_addStreet) hdv_X7_addStreet ⟨(Nat.le_of_ble_eq_true rfl), (Nat.le_of_ble_eq_true rfl)⟩ hM (hM.recv hK) rfl (Nat.le_of_ble_eq_true rfl) ⟨by show cells + 3 ≤ 601024; omega, by show slots + 18 ≤ 7293034; omega⟩ dL_law_180 hS hA2 (fun H locs hM hz hq hS => ?_)
  have hG := hG.kept (fun q h => hq q (hG.lt h) (fun h2 => by have := h.2; have := h2.1; omega))
  have hO := Ou.kept hO (hq _ hO.lt (fun h2 => by have := h2.2; omega))
  refine lv_istore (lv' := [(6, .int (fR_X7_addStreet P V Fm (xs (i + 1)) (xs (i + 2)))), (5, .int (kq 1 (fE_X6_addStreet C G n (xs (i + 1)) (xs (i + 2))))), (0, .ref b), (1, .ref r), (2, .ref (r + 206)), (3, .ref (r + 211)), (4, .int (nI i))]) hx hb dL_law_183 hl (by decide) rfl (fun ls hl => ?_)
  refine lv_aload_n hx hb dL_law_185 rfl (lv_at hl 4 rfl) ?_
  refine gcVi (As := []) (rest := []) hx hb hml hown hts hl.1 hK (c_X7_thrown l D (r + 206) _ _ _ _ _ _) (gaV qM_L_93 qI_X7_thrown qS_X7_thrown qK_X7 qC_X7_thrown) hdv_X7_thrown ⟨(Nat.le_of_ble_eq_true rfl), (Nat.le_of_ble_eq_true rfl)⟩ hM (hM.recv hK) rfl (Nat.le_of_ble_eq_true rfl) ⟨by show cells + 3 ≤ 601024; omega, by show slots + 18 ≤ 7293034; omega⟩ dL_law_186 hS hA2 (fun H locs hM hz hq hS => ?_)
  have hG := hG.kept (fun q h => hq q (hG.lt h) (fun h2 => by have := h.2; have := h2.1; omega))
  have hO := Ou.kept hO (hq _ hO.lt (fun h2 => by have := h2.2; omega))
  refine lv_iload hx hb dL_law_189 (lv_at hl 1 rfl) ?_
  refine lv_icmp_eq (tgt := 196) hx hb dL_law_191 (by decide) (fun cA => ?_) (fun cA => absurd u1.symm cA)
  refine lv_iload hx hb dL_law_196 (lv_at hl 1 rfl) ?_
  have fin : ∀ (ls : Array Slot), lv_has ls 9 [(6, .int (fR_X7_addStreet P V Fm (xs (i + 1)) (xs (i + 2)))), (5, .int (kq 1 (fE_X6_addStreet C G n (xs (i + 1)) (xs (i + 2))))), (0, .ref b), (1, .ref r), (2, .ref (r + 206)), (3, .ref (r + 211)), (4, .int (nI i))] → W p l e room_1 s m args below meth c H locs (cells + 3) (slots + 18) Q (F0 m 213 ls []) := fun ls hl => by
    refine lv_goto (tgt := 1632) hx hb dL_law_213 (by decide) ?_
    exact kk _ _ _ 3 18 (by omega) (by omega) ⟨_, _, _, _, _, _, _, _, _, _, _, _, _, _, _, _, hG, hM, hO, u3⟩ hS (lv_sub hl [2, 3, 4, 5, 6] rfl)
  refine lv_if_ne (tgt := 213) hx hb dL_law_198 (by decide) (fun cB => fin ls hl) (fun cB => ?_)
  have e0 : fE_X6_addStreet C G n (xs (i + 1)) (xs (i + 2)) = 0 := kq_0 cB
  refine lv_aload_n hx hb dL_law_201 rfl (lv_at hl 5 rfl) ?_
  refine lv_iconst (v := 0) hx hb dL_law_202 (by decide) ?_
  refine topN (n := 0) rfl ?_
  refine lwO hx hb hK hO dL_law_203 ?_
  refine lv_iload hx hb dL_law_204 (lv_at hl 0 rfl) ?_
  refine lv_i2l (v := (fR_X7_addStreet P V Fm (xs (i + 1)) (xs (i + 2))).toInt64) hx hb dL_law_206 rfl ?_
  refine W.lcmp hx hb dL_law_207 ?_
  refine lv_if_eq (tgt := 213) hx hb dL_law_208 (by decide) (fun _ => fin ls hl) (fun cC => absurd ?_ cC)
  rw [e0, ou_0, u2 e0]
  exact lgc_self
