/-! The law, case by case. -/
theorem lgc_self {v : Int64} : lg_cmp v v = 0 := by
  unfold lg_cmp
  simp
theorem law_addStreet {p : Program} {l : Launch} {e : Env} {s : State} {m : MethodId} {args : Array Value} {below : List Frame} {meth : Method} {c : Code} {H : Heap} {locs : List Loc} {cells slots : Nat} {Q : State → Prop} {ls : Array Slot} {D : va_G} {b L r i : Nat} {xs : Nat → Int32} (hl0 : l.stackTraces = false) (hx : p.tables.exec = Jvm.exec) (hb : c.code = cL_law) (hml : c.maxLocals = 9) (hown : s.vm.findClass RL = some m.cls) (hts : ∀ w ∈ AW, w.before args s = true) (hK : Kn D s) (hKx : Kx r s) (hX : va_X b L xs s s.heap) (hbl : b < r) (hsz : s.heap.size = r) (hL : L ≤ 2560) (hi : i + 5 ≤ L) (hc1 : cells + 4 ≤ 601024) (hc2 : slots + 24 ≤ 7293034) (hS : va_S (fun q => r ≤ q) s.heap H locs) (hl : lv_has ls 9 [(0, .ref b), (1, .ref r), (2, .ref (r + 206)), (3, .ref (r + 211)), (4, .int (nI i))]) (hI : LI D r H)
    (kk : ∀ (H1 : Heap) (locs1 : List Loc) (ls1 : Array Slot) (k1 k2 : Nat), k1 ≤ 4 → k2 ≤ 24 → LI D r H1 → va_S (fun q => r ≤ q) s.heap H1 locs1 → lv_has ls1 9 [(0, .ref b), (1, .ref r), (2, .ref (r + 206)), (3, .ref (r + 211)), (4, .int (nI i))] → W p l e room_1 s m args below meth c H1 locs1 (cells + k1) (slots + k2) Q (F0 m 1632 ls1 [])) : W p l e room_1 s m args below meth c H locs cells slots Q (F0 m 148 ls []) := by
  obtain ⟨C, J, G, n, Y, X, U, Z, F, P, S, V, T, Fm, h, O, hG, hM, hO, hR⟩ := hI
  have hr0 : ∀ q, (fun q => r ≤ q) q → r ≤ q := fun _ h => h
  have hA1 : ∀ q, inH r (r + 211) q → r ≤ q := fun q h => h.elim (fun h => h.1) (fun h => by omega)
  have hA2 : ∀ q, inM (r + 206) q → r ≤ q := fun q h => by have := h.1; omega
  have hA3 : ∀ q, inS r q → r ≤ q := fun q h => h.1
  obtain ⟨u1, u2, u3⟩ := M_addStreet  (len := xs (i + 1)) (pri := xs (i + 2)) hR
  refine lv_aload_n hx hb dL_law_148 rfl (lv_at hl 1 rfl) ?_
  refine lv_aload_n hx hb dL_law_149 rfl (lv_at hl 0 rfl) ?_
  refine lv_iload hx hb dL_law_150 (lv_at hl 4 rfl) ?_
  refine lv_iconst (v := 1) hx hb dL_law_152 (by decide) ?_
  refine iaddN (a := i) (b := 1) hx hb dL_law_153 ?_
  refine lwX (i := i + 1) hx hb hX hbl hsz hS (by omega) (by omega) dL_law_154 ?_
  refine lv_aload_n hx hb dL_law_155 rfl (lv_at hl 0 rfl) ?_
  refine lv_iload hx hb dL_law_156 (lv_at hl 4 rfl) ?_
  refine lv_iconst (v := 2) hx hb dL_law_158 (by decide) ?_
  refine iaddN (a := i) (b := 2) hx hb dL_law_159 ?_
  refine lwX (i := i + 2) hx hb hX hbl hsz hS (by omega) (by omega) dL_law_160 ?_
  refine lv_aload_n hx hb dL_law_161 rfl (lv_at hl 3 rfl) ?_
  refine lwS (As := [.ref r, .int (xs (i + 1)), .int (xs (i + 2)), .ref (r + 211)]) (rest := []) hx hb hml hown hts hl.1 hK hKx hr0 (c_L_addStreet l hl0 D r (r + 211) (by omega) C J G n Y X U Z F O (xs (i + 1)) (xs (i + 2)) hR.1.okN hR.n4) (gHS qM_L_87 qT_L_addStreet qK_L qC_L_addStreet) hds_L_addStreet ⟨(Nat.le_of_ble_eq_true rfl), (Nat.le_of_ble_eq_true rfl)⟩ ⟨hG, hO⟩ rfl (Nat.le_of_ble_eq_true rfl) ⟨by show cells + 3 ≤ 601024; omega, by show slots + 18 ≤ 7293034; omega⟩ dL_law_162 hS hA1 (fun H locs hP hz hq hS => ?_)
  obtain ⟨hG, hO⟩ := hP
  have hM := hM.kept (fun q h => hq q (hM.lt h) (fun h2 => by rcases h2 with h2 | h2 <;> (have := h.1; have := h.2) <;> (try have := h2.2) <;> omega))
  refine lv_istore (lv' := [(5, .int (kq 1 (fE_X6_addStreet C G n (xs (i + 1)) (xs (i + 2))))), (0, .ref b), (1, .ref r), (2, .ref (r + 206)), (3, .ref (r + 211)), (4, .int (nI i))]) hx hb dL_law_165 hl (by decide) rfl (fun ls hl => ?_)
  refine lv_aload_n hx hb dL_law_167 rfl (lv_at hl 3 rfl) ?_
  refine lv_aload_n hx hb dL_law_168 rfl (lv_at hl 1 rfl) ?_
  refine lv_iload hx hb dL_law_169 (lv_at hl 5 rfl) ?_
  refine lv_iconst (v := 1) hx hb dL_law_171 (by decide) ?_
  refine iaddN (a := i) (b := 1) hx hb dL_law_172 ?_
  refine lwX (i := i + 1) hx hb hX hbl hsz hS (by omega) (by omega) dL_law_173 ?_
  refine lv_aload_n hx hb dL_law_174 rfl (lv_at hl 1 rfl) ?_
  refine lv_iload hx hb dL_law_175 (lv_at hl 5 rfl) ?_
  refine lv_iconst (v := 2) hx hb dL_law_177 (by decide) ?_
  refine iaddN (a := i) (b := 2) hx hb dL_law_178 ?_
  refine lwX (i := i + 2) hx hb hX hbl hsz hS (by omega) (by omega) dL_law_179 ?_
  refine gcVi (As := [.int (xs (i + 1)), .int (xs (i + 2))]) (rest := []) hx hb hml hown hts hl.1 hK (c_X7_addStreet l D (r + 206) P S V T Fm h (xs (i + 1)) (xs (i + 2)) hR.1.2.2.oN hR.2.1) (gaV qM_L_92 qI_X7_addStreet qS_X7_addStreet qK_X7 qC_X7_addStreet) hdv_X7_addStreet ⟨(Nat.le_of_ble_eq_true rfl), (Nat.le_of_ble_eq_true rfl)⟩ hM (hM.recv hK) rfl (Nat.le_of_ble_eq_true rfl) ⟨by show cells + 3 ≤ 601024; omega, by show slots + 18 ≤ 7293034; omega⟩ dL_law_180 hS hA2 (fun H locs hM hz hq hS => ?_)
  have hG := hG.kept (fun q h => hq q (hG.lt h) (fun h2 => by have := h.2; have := h2.1; omega))
  have hO := Ou.kept hO (hq _ hO.lt (fun h2 => by have := h2.2; omega))
  refine lv_istore (lv' := [(6, .int (fR_X7_addStreet P V Fm (xs (i + 1)) (xs (i + 2)))), (5, .int (kq 1 (fE_X6_addStreet C G n (xs (i + 1)) (xs (i + 2))))), (0, .ref b), (1, .ref r), (2, .ref (r + 206)), (3, .ref (r + 211)), (4, .int (nI i))]) hx hb dL_law_183 hl (by decide) rfl (fun ls hl => ?_)
  refine lv_aload_n hx hb dL_law_185 rfl (lv_at hl 4 rfl) ?_
  refine gcVi (As := []) (rest := []) hx hb hml hown hts hl.1 hK (c_X7_thrown l D (r + 206) _ _ _ _ _ _) (gaV qM_L_93 qI_X7_thrown qS_X7_thrown qK_X7 qC_X7_thrown) hdv_X7_thrown ⟨(Nat.le_of_ble_eq_true rfl), (Nat.le_of_ble_eq_true rfl)⟩ hM (hM.recv hK) rfl (Nat.le_of_ble_eq_true rfl) ⟨by show cells + 3 ≤ 601024; omega, by show slots + 18 ≤ 7293034; omega⟩ dL_law_186 hS hA2 (fun H locs hM hz hq hS => ?_)
  have hG := hG.kept (fun q h => hq q (hG.lt h) (fun h2 => by have := h.2; have := h2.1; omega))
  have hO := Ou.kept hO (hq _ hO.lt (fun h2 => by have := h2.2; omega))
  refine lv_iload hx hb dL_law_189 (lv_at hl 1 rfl) ?_
  refine lv_icmp_eq (tgt := 196) hx hb dL_law_191 (by decide) (fun cA => ?_) (fun cA => absurd u1.symm cA)
  refine lv_iload hx hb dL_law_196 (lv_at hl 1 rfl) ?_
  have fin : ∀ (ls : Array Slot), lv_has ls 9 [(6, .int (fR_X7_addStreet P V Fm (xs (i + 1)) (xs (i + 2)))), (5, .int (kq 1 (fE_X6_addStreet C G n (xs (i + 1)) (xs (i + 2))))), (0, .ref b), (1, .ref r), (2, .ref (r + 206)), (3, .ref (r + 211)), (4, .int (nI i))] → W p l e room_1 s m args below meth c H locs (cells + 3) (slots + 18) Q (F0 m 213 ls []) := fun ls hl => by
    refine lv_goto (tgt := 1632) hx hb dL_law_213 (by decide) ?_
    exact kk _ _ _ 3 18 (by omega) (by omega) ⟨_, _, _, _, _, _, _, _, _, _, _, _, _, _, _, _, hG, hM, hO, u3⟩ hS (lv_sub hl [2, 3, 4, 5, 6] rfl)
  refine lv_if_ne (tgt := 213) hx hb dL_law_198 (by decide) (fun cB => fin ls hl) (fun cB => ?_)
  have e0 : fE_X6_addStreet C G n (xs (i + 1)) (xs (i + 2)) = 0 := kq_0 cB
  refine lv_aload_n hx hb dL_law_201 rfl (lv_at hl 5 rfl) ?_
  refine lv_iconst (v := 0) hx hb dL_law_202 (by decide) ?_
  refine topN (n := 0) rfl ?_
  refine lwO hx hb hK hO dL_law_203 ?_
  refine lv_iload hx hb dL_law_204 (lv_at hl 0 rfl) ?_
  refine lv_i2l (v := (fR_X7_addStreet P V Fm (xs (i + 1)) (xs (i + 2))).toInt64) hx hb dL_law_206 rfl ?_
  refine W.lcmp hx hb dL_law_207 ?_
  refine lv_if_eq (tgt := 213) hx hb dL_law_208 (by decide) (fun _ => fin ls hl) (fun cC => absurd ?_ cC)
  rw [e0, ou_0, u2 e0]
  exact lgc_self
theorem law_addPlow {p : Program} {l : Launch} {e : Env} {s : State} {m : MethodId} {args : Array Value} {below : List Frame} {meth : Method} {c : Code} {H : Heap} {locs : List Loc} {cells slots : Nat} {Q : State → Prop} {ls : Array Slot} {D : va_G} {b L r i : Nat} {xs : Nat → Int32} (hl0 : l.stackTraces = false) (hx : p.tables.exec = Jvm.exec) (hb : c.code = cL_law) (hml : c.maxLocals = 9) (hown : s.vm.findClass RL = some m.cls) (hts : ∀ w ∈ AW, w.before args s = true) (hK : Kn D s) (hKx : Kx r s) (hX : va_X b L xs s s.heap) (hbl : b < r) (hsz : s.heap.size = r) (hL : L ≤ 2560) (hi : i + 5 ≤ L) (hc1 : cells + 4 ≤ 601024) (hc2 : slots + 24 ≤ 7293034) (hS : va_S (fun q => r ≤ q) s.heap H locs) (hl : lv_has ls 9 [(0, .ref b), (1, .ref r), (2, .ref (r + 206)), (3, .ref (r + 211)), (4, .int (nI i))]) (hI : LI D r H)
    (kk : ∀ (H1 : Heap) (locs1 : List Loc) (ls1 : Array Slot) (k1 k2 : Nat), k1 ≤ 4 → k2 ≤ 24 → LI D r H1 → va_S (fun q => r ≤ q) s.heap H1 locs1 → lv_has ls1 9 [(0, .ref b), (1, .ref r), (2, .ref (r + 206)), (3, .ref (r + 211)), (4, .int (nI i))] → W p l e room_1 s m args below meth c H1 locs1 (cells + k1) (slots + k2) Q (F0 m 1632 ls1 [])) : W p l e room_1 s m args below meth c H locs cells slots Q (F0 m 216 ls []) := by
  obtain ⟨C, J, G, n, Y, X, U, Z, F, P, S, V, T, Fm, h, O, hG, hM, hO, hR⟩ := hI
  have hr0 : ∀ q, (fun q => r ≤ q) q → r ≤ q := fun _ h => h
  have hA1 : ∀ q, inH r (r + 211) q → r ≤ q := fun q h => h.elim (fun h => h.1) (fun h => by omega)
  have hA2 : ∀ q, inM (r + 206) q → r ≤ q := fun q h => by have := h.1; omega
  have hA3 : ∀ q, inS r q → r ≤ q := fun q h => h.1
  obtain ⟨u1, u2, u3⟩ := M_addPlow  (spd := xs (i + 1)) (cap := xs (i + 2)) hR
  refine lv_aload_n hx hb dL_law_216 rfl (lv_at hl 1 rfl) ?_
  refine lv_aload_n hx hb dL_law_217 rfl (lv_at hl 0 rfl) ?_
  refine lv_iload hx hb dL_law_218 (lv_at hl 4 rfl) ?_
  refine lv_iconst (v := 1) hx hb dL_law_220 (by decide) ?_
  refine iaddN (a := i) (b := 1) hx hb dL_law_221 ?_
  refine lwX (i := i + 1) hx hb hX hbl hsz hS (by omega) (by omega) dL_law_222 ?_
  refine lv_aload_n hx hb dL_law_223 rfl (lv_at hl 0 rfl) ?_
  refine lv_iload hx hb dL_law_224 (lv_at hl 4 rfl) ?_
  refine lv_iconst (v := 2) hx hb dL_law_226 (by decide) ?_
  refine iaddN (a := i) (b := 2) hx hb dL_law_227 ?_
  refine lwX (i := i + 2) hx hb hX hbl hsz hS (by omega) (by omega) dL_law_228 ?_
  refine lv_aload_n hx hb dL_law_229 rfl (lv_at hl 3 rfl) ?_
  refine lwS (As := [.ref r, .int (xs (i + 1)), .int (xs (i + 2)), .ref (r + 211)]) (rest := []) hx hb hml hown hts hl.1 hK hKx hr0 (c_L_addPlow l hl0 D r (r + 211) (by omega) C J G n Y X U Z F O (xs (i + 1)) (xs (i + 2)) hR.1.okN hR.n4) (gHS qM_L_96 qT_L_addPlow qK_L qC_L_addPlow) hds_L_addPlow ⟨(Nat.le_of_ble_eq_true rfl), (Nat.le_of_ble_eq_true rfl)⟩ ⟨hG, hO⟩ rfl (Nat.le_of_ble_eq_true rfl) ⟨by show cells + 3 ≤ 601024; omega, by show slots + 18 ≤ 7293034; omega⟩ dL_law_230 hS hA1 (fun H locs hP hz hq hS => ?_)
  obtain ⟨hG, hO⟩ := hP
  have hM := hM.kept (fun q h => hq q (hM.lt h) (fun h2 => by rcases h2 with h2 | h2 <;> (have := h.1; have := h.2) <;> (try have := h2.2) <;> omega))
  refine lv_istore (lv' := [(5, .int (kq 1 (fE_X6_addPlow C G n (xs (i + 1)) (xs (i + 2))))), (0, .ref b), (1, .ref r), (2, .ref (r + 206)), (3, .ref (r + 211)), (4, .int (nI i))]) hx hb dL_law_233 hl (by decide) rfl (fun ls hl => ?_)
  refine lv_aload_n hx hb dL_law_235 rfl (lv_at hl 3 rfl) ?_
  refine lv_aload_n hx hb dL_law_236 rfl (lv_at hl 1 rfl) ?_
  refine lv_iload hx hb dL_law_237 (lv_at hl 5 rfl) ?_
  refine lv_iconst (v := 1) hx hb dL_law_239 (by decide) ?_
  refine iaddN (a := i) (b := 1) hx hb dL_law_240 ?_
  refine lwX (i := i + 1) hx hb hX hbl hsz hS (by omega) (by omega) dL_law_241 ?_
  refine lv_aload_n hx hb dL_law_242 rfl (lv_at hl 1 rfl) ?_
  refine lv_iload hx hb dL_law_243 (lv_at hl 5 rfl) ?_
  refine lv_iconst (v := 2) hx hb dL_law_245 (by decide) ?_
  refine iaddN (a := i) (b := 2) hx hb dL_law_246 ?_
  refine lwX (i := i + 2) hx hb hX hbl hsz hS (by omega) (by omega) dL_law_247 ?_
  refine gcVi (As := [.int (xs (i + 1)), .int (xs (i + 2))]) (rest := []) hx hb hml hown hts hl.1 hK (c_X7_addPlow l D (r + 206) P S V T Fm h (xs (i + 1)) (xs (i + 2)) hR.1.2.2.oN hR.2.1) (gaV qM_L_98 qI_X7_addPlow qS_X7_addPlow qK_X7 qC_X7_addPlow) hdv_X7_addPlow ⟨(Nat.le_of_ble_eq_true rfl), (Nat.le_of_ble_eq_true rfl)⟩ hM (hM.recv hK) rfl (Nat.le_of_ble_eq_true rfl) ⟨by show cells + 3 ≤ 601024; omega, by show slots + 18 ≤ 7293034; omega⟩ dL_law_248 hS hA2 (fun H locs hM hz hq hS => ?_)
  have hG := hG.kept (fun q h => hq q (hG.lt h) (fun h2 => by have := h.2; have := h2.1; omega))
  have hO := Ou.kept hO (hq _ hO.lt (fun h2 => by have := h2.2; omega))
  refine lv_istore (lv' := [(6, .int (fR_X7_addPlow P V Fm (xs (i + 1)) (xs (i + 2)))), (5, .int (kq 1 (fE_X6_addPlow C G n (xs (i + 1)) (xs (i + 2))))), (0, .ref b), (1, .ref r), (2, .ref (r + 206)), (3, .ref (r + 211)), (4, .int (nI i))]) hx hb dL_law_251 hl (by decide) rfl (fun ls hl => ?_)
  refine lv_aload_n hx hb dL_law_253 rfl (lv_at hl 4 rfl) ?_
  refine gcVi (As := []) (rest := []) hx hb hml hown hts hl.1 hK (c_X7_thrown l D (r + 206) _ _ _ _ _ _) (gaV qM_L_93 qI_X7_thrown qS_X7_thrown qK_X7 qC_X7_thrown) hdv_X7_thrown ⟨(Nat.le_of_ble_eq_true rfl), (Nat.le_of_ble_eq_true rfl)⟩ hM (hM.recv hK) rfl (Nat.le_of_ble_eq_true rfl) ⟨by show cells + 3 ≤ 601024; omega, by show slots + 18 ≤ 7293034; omega⟩ dL_law_254 hS hA2 (fun H locs hM hz hq hS => ?_)
  have hG := hG.kept (fun q h => hq q (hG.lt h) (fun h2 => by have := h.2; have := h2.1; omega))
  have hO := Ou.kept hO (hq _ hO.lt (fun h2 => by have := h2.2; omega))
  refine lv_iload hx hb dL_law_257 (lv_at hl 1 rfl) ?_
  refine lv_icmp_eq (tgt := 264) hx hb dL_law_259 (by decide) (fun cA => ?_) (fun cA => absurd u1.symm cA)
  refine lv_iload hx hb dL_law_264 (lv_at hl 1 rfl) ?_
  have fin : ∀ (ls : Array Slot), lv_has ls 9 [(6, .int (fR_X7_addPlow P V Fm (xs (i + 1)) (xs (i + 2)))), (5, .int (kq 1 (fE_X6_addPlow C G n (xs (i + 1)) (xs (i + 2))))), (0, .ref b), (1, .ref r), (2, .ref (r + 206)), (3, .ref (r + 211)), (4, .int (nI i))] → W p l e room_1 s m args below meth c H locs (cells + 3) (slots + 18) Q (F0 m 281 ls []) := fun ls hl => by
    refine lv_goto (tgt := 1632) hx hb dL_law_281 (by decide) ?_
    exact kk _ _ _ 3 18 (by omega) (by omega) ⟨_, _, _, _, _, _, _, _, _, _, _, _, _, _, _, _, hG, hM, hO, u3⟩ hS (lv_sub hl [2, 3, 4, 5, 6] rfl)
  refine lv_if_ne (tgt := 281) hx hb dL_law_266 (by decide) (fun cB => fin ls hl) (fun cB => ?_)
  have e0 : fE_X6_addPlow C G n (xs (i + 1)) (xs (i + 2)) = 0 := kq_0 cB
  refine lv_aload_n hx hb dL_law_269 rfl (lv_at hl 5 rfl) ?_
  refine lv_iconst (v := 0) hx hb dL_law_270 (by decide) ?_
  refine topN (n := 0) rfl ?_
  refine lwO hx hb hK hO dL_law_271 ?_
  refine lv_iload hx hb dL_law_272 (lv_at hl 0 rfl) ?_
  refine lv_i2l (v := (fR_X7_addPlow P V Fm (xs (i + 1)) (xs (i + 2))).toInt64) hx hb dL_law_274 rfl ?_
  refine W.lcmp hx hb dL_law_275 ?_
  refine lv_if_eq (tgt := 281) hx hb dL_law_276 (by decide) (fun _ => fin ls hl) (fun cC => absurd ?_ cC)
  rw [e0, ou_0, u2 e0]
  exact lgc_self
theorem law_addStop {p : Program} {l : Launch} {e : Env} {s : State} {m : MethodId} {args : Array Value} {below : List Frame} {meth : Method} {c : Code} {H : Heap} {locs : List Loc} {cells slots : Nat} {Q : State → Prop} {ls : Array Slot} {D : va_G} {b L r i : Nat} {xs : Nat → Int32} (hl0 : l.stackTraces = false) (hx : p.tables.exec = Jvm.exec) (hb : c.code = cL_law) (hml : c.maxLocals = 9) (hown : s.vm.findClass RL = some m.cls) (hts : ∀ w ∈ AW, w.before args s = true) (hK : Kn D s) (hKx : Kx r s) (hX : va_X b L xs s s.heap) (hbl : b < r) (hsz : s.heap.size = r) (hL : L ≤ 2560) (hi : i + 5 ≤ L) (hc1 : cells + 4 ≤ 601024) (hc2 : slots + 24 ≤ 7293034) (hS : va_S (fun q => r ≤ q) s.heap H locs) (hl : lv_has ls 9 [(0, .ref b), (1, .ref r), (2, .ref (r + 206)), (3, .ref (r + 211)), (4, .int (nI i))]) (hI : LI D r H)
    (kk : ∀ (H1 : Heap) (locs1 : List Loc) (ls1 : Array Slot) (k1 k2 : Nat), k1 ≤ 4 → k2 ≤ 24 → LI D r H1 → va_S (fun q => r ≤ q) s.heap H1 locs1 → lv_has ls1 9 [(0, .ref b), (1, .ref r), (2, .ref (r + 206)), (3, .ref (r + 211)), (4, .int (nI i))] → W p l e room_1 s m args below meth c H1 locs1 (cells + k1) (slots + k2) Q (F0 m 1632 ls1 [])) : W p l e room_1 s m args below meth c H locs cells slots Q (F0 m 284 ls []) := by
  obtain ⟨C, J, G, n, Y, X, U, Z, F, P, S, V, T, Fm, h, O, hG, hM, hO, hR⟩ := hI
  have hr0 : ∀ q, (fun q => r ≤ q) q → r ≤ q := fun _ h => h
  have hA1 : ∀ q, inH r (r + 211) q → r ≤ q := fun q h => h.elim (fun h => h.1) (fun h => by omega)
  have hA2 : ∀ q, inM (r + 206) q → r ≤ q := fun q h => by have := h.1; omega
  have hA3 : ∀ q, inS r q → r ≤ q := fun q h => h.1
  obtain ⟨u1, u2, u3⟩ := M_addStop  (pl := xs (i + 1)) (str := xs (i + 2)) hR
  refine lv_aload_n hx hb dL_law_284 rfl (lv_at hl 1 rfl) ?_
  refine lv_aload_n hx hb dL_law_285 rfl (lv_at hl 0 rfl) ?_
  refine lv_iload hx hb dL_law_286 (lv_at hl 4 rfl) ?_
  refine lv_iconst (v := 1) hx hb dL_law_288 (by decide) ?_
  refine iaddN (a := i) (b := 1) hx hb dL_law_289 ?_
  refine lwX (i := i + 1) hx hb hX hbl hsz hS (by omega) (by omega) dL_law_290 ?_
  refine lv_aload_n hx hb dL_law_291 rfl (lv_at hl 0 rfl) ?_
  refine lv_iload hx hb dL_law_292 (lv_at hl 4 rfl) ?_
  refine lv_iconst (v := 2) hx hb dL_law_294 (by decide) ?_
  refine iaddN (a := i) (b := 2) hx hb dL_law_295 ?_
  refine lwX (i := i + 2) hx hb hX hbl hsz hS (by omega) (by omega) dL_law_296 ?_
  refine lv_aload_n hx hb dL_law_297 rfl (lv_at hl 3 rfl) ?_
  refine lwS (As := [.ref r, .int (xs (i + 1)), .int (xs (i + 2)), .ref (r + 211)]) (rest := []) hx hb hml hown hts hl.1 hK hKx hr0 (c_L_addStop l hl0 D r (r + 211) (by omega) C J G n Y X U Z F O (xs (i + 1)) (xs (i + 2)) hR.1.okN hR.n4 hR.1.okQ) (gHS qM_L_99 qT_L_addStop qK_L qC_L_addStop) hds_L_addStop ⟨(Nat.le_of_ble_eq_true rfl), (Nat.le_of_ble_eq_true rfl)⟩ ⟨hG, hO⟩ rfl (Nat.le_of_ble_eq_true rfl) ⟨by show cells + 3 ≤ 601024; omega, by show slots + 18 ≤ 7293034; omega⟩ dL_law_298 hS hA1 (fun H locs hP hz hq hS => ?_)
  obtain ⟨hG, hO⟩ := hP
  have hM := hM.kept (fun q h => hq q (hM.lt h) (fun h2 => by rcases h2 with h2 | h2 <;> (have := h.1; have := h.2) <;> (try have := h2.2) <;> omega))
  refine lv_istore (lv' := [(5, .int (kq 3 (fE_X6_addStop C G n (xs (i + 1)) (xs (i + 2))))), (0, .ref b), (1, .ref r), (2, .ref (r + 206)), (3, .ref (r + 211)), (4, .int (nI i))]) hx hb dL_law_301 hl (by decide) rfl (fun ls hl => ?_)
  refine lv_aload_n hx hb dL_law_303 rfl (lv_at hl 3 rfl) ?_
  refine lv_aload_n hx hb dL_law_304 rfl (lv_at hl 1 rfl) ?_
  refine lv_iload hx hb dL_law_305 (lv_at hl 5 rfl) ?_
  refine lv_iconst (v := 1) hx hb dL_law_307 (by decide) ?_
  refine iaddN (a := i) (b := 1) hx hb dL_law_308 ?_
  refine lwX (i := i + 1) hx hb hX hbl hsz hS (by omega) (by omega) dL_law_309 ?_
  refine lv_aload_n hx hb dL_law_310 rfl (lv_at hl 1 rfl) ?_
  refine lv_iload hx hb dL_law_311 (lv_at hl 5 rfl) ?_
  refine lv_iconst (v := 2) hx hb dL_law_313 (by decide) ?_
  refine iaddN (a := i) (b := 2) hx hb dL_law_314 ?_
  refine lwX (i := i + 2) hx hb hX hbl hsz hS (by omega) (by omega) dL_law_315 ?_
  refine gcVi (As := [.int (xs (i + 1)), .int (xs (i + 2))]) (rest := []) hx hb hml hown hts hl.1 hK (c_X7_addStop l D (r + 206) P S V T Fm h (xs (i + 1)) (xs (i + 2)) hR.1.2.2.oN hR.2.1 (fun q hq => (hR.1.2.2.2.1 q hq).1)) (gaV qM_L_101 qI_X7_addStop qS_X7_addStop qK_X7 qC_X7_addStop) hdv_X7_addStop ⟨(Nat.le_of_ble_eq_true rfl), (Nat.le_of_ble_eq_true rfl)⟩ hM (hM.recv hK) rfl (Nat.le_of_ble_eq_true rfl) ⟨by show cells + 3 ≤ 601024; omega, by show slots + 18 ≤ 7293034; omega⟩ dL_law_316 hS hA2 (fun H locs hM hz hq hS => ?_)
  have hG := hG.kept (fun q h => hq q (hG.lt h) (fun h2 => by have := h.2; have := h2.1; omega))
  have hO := Ou.kept hO (hq _ hO.lt (fun h2 => by have := h2.2; omega))
  refine lv_istore (lv' := [(6, .int (fR_X7_addStop P V Fm (xs (i + 1)) (xs (i + 2)))), (5, .int (kq 3 (fE_X6_addStop C G n (xs (i + 1)) (xs (i + 2))))), (0, .ref b), (1, .ref r), (2, .ref (r + 206)), (3, .ref (r + 211)), (4, .int (nI i))]) hx hb dL_law_319 hl (by decide) rfl (fun ls hl => ?_)
  refine lv_aload_n hx hb dL_law_321 rfl (lv_at hl 4 rfl) ?_
  refine gcVi (As := []) (rest := []) hx hb hml hown hts hl.1 hK (c_X7_thrown l D (r + 206) _ _ _ _ _ _) (gaV qM_L_93 qI_X7_thrown qS_X7_thrown qK_X7 qC_X7_thrown) hdv_X7_thrown ⟨(Nat.le_of_ble_eq_true rfl), (Nat.le_of_ble_eq_true rfl)⟩ hM (hM.recv hK) rfl (Nat.le_of_ble_eq_true rfl) ⟨by show cells + 3 ≤ 601024; omega, by show slots + 18 ≤ 7293034; omega⟩ dL_law_322 hS hA2 (fun H locs hM hz hq hS => ?_)
  have hG := hG.kept (fun q h => hq q (hG.lt h) (fun h2 => by have := h.2; have := h2.1; omega))
  have hO := Ou.kept hO (hq _ hO.lt (fun h2 => by have := h2.2; omega))
  refine lv_iload hx hb dL_law_325 (lv_at hl 1 rfl) ?_
  refine lv_icmp_eq (tgt := 332) hx hb dL_law_327 (by decide) (fun cA => ?_) (fun cA => absurd u1.symm cA)
  refine lv_iload hx hb dL_law_332 (lv_at hl 1 rfl) ?_
  have fin : ∀ (ls : Array Slot), lv_has ls 9 [(6, .int (fR_X7_addStop P V Fm (xs (i + 1)) (xs (i + 2)))), (5, .int (kq 3 (fE_X6_addStop C G n (xs (i + 1)) (xs (i + 2))))), (0, .ref b), (1, .ref r), (2, .ref (r + 206)), (3, .ref (r + 211)), (4, .int (nI i))] → W p l e room_1 s m args below meth c H locs (cells + 3) (slots + 18) Q (F0 m 349 ls []) := fun ls hl => by
    refine lv_goto (tgt := 1632) hx hb dL_law_349 (by decide) ?_
    exact kk _ _ _ 3 18 (by omega) (by omega) ⟨_, _, _, _, _, _, _, _, _, _, _, _, _, _, _, _, hG, hM, hO, u3⟩ hS (lv_sub hl [2, 3, 4, 5, 6] rfl)
  refine lv_if_ne (tgt := 349) hx hb dL_law_334 (by decide) (fun cB => fin ls hl) (fun cB => ?_)
  have e0 : fE_X6_addStop C G n (xs (i + 1)) (xs (i + 2)) = 0 := kq_0 cB
  refine lv_aload_n hx hb dL_law_337 rfl (lv_at hl 5 rfl) ?_
  refine lv_iconst (v := 0) hx hb dL_law_338 (by decide) ?_
  refine topN (n := 0) rfl ?_
  refine lwO hx hb hK hO dL_law_339 ?_
  refine lv_iload hx hb dL_law_340 (lv_at hl 0 rfl) ?_
  refine lv_i2l (v := (fR_X7_addStop P V Fm (xs (i + 1)) (xs (i + 2))).toInt64) hx hb dL_law_342 rfl ?_
  refine W.lcmp hx hb dL_law_343 ?_
  refine lv_if_eq (tgt := 349) hx hb dL_law_344 (by decide) (fun _ => fin ls hl) (fun cC => absurd ?_ cC)
  rw [e0, ou_0, u2 e0]
  exact lgc_self
theorem law_clearRoute {p : Program} {l : Launch} {e : Env} {s : State} {m : MethodId} {args : Array Value} {below : List Frame} {meth : Method} {c : Code} {H : Heap} {locs : List Loc} {cells slots : Nat} {Q : State → Prop} {ls : Array Slot} {D : va_G} {b L r i : Nat} {xs : Nat → Int32} (hl0 : l.stackTraces = false) (hx : p.tables.exec = Jvm.exec) (hb : c.code = cL_law) (hml : c.maxLocals = 9) (hown : s.vm.findClass RL = some m.cls) (hts : ∀ w ∈ AW, w.before args s = true) (hK : Kn D s) (hKx : Kx r s) (hX : va_X b L xs s s.heap) (hbl : b < r) (hsz : s.heap.size = r) (hL : L ≤ 2560) (hi : i + 5 ≤ L) (hc1 : cells + 4 ≤ 601024) (hc2 : slots + 24 ≤ 7293034) (hS : va_S (fun q => r ≤ q) s.heap H locs) (hl : lv_has ls 9 [(0, .ref b), (1, .ref r), (2, .ref (r + 206)), (3, .ref (r + 211)), (4, .int (nI i))]) (hI : LI D r H)
    (kk : ∀ (H1 : Heap) (locs1 : List Loc) (ls1 : Array Slot) (k1 k2 : Nat), k1 ≤ 4 → k2 ≤ 24 → LI D r H1 → va_S (fun q => r ≤ q) s.heap H1 locs1 → lv_has ls1 9 [(0, .ref b), (1, .ref r), (2, .ref (r + 206)), (3, .ref (r + 211)), (4, .int (nI i))] → W p l e room_1 s m args below meth c H1 locs1 (cells + k1) (slots + k2) Q (F0 m 1632 ls1 [])) : W p l e room_1 s m args below meth c H locs cells slots Q (F0 m 352 ls []) := by
  obtain ⟨C, J, G, n, Y, X, U, Z, F, P, S, V, T, Fm, h, O, hG, hM, hO, hR⟩ := hI
  have hr0 : ∀ q, (fun q => r ≤ q) q → r ≤ q := fun _ h => h
  have hA1 : ∀ q, inH r (r + 211) q → r ≤ q := fun q h => h.elim (fun h => h.1) (fun h => by omega)
  have hA2 : ∀ q, inM (r + 206) q → r ≤ q := fun q h => by have := h.1; omega
  have hA3 : ∀ q, inS r q → r ≤ q := fun q h => h.1
  obtain ⟨u1, u2, u3⟩ := M_clearRoute  (pl := xs (i + 1)) hR
  refine lv_aload_n hx hb dL_law_352 rfl (lv_at hl 1 rfl) ?_
  refine lv_aload_n hx hb dL_law_353 rfl (lv_at hl 0 rfl) ?_
  refine lv_iload hx hb dL_law_354 (lv_at hl 4 rfl) ?_
  refine lv_iconst (v := 1) hx hb dL_law_356 (by decide) ?_
  refine iaddN (a := i) (b := 1) hx hb dL_law_357 ?_
  refine lwX (i := i + 1) hx hb hX hbl hsz hS (by omega) (by omega) dL_law_358 ?_
  refine lv_aload_n hx hb dL_law_359 rfl (lv_at hl 3 rfl) ?_
  refine lwS (As := [.ref r, .int (xs (i + 1)), .ref (r + 211)]) (rest := []) hx hb hml hown hts hl.1 hK hKx hr0 (c_L_clearRoute l hl0 D r (r + 211) (by omega) C J G n Y X U Z F O (xs (i + 1)) hR.1.okN hR.n4) (gHS qM_L_102 qT_L_clearRoute qK_L qC_L_clearRoute) hds_L_clearRoute ⟨(Nat.le_of_ble_eq_true rfl), (Nat.le_of_ble_eq_true rfl)⟩ ⟨hG, hO⟩ rfl (Nat.le_of_ble_eq_true rfl) ⟨by show cells + 1 ≤ 601024; omega, by show slots + 6 ≤ 7293034; omega⟩ dL_law_360 hS hA1 (fun H locs hP hz hq hS => ?_)
  obtain ⟨hG, hO⟩ := hP
  have hM := hM.kept (fun q h => hq q (hM.lt h) (fun h2 => by rcases h2 with h2 | h2 <;> (have := h.1; have := h.2) <;> (try have := h2.2) <;> omega))
  refine lv_istore (lv' := [(5, .int (kq 3 (fE_X6_clearRoute C G n (xs (i + 1))))), (0, .ref b), (1, .ref r), (2, .ref (r + 206)), (3, .ref (r + 211)), (4, .int (nI i))]) hx hb dL_law_363 hl (by decide) rfl (fun ls hl => ?_)
  refine lv_aload_n hx hb dL_law_365 rfl (lv_at hl 3 rfl) ?_
  refine lv_aload_n hx hb dL_law_366 rfl (lv_at hl 1 rfl) ?_
  refine lv_iload hx hb dL_law_367 (lv_at hl 5 rfl) ?_
  refine lv_iconst (v := 1) hx hb dL_law_369 (by decide) ?_
  refine iaddN (a := i) (b := 1) hx hb dL_law_370 ?_
  refine lwX (i := i + 1) hx hb hX hbl hsz hS (by omega) (by omega) dL_law_371 ?_
  refine gcVi (As := [.int (xs (i + 1))]) (rest := []) hx hb hml hown hts hl.1 hK (c_X7_clearRoute l D (r + 206) P S V T Fm h (xs (i + 1)) hR.1.2.2.oN hR.2.1) (gaV qM_L_105 qI_X7_clearRoute qS_X7_clearRoute qK_X7 qC_X7_clearRoute) hdv_X7_clearRoute ⟨(Nat.le_of_ble_eq_true rfl), (Nat.le_of_ble_eq_true rfl)⟩ hM (hM.recv hK) rfl (Nat.le_of_ble_eq_true rfl) ⟨by show cells + 1 ≤ 601024; omega, by show slots + 6 ≤ 7293034; omega⟩ dL_law_372 hS hA2 (fun H locs hM hz hq hS => ?_)
  have hG := hG.kept (fun q h => hq q (hG.lt h) (fun h2 => by have := h.2; have := h2.1; omega))
  have hO := Ou.kept hO (hq _ hO.lt (fun h2 => by have := h2.2; omega))
  refine lv_istore (lv' := [(6, .int (fR_X7_clearRoute P V Fm (xs (i + 1)))), (5, .int (kq 3 (fE_X6_clearRoute C G n (xs (i + 1))))), (0, .ref b), (1, .ref r), (2, .ref (r + 206)), (3, .ref (r + 211)), (4, .int (nI i))]) hx hb dL_law_375 hl (by decide) rfl (fun ls hl => ?_)
  refine lv_aload_n hx hb dL_law_377 rfl (lv_at hl 4 rfl) ?_
  refine gcVi (As := []) (rest := []) hx hb hml hown hts hl.1 hK (c_X7_thrown l D (r + 206) _ _ _ _ _ _) (gaV qM_L_93 qI_X7_thrown qS_X7_thrown qK_X7 qC_X7_thrown) hdv_X7_thrown ⟨(Nat.le_of_ble_eq_true rfl), (Nat.le_of_ble_eq_true rfl)⟩ hM (hM.recv hK) rfl (Nat.le_of_ble_eq_true rfl) ⟨by show cells + 1 ≤ 601024; omega, by show slots + 6 ≤ 7293034; omega⟩ dL_law_378 hS hA2 (fun H locs hM hz hq hS => ?_)
  have hG := hG.kept (fun q h => hq q (hG.lt h) (fun h2 => by have := h.2; have := h2.1; omega))
  have hO := Ou.kept hO (hq _ hO.lt (fun h2 => by have := h2.2; omega))
  refine lv_iload hx hb dL_law_381 (lv_at hl 1 rfl) ?_
  refine lv_icmp_eq (tgt := 388) hx hb dL_law_383 (by decide) (fun cA => ?_) (fun cA => absurd u1.symm cA)
  refine lv_iload hx hb dL_law_388 (lv_at hl 1 rfl) ?_
  have fin : ∀ (ls : Array Slot), lv_has ls 9 [(6, .int (fR_X7_clearRoute P V Fm (xs (i + 1)))), (5, .int (kq 3 (fE_X6_clearRoute C G n (xs (i + 1))))), (0, .ref b), (1, .ref r), (2, .ref (r + 206)), (3, .ref (r + 211)), (4, .int (nI i))] → W p l e room_1 s m args below meth c H locs (cells + 1) (slots + 6) Q (F0 m 405 ls []) := fun ls hl => by
    refine lv_goto (tgt := 1632) hx hb dL_law_405 (by decide) ?_
    exact kk _ _ _ 1 6 (by omega) (by omega) ⟨_, _, _, _, _, _, _, _, _, _, _, _, _, _, _, _, hG, hM, hO, u3⟩ hS (lv_sub hl [2, 3, 4, 5, 6] rfl)
  refine lv_if_ne (tgt := 405) hx hb dL_law_390 (by decide) (fun cB => fin ls hl) (fun cB => ?_)
  have e0 : fE_X6_clearRoute C G n (xs (i + 1)) = 0 := kq_0 cB
  refine lv_aload_n hx hb dL_law_393 rfl (lv_at hl 5 rfl) ?_
  refine lv_iconst (v := 0) hx hb dL_law_394 (by decide) ?_
  refine topN (n := 0) rfl ?_
  refine lwO hx hb hK hO dL_law_395 ?_
  refine lv_iload hx hb dL_law_396 (lv_at hl 0 rfl) ?_
  refine lv_i2l (v := (fR_X7_clearRoute P V Fm (xs (i + 1))).toInt64) hx hb dL_law_398 rfl ?_
  refine W.lcmp hx hb dL_law_399 ?_
  refine lv_if_eq (tgt := 405) hx hb dL_law_400 (by decide) (fun _ => fin ls hl) (fun cC => absurd ?_ cC)
  rw [e0, ou_0, u2 e0]
  exact lgc_self
theorem law_exchange {p : Program} {l : Launch} {e : Env} {s : State} {m : MethodId} {args : Array Value} {below : List Frame} {meth : Method} {c : Code} {H : Heap} {locs : List Loc} {cells slots : Nat} {Q : State → Prop} {ls : Array Slot} {D : va_G} {b L r i : Nat} {xs : Nat → Int32} (hl0 : l.stackTraces = false) (hx : p.tables.exec = Jvm.exec) (hb : c.code = cL_law) (hml : c.maxLocals = 9) (hown : s.vm.findClass RL = some m.cls) (hts : ∀ w ∈ AW, w.before args s = true) (hK : Kn D s) (hKx : Kx r s) (hX : va_X b L xs s s.heap) (hbl : b < r) (hsz : s.heap.size = r) (hL : L ≤ 2560) (hi : i + 5 ≤ L) (hc1 : cells + 4 ≤ 601024) (hc2 : slots + 24 ≤ 7293034) (hS : va_S (fun q => r ≤ q) s.heap H locs) (hl : lv_has ls 9 [(0, .ref b), (1, .ref r), (2, .ref (r + 206)), (3, .ref (r + 211)), (4, .int (nI i))]) (hI : LI D r H)
    (kk : ∀ (H1 : Heap) (locs1 : List Loc) (ls1 : Array Slot) (k1 k2 : Nat), k1 ≤ 4 → k2 ≤ 24 → LI D r H1 → va_S (fun q => r ≤ q) s.heap H1 locs1 → lv_has ls1 9 [(0, .ref b), (1, .ref r), (2, .ref (r + 206)), (3, .ref (r + 211)), (4, .int (nI i))] → W p l e room_1 s m args below meth c H1 locs1 (cells + k1) (slots + k2) Q (F0 m 1632 ls1 [])) : W p l e room_1 s m args below meth c H locs cells slots Q (F0 m 408 ls []) := by
  obtain ⟨C, J, G, n, Y, X, U, Z, F, P, S, V, T, Fm, h, O, hG, hM, hO, hR⟩ := hI
  have hr0 : ∀ q, (fun q => r ≤ q) q → r ≤ q := fun _ h => h
  have hA1 : ∀ q, inH r (r + 211) q → r ≤ q := fun q h => h.elim (fun h => h.1) (fun h => by omega)
  have hA2 : ∀ q, inM (r + 206) q → r ≤ q := fun q h => by have := h.1; omega
  have hA3 : ∀ q, inS r q → r ≤ q := fun q h => h.1
  obtain ⟨u1, u2, u3⟩ := M_exchange  (pl := xs (i + 1)) (x := xs (i + 2)) hR
  refine lv_aload_n hx hb dL_law_408 rfl (lv_at hl 1 rfl) ?_
  refine lv_aload_n hx hb dL_law_409 rfl (lv_at hl 0 rfl) ?_
  refine lv_iload hx hb dL_law_410 (lv_at hl 4 rfl) ?_
  refine lv_iconst (v := 1) hx hb dL_law_412 (by decide) ?_
  refine iaddN (a := i) (b := 1) hx hb dL_law_413 ?_
  refine lwX (i := i + 1) hx hb hX hbl hsz hS (by omega) (by omega) dL_law_414 ?_
  refine lv_aload_n hx hb dL_law_415 rfl (lv_at hl 0 rfl) ?_
  refine lv_iload hx hb dL_law_416 (lv_at hl 4 rfl) ?_
  refine lv_iconst (v := 2) hx hb dL_law_418 (by decide) ?_
  refine iaddN (a := i) (b := 2) hx hb dL_law_419 ?_
  refine lwX (i := i + 2) hx hb hX hbl hsz hS (by omega) (by omega) dL_law_420 ?_
  refine lv_aload_n hx hb dL_law_421 rfl (lv_at hl 3 rfl) ?_
  refine lwS (As := [.ref r, .int (xs (i + 1)), .int (xs (i + 2)), .ref (r + 211)]) (rest := []) hx hb hml hown hts hl.1 hK hKx hr0 (c_L_exchange l hl0 D r (r + 211) (by omega) C J G n Y X U Z F O (xs (i + 1)) (xs (i + 2)) hR.1.okN hR.n4 hR.1.okQ) (gHS qM_L_106 qT_L_exchange qK_L qC_L_exchange) hds_L_exchange ⟨(Nat.le_of_ble_eq_true rfl), (Nat.le_of_ble_eq_true rfl)⟩ ⟨hG, hO⟩ rfl (Nat.le_of_ble_eq_true rfl) ⟨by show cells + 3 ≤ 601024; omega, by show slots + 18 ≤ 7293034; omega⟩ dL_law_422 hS hA1 (fun H locs hP hz hq hS => ?_)
  obtain ⟨hG, hO⟩ := hP
  have hM := hM.kept (fun q h => hq q (hM.lt h) (fun h2 => by rcases h2 with h2 | h2 <;> (have := h.1; have := h.2) <;> (try have := h2.2) <;> omega))
  refine lv_istore (lv' := [(5, .int (kq 3 (fE_X6_exchange C G n (xs (i + 1)) (xs (i + 2))))), (0, .ref b), (1, .ref r), (2, .ref (r + 206)), (3, .ref (r + 211)), (4, .int (nI i))]) hx hb dL_law_425 hl (by decide) rfl (fun ls hl => ?_)
  refine lv_aload_n hx hb dL_law_427 rfl (lv_at hl 3 rfl) ?_
  refine lv_aload_n hx hb dL_law_428 rfl (lv_at hl 1 rfl) ?_
  refine lv_iload hx hb dL_law_429 (lv_at hl 5 rfl) ?_
  refine lv_iconst (v := 1) hx hb dL_law_431 (by decide) ?_
  refine iaddN (a := i) (b := 1) hx hb dL_law_432 ?_
  refine lwX (i := i + 1) hx hb hX hbl hsz hS (by omega) (by omega) dL_law_433 ?_
  refine lv_aload_n hx hb dL_law_434 rfl (lv_at hl 1 rfl) ?_
  refine lv_iload hx hb dL_law_435 (lv_at hl 5 rfl) ?_
  refine lv_iconst (v := 2) hx hb dL_law_437 (by decide) ?_
  refine iaddN (a := i) (b := 2) hx hb dL_law_438 ?_
  refine lwX (i := i + 2) hx hb hX hbl hsz hS (by omega) (by omega) dL_law_439 ?_
  refine gcVi (As := [.int (xs (i + 1)), .int (xs (i + 2))]) (rest := []) hx hb hml hown hts hl.1 hK (c_X7_exchange l D (r + 206) P S V T Fm h (xs (i + 1)) (xs (i + 2)) hR.1.2.2.oN hR.2.1 (fun q hq => (hR.1.2.2.2.1 q hq).1)) (gaV qM_L_108 qI_X7_exchange qS_X7_exchange qK_X7 qC_X7_exchange) hdv_X7_exchange ⟨(Nat.le_of_ble_eq_true rfl), (Nat.le_of_ble_eq_true rfl)⟩ hM (hM.recv hK) rfl (Nat.le_of_ble_eq_true rfl) ⟨by show cells + 3 ≤ 601024; omega, by show slots + 18 ≤ 7293034; omega⟩ dL_law_440 hS hA2 (fun H locs hM hz hq hS => ?_)
  have hG := hG.kept (fun q h => hq q (hG.lt h) (fun h2 => by have := h.2; have := h2.1; omega))
  have hO := Ou.kept hO (hq _ hO.lt (fun h2 => by have := h2.2; omega))
  refine lv_istore (lv' := [(6, .int (fR_X7_exchange P V Fm (xs (i + 1)) (xs (i + 2)))), (5, .int (kq 3 (fE_X6_exchange C G n (xs (i + 1)) (xs (i + 2))))), (0, .ref b), (1, .ref r), (2, .ref (r + 206)), (3, .ref (r + 211)), (4, .int (nI i))]) hx hb dL_law_443 hl (by decide) rfl (fun ls hl => ?_)
  refine lv_aload_n hx hb dL_law_445 rfl (lv_at hl 4 rfl) ?_
  refine gcVi (As := []) (rest := []) hx hb hml hown hts hl.1 hK (c_X7_thrown l D (r + 206) _ _ _ _ _ _) (gaV qM_L_93 qI_X7_thrown qS_X7_thrown qK_X7 qC_X7_thrown) hdv_X7_thrown ⟨(Nat.le_of_ble_eq_true rfl), (Nat.le_of_ble_eq_true rfl)⟩ hM (hM.recv hK) rfl (Nat.le_of_ble_eq_true rfl) ⟨by show cells + 3 ≤ 601024; omega, by show slots + 18 ≤ 7293034; omega⟩ dL_law_446 hS hA2 (fun H locs hM hz hq hS => ?_)
  have hG := hG.kept (fun q h => hq q (hG.lt h) (fun h2 => by have := h.2; have := h2.1; omega))
  have hO := Ou.kept hO (hq _ hO.lt (fun h2 => by have := h2.2; omega))
  refine lv_iload hx hb dL_law_449 (lv_at hl 1 rfl) ?_
  refine lv_icmp_eq (tgt := 456) hx hb dL_law_451 (by decide) (fun cA => ?_) (fun cA => absurd u1.symm cA)
  refine lv_iload hx hb dL_law_456 (lv_at hl 1 rfl) ?_
  have fin : ∀ (ls : Array Slot), lv_has ls 9 [(6, .int (fR_X7_exchange P V Fm (xs (i + 1)) (xs (i + 2)))), (5, .int (kq 3 (fE_X6_exchange C G n (xs (i + 1)) (xs (i + 2))))), (0, .ref b), (1, .ref r), (2, .ref (r + 206)), (3, .ref (r + 211)), (4, .int (nI i))] → W p l e room_1 s m args below meth c H locs (cells + 3) (slots + 18) Q (F0 m 473 ls []) := fun ls hl => by
    refine lv_goto (tgt := 1632) hx hb dL_law_473 (by decide) ?_
    exact kk _ _ _ 3 18 (by omega) (by omega) ⟨_, _, _, _, _, _, _, _, _, _, _, _, _, _, _, _, hG, hM, hO, u3⟩ hS (lv_sub hl [2, 3, 4, 5, 6] rfl)
  refine lv_if_ne (tgt := 473) hx hb dL_law_458 (by decide) (fun cB => fin ls hl) (fun cB => ?_)
  have e0 : fE_X6_exchange C G n (xs (i + 1)) (xs (i + 2)) = 0 := kq_0 cB
  refine lv_aload_n hx hb dL_law_461 rfl (lv_at hl 5 rfl) ?_
  refine lv_iconst (v := 0) hx hb dL_law_462 (by decide) ?_
  refine topN (n := 0) rfl ?_
  refine lwO hx hb hK hO dL_law_463 ?_
  refine lv_iload hx hb dL_law_464 (lv_at hl 0 rfl) ?_
  refine lv_i2l (v := (fR_X7_exchange P V Fm (xs (i + 1)) (xs (i + 2))).toInt64) hx hb dL_law_466 rfl ?_
  refine W.lcmp hx hb dL_law_467 ?_
  refine lv_if_eq (tgt := 473) hx hb dL_law_468 (by decide) (fun _ => fin ls hl) (fun cC => absurd ?_ cC)
  rw [e0, ou_0, u2 e0]
  exact lgc_self
theorem law_setTerms {p : Program} {l : Launch} {e : Env} {s : State} {m : MethodId} {args : Array Value} {below : List Frame} {meth : Method} {c : Code} {H : Heap} {locs : List Loc} {cells slots : Nat} {Q : State → Prop} {ls : Array Slot} {D : va_G} {b L r i : Nat} {xs : Nat → Int32} (hl0 : l.stackTraces = false) (hx : p.tables.exec = Jvm.exec) (hb : c.code = cL_law) (hml : c.maxLocals = 9) (hown : s.vm.findClass RL = some m.cls) (hts : ∀ w ∈ AW, w.before args s = true) (hK : Kn D s) (hKx : Kx r s) (hX : va_X b L xs s s.heap) (hbl : b < r) (hsz : s.heap.size = r) (hL : L ≤ 2560) (hi : i + 5 ≤ L) (hc1 : cells + 4 ≤ 601024) (hc2 : slots + 24 ≤ 7293034) (hS : va_S (fun q => r ≤ q) s.heap H locs) (hl : lv_has ls 9 [(0, .ref b), (1, .ref r), (2, .ref (r + 206)), (3, .ref (r + 211)), (4, .int (nI i))]) (hI : LI D r H)
    (kk : ∀ (H1 : Heap) (locs1 : List Loc) (ls1 : Array Slot) (k1 k2 : Nat), k1 ≤ 4 → k2 ≤ 24 → LI D r H1 → va_S (fun q => r ≤ q) s.heap H1 locs1 → lv_has ls1 9 [(0, .ref b), (1, .ref r), (2, .ref (r + 206)), (3, .ref (r + 211)), (4, .int (nI i))] → W p l e room_1 s m args below meth c H1 locs1 (cells + k1) (slots + k2) Q (F0 m 1632 ls1 [])) : W p l e room_1 s m args below meth c H locs cells slots Q (F0 m 476 ls []) := by
  obtain ⟨C, J, G, n, Y, X, U, Z, F, P, S, V, T, Fm, h, O, hG, hM, hO, hR⟩ := hI
  have hr0 : ∀ q, (fun q => r ≤ q) q → r ≤ q := fun _ h => h
  have hA1 : ∀ q, inH r (r + 211) q → r ≤ q := fun q h => h.elim (fun h => h.1) (fun h => by omega)
  have hA2 : ∀ q, inM (r + 206) q → r ≤ q := fun q h => by have := h.1; omega
  have hA3 : ∀ q, inS r q → r ≤ q := fun q h => h.1
  obtain ⟨u1, u2, u3⟩ := M_setTerms  (pri := xs (i + 1)) (tr := xs (i + 2)) (li := xs (i + 3)) (cr := xs (i + 4)) hR
  refine lv_aload_n hx hb dL_law_476 rfl (lv_at hl 1 rfl) ?_
  refine lv_aload_n hx hb dL_law_477 rfl (lv_at hl 0 rfl) ?_
  refine lv_iload hx hb dL_law_478 (lv_at hl 4 rfl) ?_
  refine lv_iconst (v := 1) hx hb dL_law_480 (by decide) ?_
  refine iaddN (a := i) (b := 1) hx hb dL_law_481 ?_
  refine lwX (i := i + 1) hx hb hX hbl hsz hS (by omega) (by omega) dL_law_482 ?_
  refine lv_aload_n hx hb dL_law_483 rfl (lv_at hl 0 rfl) ?_
  refine lv_iload hx hb dL_law_484 (lv_at hl 4 rfl) ?_
  refine lv_iconst (v := 2) hx hb dL_law_486 (by decide) ?_
  refine iaddN (a := i) (b := 2) hx hb dL_law_487 ?_
  refine lwX (i := i + 2) hx hb hX hbl hsz hS (by omega) (by omega) dL_law_488 ?_
  refine lv_aload_n hx hb dL_law_489 rfl (lv_at hl 0 rfl) ?_
  refine lv_iload hx hb dL_law_490 (lv_at hl 4 rfl) ?_
  refine lv_iconst (v := 3) hx hb dL_law_492 (by decide) ?_
  refine iaddN (a := i) (b := 3) hx hb dL_law_493 ?_
  refine lwX (i := i + 3) hx hb hX hbl hsz hS (by omega) (by omega) dL_law_494 ?_
  refine lv_aload_n hx hb dL_law_495 rfl (lv_at hl 0 rfl) ?_
  refine lv_iload hx hb dL_law_496 (lv_at hl 4 rfl) ?_
  refine lv_iconst (v := 4) hx hb dL_law_498 (by decide) ?_
  refine iaddN (a := i) (b := 4) hx hb dL_law_499 ?_
  refine lwX (i := i + 4) hx hb hX hbl hsz hS (by omega) (by omega) dL_law_500 ?_
  refine lv_aload_n hx hb dL_law_501 rfl (lv_at hl 3 rfl) ?_
  refine lwS (As := [.ref r, .int (xs (i + 1)), .int (xs (i + 2)), .int (xs (i + 3)), .int (xs (i + 4)), .ref (r + 211)]) (rest := []) hx hb hml hown hts hl.1 hK hKx hr0 (c_L_setTerms l hl0 D r (r + 211) (by omega) C J G n Y X U Z F O (xs (i + 1)) (xs (i + 2)) (xs (i + 3)) (xs (i + 4)) hR.1.okN hR.n4) (gHS qM_L_109 qT_L_setTerms qK_L qC_L_setTerms) hds_L_setTerms ⟨(Nat.le_of_ble_eq_true rfl), (Nat.le_of_ble_eq_true rfl)⟩ ⟨hG, hO⟩ rfl (Nat.le_of_ble_eq_true rfl) ⟨by show cells + 4 ≤ 601024; omega, by show slots + 24 ≤ 7293034; omega⟩ dL_law_502 hS hA1 (fun H locs hP hz hq hS => ?_)
  obtain ⟨hG, hO⟩ := hP
  have hM := hM.kept (fun q h => hq q (hM.lt h) (fun h2 => by rcases h2 with h2 | h2 <;> (have := h.1; have := h.2) <;> (try have := h2.2) <;> omega))
  refine lv_istore (lv' := [(5, .int (kq 3 (fE_X6_setTerms C G n (xs (i + 1)) (xs (i + 2)) (xs (i + 3)) (xs (i + 4))))), (0, .ref b), (1, .ref r), (2, .ref (r + 206)), (3, .ref (r + 211)), (4, .int (nI i))]) hx hb dL_law_505 hl (by decide) rfl (fun ls hl => ?_)
  refine lv_aload_n hx hb dL_law_507 rfl (lv_at hl 3 rfl) ?_
  refine lv_aload_n hx hb dL_law_508 rfl (lv_at hl 1 rfl) ?_
  refine lv_iload hx hb dL_law_509 (lv_at hl 5 rfl) ?_
  refine lv_iconst (v := 1) hx hb dL_law_511 (by decide) ?_
  refine iaddN (a := i) (b := 1) hx hb dL_law_512 ?_
  refine lwX (i := i + 1) hx hb hX hbl hsz hS (by omega) (by omega) dL_law_513 ?_
  refine lv_aload_n hx hb dL_law_514 rfl (lv_at hl 1 rfl) ?_
  refine lv_iload hx hb dL_law_515 (lv_at hl 5 rfl) ?_
  refine lv_iconst (v := 2) hx hb dL_law_517 (by decide) ?_
  refine iaddN (a := i) (b := 2) hx hb dL_law_518 ?_
  refine lwX (i := i + 2) hx hb hX hbl hsz hS (by omega) (by omega) dL_law_519 ?_
  refine lv_aload_n hx hb dL_law_520 rfl (lv_at hl 1 rfl) ?_
  refine lv_iload hx hb dL_law_521 (lv_at hl 5 rfl) ?_
  refine lv_iconst (v := 3) hx hb dL_law_523 (by decide) ?_
  refine iaddN (a := i) (b := 3) hx hb dL_law_524 ?_
  refine lwX (i := i + 3) hx hb hX hbl hsz hS (by omega) (by omega) dL_law_525 ?_
  refine lv_aload_n hx hb dL_law_526 rfl (lv_at hl 1 rfl) ?_
  refine lv_iload hx hb dL_law_527 (lv_at hl 5 rfl) ?_
  refine lv_iconst (v := 4) hx hb dL_law_529 (by decide) ?_
  refine iaddN (a := i) (b := 4) hx hb dL_law_530 ?_
  refine lwX (i := i + 4) hx hb hX hbl hsz hS (by omega) (by omega) dL_law_531 ?_
  refine gcVi (As := [.int (xs (i + 1)), .int (xs (i + 2)), .int (xs (i + 3)), .int (xs (i + 4))]) (rest := []) hx hb hml hown hts hl.1 hK (c_X7_setTerms l D (r + 206) P S V T Fm h (xs (i + 1)) (xs (i + 2)) (xs (i + 3)) (xs (i + 4)) hR.2.1) (gaV qM_L_112 qI_X7_setTerms qS_X7_setTerms qK_X7 qC_X7_setTerms) hdv_X7_setTerms ⟨(Nat.le_of_ble_eq_true rfl), (Nat.le_of_ble_eq_true rfl)⟩ hM (hM.recv hK) rfl (Nat.le_of_ble_eq_true rfl) ⟨by show cells + 4 ≤ 601024; omega, by show slots + 24 ≤ 7293034; omega⟩ dL_law_532 hS hA2 (fun H locs hM hz hq hS => ?_)
  have hG := hG.kept (fun q h => hq q (hG.lt h) (fun h2 => by have := h.2; have := h2.1; omega))
  have hO := Ou.kept hO (hq _ hO.lt (fun h2 => by have := h2.2; omega))
  refine lv_istore (lv' := [(6, .int (fR_X7_setTerms P V Fm (xs (i + 1)) (xs (i + 2)) (xs (i + 3)) (xs (i + 4)))), (5, .int (kq 3 (fE_X6_setTerms C G n (xs (i + 1)) (xs (i + 2)) (xs (i + 3)) (xs (i + 4))))), (0, .ref b), (1, .ref r), (2, .ref (r + 206)), (3, .ref (r + 211)), (4, .int (nI i))]) hx hb dL_law_535 hl (by decide) rfl (fun ls hl => ?_)
  refine lv_aload_n hx hb dL_law_537 rfl (lv_at hl 4 rfl) ?_
  refine gcVi (As := []) (rest := []) hx hb hml hown hts hl.1 hK (c_X7_thrown l D (r + 206) _ _ _ _ _ _) (gaV qM_L_93 qI_X7_thrown qS_X7_thrown qK_X7 qC_X7_thrown) hdv_X7_thrown ⟨(Nat.le_of_ble_eq_true rfl), (Nat.le_of_ble_eq_true rfl)⟩ hM (hM.recv hK) rfl (Nat.le_of_ble_eq_true rfl) ⟨by show cells + 4 ≤ 601024; omega, by show slots + 24 ≤ 7293034; omega⟩ dL_law_538 hS hA2 (fun H locs hM hz hq hS => ?_)
  have hG := hG.kept (fun q h => hq q (hG.lt h) (fun h2 => by have := h.2; have := h2.1; omega))
  have hO := Ou.kept hO (hq _ hO.lt (fun h2 => by have := h2.2; omega))
  refine lv_iload hx hb dL_law_541 (lv_at hl 1 rfl) ?_
  refine lv_icmp_eq (tgt := 548) hx hb dL_law_543 (by decide) (fun cA => ?_) (fun cA => absurd u1.symm cA)
  refine lv_iload hx hb dL_law_548 (lv_at hl 1 rfl) ?_
  have fin : ∀ (ls : Array Slot), lv_has ls 9 [(6, .int (fR_X7_setTerms P V Fm (xs (i + 1)) (xs (i + 2)) (xs (i + 3)) (xs (i + 4)))), (5, .int (kq 3 (fE_X6_setTerms C G n (xs (i + 1)) (xs (i + 2)) (xs (i + 3)) (xs (i + 4))))), (0, .ref b), (1, .ref r), (2, .ref (r + 206)), (3, .ref (r + 211)), (4, .int (nI i))] → W p l e room_1 s m args below meth c H locs (cells + 4) (slots + 24) Q (F0 m 565 ls []) := fun ls hl => by
    refine lv_goto (tgt := 1632) hx hb dL_law_565 (by decide) ?_
    exact kk _ _ _ 4 24 (by omega) (by omega) ⟨_, _, _, _, _, _, _, _, _, _, _, _, _, _, _, _, hG, hM, hO, u3⟩ hS (lv_sub hl [2, 3, 4, 5, 6] rfl)
  refine lv_if_ne (tgt := 565) hx hb dL_law_550 (by decide) (fun cB => fin ls hl) (fun cB => ?_)
  have e0 : fE_X6_setTerms C G n (xs (i + 1)) (xs (i + 2)) (xs (i + 3)) (xs (i + 4)) = 0 := kq_0 cB
  refine lv_aload_n hx hb dL_law_553 rfl (lv_at hl 5 rfl) ?_
  refine lv_iconst (v := 0) hx hb dL_law_554 (by decide) ?_
  refine topN (n := 0) rfl ?_
  refine lwO hx hb hK hO dL_law_555 ?_
  refine lv_iload hx hb dL_law_556 (lv_at hl 0 rfl) ?_
  refine lv_i2l (v := (fR_X7_setTerms P V Fm (xs (i + 1)) (xs (i + 2)) (xs (i + 3)) (xs (i + 4))).toInt64) hx hb dL_law_558 rfl ?_
  refine W.lcmp hx hb dL_law_559 ?_
  refine lv_if_eq (tgt := 565) hx hb dL_law_560 (by decide) (fun _ => fin ls hl) (fun cC => absurd ?_ cC)
  rw [e0, ou_0, u2 e0]
  exact lgc_self
theorem law_setSpread {p : Program} {l : Launch} {e : Env} {s : State} {m : MethodId} {args : Array Value} {below : List Frame} {meth : Method} {c : Code} {H : Heap} {locs : List Loc} {cells slots : Nat} {Q : State → Prop} {ls : Array Slot} {D : va_G} {b L r i : Nat} {xs : Nat → Int32} (hl0 : l.stackTraces = false) (hx : p.tables.exec = Jvm.exec) (hb : c.code = cL_law) (hml : c.maxLocals = 9) (hown : s.vm.findClass RL = some m.cls) (hts : ∀ w ∈ AW, w.before args s = true) (hK : Kn D s) (hKx : Kx r s) (hX : va_X b L xs s s.heap) (hbl : b < r) (hsz : s.heap.size = r) (hL : L ≤ 2560) (hi : i + 5 ≤ L) (hc1 : cells + 4 ≤ 601024) (hc2 : slots + 24 ≤ 7293034) (hS : va_S (fun q => r ≤ q) s.heap H locs) (hl : lv_has ls 9 [(0, .ref b), (1, .ref r), (2, .ref (r + 206)), (3, .ref (r + 211)), (4, .int (nI i))]) (hI : LI D r H)
    (kk : ∀ (H1 : Heap) (locs1 : List Loc) (ls1 : Array Slot) (k1 k2 : Nat), k1 ≤ 4 → k2 ≤ 24 → LI D r H1 → va_S (fun q => r ≤ q) s.heap H1 locs1 → lv_has ls1 9 [(0, .ref b), (1, .ref r), (2, .ref (r + 206)), (3, .ref (r + 211)), (4, .int (nI i))] → W p l e room_1 s m args below meth c H1 locs1 (cells + k1) (slots + k2) Q (F0 m 1632 ls1 [])) : W p l e room_1 s m args below meth c H locs cells slots Q (F0 m 568 ls []) := by
  obtain ⟨C, J, G, n, Y, X, U, Z, F, P, S, V, T, Fm, h, O, hG, hM, hO, hR⟩ := hI
  have hr0 : ∀ q, (fun q => r ≤ q) q → r ≤ q := fun _ h => h
  have hA1 : ∀ q, inH r (r + 211) q → r ≤ q := fun q h => h.elim (fun h => h.1) (fun h => by omega)
  have hA2 : ∀ q, inM (r + 206) q → r ≤ q := fun q h => by have := h.1; omega
  have hA3 : ∀ q, inS r q → r ≤ q := fun q h => h.1
  obtain ⟨u1, u2, u3⟩ := M_setSpread  (sp := xs (i + 1)) hR
  refine lv_aload_n hx hb dL_law_568 rfl (lv_at hl 1 rfl) ?_
  refine lv_aload_n hx hb dL_law_569 rfl (lv_at hl 0 rfl) ?_
  refine lv_iload hx hb dL_law_570 (lv_at hl 4 rfl) ?_
  refine lv_iconst (v := 1) hx hb dL_law_572 (by decide) ?_
  refine iaddN (a := i) (b := 1) hx hb dL_law_573 ?_
  refine lwX (i := i + 1) hx hb hX hbl hsz hS (by omega) (by omega) dL_law_574 ?_
  refine lv_aload_n hx hb dL_law_575 rfl (lv_at hl 3 rfl) ?_
  refine lwS (As := [.ref r, .int (xs (i + 1)), .ref (r + 211)]) (rest := []) hx hb hml hown hts hl.1 hK hKx hr0 (c_L_setSpread l hl0 D r (r + 211) (by omega) C J G n Y X U Z F O (xs (i + 1)) hR.1.okN hR.n4) (gHS qM_L_113 qT_L_setSpread qK_L qC_L_setSpread) hds_L_setSpread ⟨(Nat.le_of_ble_eq_true rfl), (Nat.le_of_ble_eq_true rfl)⟩ ⟨hG, hO⟩ rfl (Nat.le_of_ble_eq_true rfl) ⟨by show cells + 1 ≤ 601024; omega, by show slots + 6 ≤ 7293034; omega⟩ dL_law_576 hS hA1 (fun H locs hP hz hq hS => ?_)
  obtain ⟨hG, hO⟩ := hP
  have hM := hM.kept (fun q h => hq q (hM.lt h) (fun h2 => by rcases h2 with h2 | h2 <;> (have := h.1; have := h.2) <;> (try have := h2.2) <;> omega))
  refine lv_istore (lv' := [(5, .int (kq 1 (fE_X6_setSpread C G n (xs (i + 1))))), (0, .ref b), (1, .ref r), (2, .ref (r + 206)), (3, .ref (r + 211)), (4, .int (nI i))]) hx hb dL_law_579 hl (by decide) rfl (fun ls hl => ?_)
  refine lv_aload_n hx hb dL_law_581 rfl (lv_at hl 3 rfl) ?_
  refine lv_aload_n hx hb dL_law_582 rfl (lv_at hl 1 rfl) ?_
  refine lv_iload hx hb dL_law_583 (lv_at hl 5 rfl) ?_
  refine lv_iconst (v := 1) hx hb dL_law_585 (by decide) ?_
  refine iaddN (a := i) (b := 1) hx hb dL_law_586 ?_
  refine lwX (i := i + 1) hx hb hX hbl hsz hS (by omega) (by omega) dL_law_587 ?_
  refine gcVi (As := [.int (xs (i + 1))]) (rest := []) hx hb hml hown hts hl.1 hK (c_X7_setSpread l D (r + 206) P S V T Fm h (xs (i + 1)) hR.2.1) (gaV qM_L_115 qI_X7_setSpread qS_X7_setSpread qK_X7 qC_X7_setSpread) hdv_X7_setSpread ⟨(Nat.le_of_ble_eq_true rfl), (Nat.le_of_ble_eq_true rfl)⟩ hM (hM.recv hK) rfl (Nat.le_of_ble_eq_true rfl) ⟨by show cells + 1 ≤ 601024; omega, by show slots + 6 ≤ 7293034; omega⟩ dL_law_588 hS hA2 (fun H locs hM hz hq hS => ?_)
  have hG := hG.kept (fun q h => hq q (hG.lt h) (fun h2 => by have := h.2; have := h2.1; omega))
  have hO := Ou.kept hO (hq _ hO.lt (fun h2 => by have := h2.2; omega))
  refine lv_istore (lv' := [(6, .int (fR_X7_setSpread P V Fm (xs (i + 1)))), (5, .int (kq 1 (fE_X6_setSpread C G n (xs (i + 1))))), (0, .ref b), (1, .ref r), (2, .ref (r + 206)), (3, .ref (r + 211)), (4, .int (nI i))]) hx hb dL_law_591 hl (by decide) rfl (fun ls hl => ?_)
  refine lv_aload_n hx hb dL_law_593 rfl (lv_at hl 4 rfl) ?_
  refine gcVi (As := []) (rest := []) hx hb hml hown hts hl.1 hK (c_X7_thrown l D (r + 206) _ _ _ _ _ _) (gaV qM_L_93 qI_X7_thrown qS_X7_thrown qK_X7 qC_X7_thrown) hdv_X7_thrown ⟨(Nat.le_of_ble_eq_true rfl), (Nat.le_of_ble_eq_true rfl)⟩ hM (hM.recv hK) rfl (Nat.le_of_ble_eq_true rfl) ⟨by show cells + 1 ≤ 601024; omega, by show slots + 6 ≤ 7293034; omega⟩ dL_law_594 hS hA2 (fun H locs hM hz hq hS => ?_)
  have hG := hG.kept (fun q h => hq q (hG.lt h) (fun h2 => by have := h.2; have := h2.1; omega))
  have hO := Ou.kept hO (hq _ hO.lt (fun h2 => by have := h2.2; omega))
  refine lv_iload hx hb dL_law_597 (lv_at hl 1 rfl) ?_
  refine lv_icmp_eq (tgt := 604) hx hb dL_law_599 (by decide) (fun cA => ?_) (fun cA => absurd u1.symm cA)
  refine lv_iload hx hb dL_law_604 (lv_at hl 1 rfl) ?_
  have fin : ∀ (ls : Array Slot), lv_has ls 9 [(6, .int (fR_X7_setSpread P V Fm (xs (i + 1)))), (5, .int (kq 1 (fE_X6_setSpread C G n (xs (i + 1))))), (0, .ref b), (1, .ref r), (2, .ref (r + 206)), (3, .ref (r + 211)), (4, .int (nI i))] → W p l e room_1 s m args below meth c H locs (cells + 1) (slots + 6) Q (F0 m 621 ls []) := fun ls hl => by
    refine lv_goto (tgt := 1632) hx hb dL_law_621 (by decide) ?_
    exact kk _ _ _ 1 6 (by omega) (by omega) ⟨_, _, _, _, _, _, _, _, _, _, _, _, _, _, _, _, hG, hM, hO, u3⟩ hS (lv_sub hl [2, 3, 4, 5, 6] rfl)
  refine lv_if_ne (tgt := 621) hx hb dL_law_606 (by decide) (fun cB => fin ls hl) (fun cB => ?_)
  have e0 : fE_X6_setSpread C G n (xs (i + 1)) = 0 := kq_0 cB
  refine lv_aload_n hx hb dL_law_609 rfl (lv_at hl 5 rfl) ?_
  refine lv_iconst (v := 0) hx hb dL_law_610 (by decide) ?_
  refine topN (n := 0) rfl ?_
  refine lwO hx hb hK hO dL_law_611 ?_
  refine lv_iload hx hb dL_law_612 (lv_at hl 0 rfl) ?_
  refine lv_i2l (v := (fR_X7_setSpread P V Fm (xs (i + 1))).toInt64) hx hb dL_law_614 rfl ?_
  refine W.lcmp hx hb dL_law_615 ?_
  refine lv_if_eq (tgt := 621) hx hb dL_law_616 (by decide) (fun _ => fin ls hl) (fun cC => absurd ?_ cC)
  rw [e0, ou_0, u2 e0]
  exact lgc_self
theorem law_deliver {p : Program} {l : Launch} {e : Env} {s : State} {m : MethodId} {args : Array Value} {below : List Frame} {meth : Method} {c : Code} {H : Heap} {locs : List Loc} {cells slots : Nat} {Q : State → Prop} {ls : Array Slot} {D : va_G} {b L r i : Nat} {xs : Nat → Int32} (hl0 : l.stackTraces = false) (hx : p.tables.exec = Jvm.exec) (hb : c.code = cL_law) (hml : c.maxLocals = 9) (hown : s.vm.findClass RL = some m.cls) (hts : ∀ w ∈ AW, w.before args s = true) (hK : Kn D s) (hKx : Kx r s) (hX : va_X b L xs s s.heap) (hbl : b < r) (hsz : s.heap.size = r) (hL : L ≤ 2560) (hi : i + 5 ≤ L) (hc1 : cells + 4 ≤ 601024) (hc2 : slots + 24 ≤ 7293034) (hS : va_S (fun q => r ≤ q) s.heap H locs) (hl : lv_has ls 9 [(0, .ref b), (1, .ref r), (2, .ref (r + 206)), (3, .ref (r + 211)), (4, .int (nI i))]) (hI : LI D r H)
    (kk : ∀ (H1 : Heap) (locs1 : List Loc) (ls1 : Array Slot) (k1 k2 : Nat), k1 ≤ 4 → k2 ≤ 24 → LI D r H1 → va_S (fun q => r ≤ q) s.heap H1 locs1 → lv_has ls1 9 [(0, .ref b), (1, .ref r), (2, .ref (r + 206)), (3, .ref (r + 211)), (4, .int (nI i))] → W p l e room_1 s m args below meth c H1 locs1 (cells + k1) (slots + k2) Q (F0 m 1632 ls1 [])) : W p l e room_1 s m args below meth c H locs cells slots Q (F0 m 624 ls []) := by
  obtain ⟨C, J, G, n, Y, X, U, Z, F, P, S, V, T, Fm, h, O, hG, hM, hO, hR⟩ := hI
  have hr0 : ∀ q, (fun q => r ≤ q) q → r ≤ q := fun _ h => h
  have hA1 : ∀ q, inH r (r + 211) q → r ≤ q := fun q h => h.elim (fun h => h.1) (fun h => by omega)
  have hA2 : ∀ q, inM (r + 206) q → r ≤ q := fun q h => by have := h.1; omega
  have hA3 : ∀ q, inS r q → r ≤ q := fun q h => h.1
  obtain ⟨u1, u2, u3⟩ := M_deliver  (kg := xs (i + 1)) hR
  refine lv_aload_n hx hb dL_law_624 rfl (lv_at hl 1 rfl) ?_
  refine lv_aload_n hx hb dL_law_625 rfl (lv_at hl 0 rfl) ?_
  refine lv_iload hx hb dL_law_626 (lv_at hl 4 rfl) ?_
  refine lv_iconst (v := 1) hx hb dL_law_628 (by decide) ?_
  refine iaddN (a := i) (b := 1) hx hb dL_law_629 ?_
  refine lwX (i := i + 1) hx hb hX hbl hsz hS (by omega) (by omega) dL_law_630 ?_
  refine lv_aload_n hx hb dL_law_631 rfl (lv_at hl 3 rfl) ?_
  refine lwS (As := [.ref r, .int (xs (i + 1)), .ref (r + 211)]) (rest := []) hx hb hml hown hts hl.1 hK hKx hr0 (c_L_deliver l hl0 D r (r + 211) (by omega) C J G n Y X U Z F O (xs (i + 1)) hR.1.okN hR.n4) (gHS qM_L_116 qT_L_deliver qK_L qC_L_deliver) hds_L_deliver ⟨(Nat.le_of_ble_eq_true rfl), (Nat.le_of_ble_eq_true rfl)⟩ ⟨hG, hO⟩ rfl (Nat.le_of_ble_eq_true rfl) ⟨by show cells + 2 ≤ 601024; omega, by show slots + 12 ≤ 7293034; omega⟩ dL_law_632 hS hA1 (fun H locs hP hz hq hS => ?_)
  obtain ⟨hG, hO⟩ := hP
  have hM := hM.kept (fun q h => hq q (hM.lt h) (fun h2 => by rcases h2 with h2 | h2 <;> (have := h.1; have := h.2) <;> (try have := h2.2) <;> omega))
  refine lv_istore (lv' := [(5, .int (kq 1 (fE_X6_deliver C G n (xs (i + 1))))), (0, .ref b), (1, .ref r), (2, .ref (r + 206)), (3, .ref (r + 211)), (4, .int (nI i))]) hx hb dL_law_635 hl (by decide) rfl (fun ls hl => ?_)
  refine lv_aload_n hx hb dL_law_637 rfl (lv_at hl 3 rfl) ?_
  refine lv_aload_n hx hb dL_law_638 rfl (lv_at hl 1 rfl) ?_
  refine lv_iload hx hb dL_law_639 (lv_at hl 5 rfl) ?_
  refine lv_iconst (v := 1) hx hb dL_law_641 (by decide) ?_
  refine iaddN (a := i) (b := 1) hx hb dL_law_642 ?_
  refine lwX (i := i + 1) hx hb hX hbl hsz hS (by omega) (by omega) dL_law_643 ?_
  refine gcVi (As := [.int (xs (i + 1))]) (rest := []) hx hb hml hown hts hl.1 hK (c_X7_deliver l D (r + 206) P S V T Fm h (xs (i + 1)) hR.2.1) (gaV qM_L_118 qI_X7_deliver qS_X7_deliver qK_X7 qC_X7_deliver) hdv_X7_deliver ⟨(Nat.le_of_ble_eq_true rfl), (Nat.le_of_ble_eq_true rfl)⟩ hM (hM.recv hK) rfl (Nat.le_of_ble_eq_true rfl) ⟨by show cells + 2 ≤ 601024; omega, by show slots + 12 ≤ 7293034; omega⟩ dL_law_644 hS hA2 (fun H locs hM hz hq hS => ?_)
  have hG := hG.kept (fun q h => hq q (hG.lt h) (fun h2 => by have := h.2; have := h2.1; omega))
  have hO := Ou.kept hO (hq _ hO.lt (fun h2 => by have := h2.2; omega))
  refine lv_istore (lv' := [(6, .int (fR_X7_deliver P V Fm (xs (i + 1)))), (5, .int (kq 1 (fE_X6_deliver C G n (xs (i + 1))))), (0, .ref b), (1, .ref r), (2, .ref (r + 206)), (3, .ref (r + 211)), (4, .int (nI i))]) hx hb dL_law_647 hl (by decide) rfl (fun ls hl => ?_)
  refine lv_aload_n hx hb dL_law_649 rfl (lv_at hl 4 rfl) ?_
  refine gcVi (As := []) (rest := []) hx hb hml hown hts hl.1 hK (c_X7_thrown l D (r + 206) _ _ _ _ _ _) (gaV qM_L_93 qI_X7_thrown qS_X7_thrown qK_X7 qC_X7_thrown) hdv_X7_thrown ⟨(Nat.le_of_ble_eq_true rfl), (Nat.le_of_ble_eq_true rfl)⟩ hM (hM.recv hK) rfl (Nat.le_of_ble_eq_true rfl) ⟨by show cells + 2 ≤ 601024; omega, by show slots + 12 ≤ 7293034; omega⟩ dL_law_650 hS hA2 (fun H locs hM hz hq hS => ?_)
  have hG := hG.kept (fun q h => hq q (hG.lt h) (fun h2 => by have := h.2; have := h2.1; omega))
  have hO := Ou.kept hO (hq _ hO.lt (fun h2 => by have := h2.2; omega))
  refine lv_iload hx hb dL_law_653 (lv_at hl 1 rfl) ?_
  refine lv_icmp_eq (tgt := 660) hx hb dL_law_655 (by decide) (fun cA => ?_) (fun cA => absurd u1.symm cA)
  refine lv_iload hx hb dL_law_660 (lv_at hl 1 rfl) ?_
  have fin : ∀ (ls : Array Slot), lv_has ls 9 [(6, .int (fR_X7_deliver P V Fm (xs (i + 1)))), (5, .int (kq 1 (fE_X6_deliver C G n (xs (i + 1))))), (0, .ref b), (1, .ref r), (2, .ref (r + 206)), (3, .ref (r + 211)), (4, .int (nI i))] → W p l e room_1 s m args below meth c H locs (cells + 2) (slots + 12) Q (F0 m 677 ls []) := fun ls hl => by
    refine lv_goto (tgt := 1632) hx hb dL_law_677 (by decide) ?_
    exact kk _ _ _ 2 12 (by omega) (by omega) ⟨_, _, _, _, _, _, _, _, _, _, _, _, _, _, _, _, hG, hM, hO, u3⟩ hS (lv_sub hl [2, 3, 4, 5, 6] rfl)
  refine lv_if_ne (tgt := 677) hx hb dL_law_662 (by decide) (fun cB => fin ls hl) (fun cB => ?_)
  have e0 : fE_X6_deliver C G n (xs (i + 1)) = 0 := kq_0 cB
  refine lv_aload_n hx hb dL_law_665 rfl (lv_at hl 5 rfl) ?_
  refine lv_iconst (v := 0) hx hb dL_law_666 (by decide) ?_
  refine topN (n := 0) rfl ?_
  refine lwO hx hb hK hO dL_law_667 ?_
  refine lv_iload hx hb dL_law_668 (lv_at hl 0 rfl) ?_
  refine lv_i2l (v := (fR_X7_deliver P V Fm (xs (i + 1))).toInt64) hx hb dL_law_670 rfl ?_
  refine W.lcmp hx hb dL_law_671 ?_
  refine lv_if_eq (tgt := 677) hx hb dL_law_672 (by decide) (fun _ => fin ls hl) (fun cC => absurd ?_ cC)
  rw [e0, ou_0, u2 e0]
  exact lgc_self
theorem law_run {p : Program} {l : Launch} {e : Env} {s : State} {m : MethodId} {args : Array Value} {below : List Frame} {meth : Method} {c : Code} {H : Heap} {locs : List Loc} {cells slots : Nat} {Q : State → Prop} {ls : Array Slot} {D : va_G} {b L r i : Nat} {xs : Nat → Int32} (hl0 : l.stackTraces = false) (hx : p.tables.exec = Jvm.exec) (hb : c.code = cL_law) (hml : c.maxLocals = 9) (hown : s.vm.findClass RL = some m.cls) (hts : ∀ w ∈ AW, w.before args s = true) (hK : Kn D s) (hKx : Kx r s) (hX : va_X b L xs s s.heap) (hbl : b < r) (hsz : s.heap.size = r) (hL : L ≤ 2560) (hi : i + 5 ≤ L) (hc1 : cells + 4 ≤ 601024) (hc2 : slots + 24 ≤ 7293034) (hS : va_S (fun q => r ≤ q) s.heap H locs) (hl : lv_has ls 9 [(0, .ref b), (1, .ref r), (2, .ref (r + 206)), (3, .ref (r + 211)), (4, .int (nI i))]) (hI : LI D r H)
    (kk : ∀ (H1 : Heap) (locs1 : List Loc) (ls1 : Array Slot) (k1 k2 : Nat), k1 ≤ 4 → k2 ≤ 24 → LI D r H1 → va_S (fun q => r ≤ q) s.heap H1 locs1 → lv_has ls1 9 [(0, .ref b), (1, .ref r), (2, .ref (r + 206)), (3, .ref (r + 211)), (4, .int (nI i))] → W p l e room_1 s m args below meth c H1 locs1 (cells + k1) (slots + k2) Q (F0 m 1632 ls1 [])) : W p l e room_1 s m args below meth c H locs cells slots Q (F0 m 680 ls []) := by
  obtain ⟨C, J, G, n, Y, X, U, Z, F, P, S, V, T, Fm, h, O, hG, hM, hO, hR⟩ := hI
  have hr0 : ∀ q, (fun q => r ≤ q) q → r ≤ q := fun _ h => h
  have hA1 : ∀ q, inH r (r + 211) q → r ≤ q := fun q h => h.elim (fun h => h.1) (fun h => by omega)
  have hA2 : ∀ q, inM (r + 206) q → r ≤ q := fun q h => by have := h.1; omega
  have hA3 : ∀ q, inS r q → r ≤ q := fun q h => h.1
  obtain ⟨u1, u2, u3⟩ := M_run  (tmp := xs (i + 1)) (sn := xs (i + 2)) (hrs := xs (i + 3)) hR
  refine lv_aload_n hx hb dL_law_680 rfl (lv_at hl 1 rfl) ?_
  refine lv_aload_n hx hb dL_law_681 rfl (lv_at hl 0 rfl) ?_
  refine lv_iload hx hb dL_law_682 (lv_at hl 4 rfl) ?_
  refine lv_iconst (v := 1) hx hb dL_law_684 (by decide) ?_
  refine iaddN (a := i) (b := 1) hx hb dL_law_685 ?_
  refine lwX (i := i + 1) hx hb hX hbl hsz hS (by omega) (by omega) dL_law_686 ?_
  refine lv_aload_n hx hb dL_law_687 rfl (lv_at hl 0 rfl) ?_
  refine lv_iload hx hb dL_law_688 (lv_at hl 4 rfl) ?_
  refine lv_iconst (v := 2) hx hb dL_law_690 (by decide) ?_
  refine iaddN (a := i) (b := 2) hx hb dL_law_691 ?_
  refine lwX (i := i + 2) hx hb hX hbl hsz hS (by omega) (by omega) dL_law_692 ?_
  refine lv_aload_n hx hb dL_law_693 rfl (lv_at hl 0 rfl) ?_
  refine lv_iload hx hb dL_law_694 (lv_at hl 4 rfl) ?_
  refine lv_iconst (v := 3) hx hb dL_law_696 (by decide) ?_
  refine iaddN (a := i) (b := 3) hx hb dL_law_697 ?_
  refine lwX (i := i + 3) hx hb hX hbl hsz hS (by omega) (by omega) dL_law_698 ?_
  refine lv_aload_n hx hb dL_law_699 rfl (lv_at hl 3 rfl) ?_
  refine lwS (As := [.ref r, .int (xs (i + 1)), .int (xs (i + 2)), .int (xs (i + 3)), .ref (r + 211)]) (rest := []) hx hb hml hown hts hl.1 hK hKx hr0 (c_L_run l hl0 D r (r + 211) (by omega) C J G n Y X U Z F O (xs (i + 1)) (xs (i + 2)) (xs (i + 3)) hR.1.good.1.1 hR.n4) (gHS qM_L_119 qT_L_run qK_L qC_L_run) hds_L_run ⟨(Nat.le_of_ble_eq_true rfl), (Nat.le_of_ble_eq_true rfl)⟩ ⟨hG, hO⟩ rfl (Nat.le_of_ble_eq_true rfl) ⟨by show cells + 4 ≤ 601024; omega, by show slots + 24 ≤ 7293034; omega⟩ dL_law_700 hS hA1 (fun H locs hP hz hq hS => ?_)
  obtain ⟨hG, hO⟩ := hP
  have hM := hM.kept (fun q h => hq q (hM.lt h) (fun h2 => by rcases h2 with h2 | h2 <;> (have := h.1; have := h.2) <;> (try have := h2.2) <;> omega))
  refine lv_istore (lv' := [(5, .int (kq 1 (fE_X6_run C G n (xs (i + 1)) (xs (i + 2)) (xs (i + 3))))), (0, .ref b), (1, .ref r), (2, .ref (r + 206)), (3, .ref (r + 211)), (4, .int (nI i))]) hx hb dL_law_703 hl (by decide) rfl (fun ls hl => ?_)
  refine lv_aload_n hx hb dL_law_705 rfl (lv_at hl 3 rfl) ?_
  refine lv_aload_n hx hb dL_law_706 rfl (lv_at hl 1 rfl) ?_
  refine lv_iload hx hb dL_law_707 (lv_at hl 5 rfl) ?_
  refine lv_iconst (v := 1) hx hb dL_law_709 (by decide) ?_
  refine iaddN (a := i) (b := 1) hx hb dL_law_710 ?_
  refine lwX (i := i + 1) hx hb hX hbl hsz hS (by omega) (by omega) dL_law_711 ?_
  refine lv_aload_n hx hb dL_law_712 rfl (lv_at hl 1 rfl) ?_
  refine lv_iload hx hb dL_law_713 (lv_at hl 5 rfl) ?_
  refine lv_iconst (v := 2) hx hb dL_law_715 (by decide) ?_
  refine iaddN (a := i) (b := 2) hx hb dL_law_716 ?_
  refine lwX (i := i + 2) hx hb hX hbl hsz hS (by omega) (by omega) dL_law_717 ?_
  refine lv_aload_n hx hb dL_law_718 rfl (lv_at hl 1 rfl) ?_
  refine lv_iload hx hb dL_law_719 (lv_at hl 5 rfl) ?_
  refine lv_iconst (v := 3) hx hb dL_law_721 (by decide) ?_
  refine iaddN (a := i) (b := 3) hx hb dL_law_722 ?_
  refine lwX (i := i + 3) hx hb hX hbl hsz hS (by omega) (by omega) dL_law_723 ?_
  refine gcVi (As := [.int (xs (i + 1)), .int (xs (i + 2)), .int (xs (i + 3))]) (rest := []) hx hb hml hown hts hl.1 hK (c_X7_run l D (r + 206) P S V T Fm h (xs (i + 1)) (xs (i + 2)) (xs (i + 3)) hR.2.1 hR.1.2.2.1.1) (gaV qM_L_122 qI_X7_run qS_X7_run qK_X7 qC_X7_run) hdv_X7_run ⟨(Nat.le_of_ble_eq_true rfl), (Nat.le_of_ble_eq_true rfl)⟩ hM (hM.recv hK) rfl (Nat.le_of_ble_eq_true rfl) ⟨by show cells + 4 ≤ 601024; omega, by show slots + 24 ≤ 7293034; omega⟩ dL_law_724 hS hA2 (fun H locs hM hz hq hS => ?_)
  have hG := hG.kept (fun q h => hq q (hG.lt h) (fun h2 => by have := h.2; have := h2.1; omega))
  have hO := Ou.kept hO (hq _ hO.lt (fun h2 => by have := h2.2; omega))
  refine lv_istore (lv' := [(6, .int (fR_X7_run P V Fm (xs (i + 1)) (xs (i + 2)) (xs (i + 3)))), (5, .int (kq 1 (fE_X6_run C G n (xs (i + 1)) (xs (i + 2)) (xs (i + 3))))), (0, .ref b), (1, .ref r), (2, .ref (r + 206)), (3, .ref (r + 211)), (4, .int (nI i))]) hx hb dL_law_727 hl (by decide) rfl (fun ls hl => ?_)
  refine lv_aload_n hx hb dL_law_729 rfl (lv_at hl 4 rfl) ?_
  refine gcVi (As := []) (rest := []) hx hb hml hown hts hl.1 hK (c_X7_thrown l D (r + 206) _ _ _ _ _ _) (gaV qM_L_93 qI_X7_thrown qS_X7_thrown qK_X7 qC_X7_thrown) hdv_X7_thrown ⟨(Nat.le_of_ble_eq_true rfl), (Nat.le_of_ble_eq_true rfl)⟩ hM (hM.recv hK) rfl (Nat.le_of_ble_eq_true rfl) ⟨by show cells + 4 ≤ 601024; omega, by show slots + 24 ≤ 7293034; omega⟩ dL_law_730 hS hA2 (fun H locs hM hz hq hS => ?_)
  have hG := hG.kept (fun q h => hq q (hG.lt h) (fun h2 => by have := h.2; have := h2.1; omega))
  have hO := Ou.kept hO (hq _ hO.lt (fun h2 => by have := h2.2; omega))
  refine lv_iload hx hb dL_law_733 (lv_at hl 1 rfl) ?_
  refine lv_icmp_eq (tgt := 740) hx hb dL_law_735 (by decide) (fun cA => ?_) (fun cA => absurd u1.symm cA)
  refine lv_iload hx hb dL_law_740 (lv_at hl 1 rfl) ?_
  have fin : ∀ (ls : Array Slot), lv_has ls 9 [(6, .int (fR_X7_run P V Fm (xs (i + 1)) (xs (i + 2)) (xs (i + 3)))), (5, .int (kq 1 (fE_X6_run C G n (xs (i + 1)) (xs (i + 2)) (xs (i + 3))))), (0, .ref b), (1, .ref r), (2, .ref (r + 206)), (3, .ref (r + 211)), (4, .int (nI i))] → W p l e room_1 s m args below meth c H locs (cells + 4) (slots + 24) Q (F0 m 757 ls []) := fun ls hl => by
    refine lv_goto (tgt := 1632) hx hb dL_law_757 (by decide) ?_
    exact kk _ _ _ 4 24 (by omega) (by omega) ⟨_, _, _, _, _, _, _, _, _, _, _, _, _, _, _, _, hG, hM, hO, u3⟩ hS (lv_sub hl [2, 3, 4, 5, 6] rfl)
  refine lv_if_ne (tgt := 757) hx hb dL_law_742 (by decide) (fun cB => fin ls hl) (fun cB => ?_)
  have e0 : fE_X6_run C G n (xs (i + 1)) (xs (i + 2)) (xs (i + 3)) = 0 := kq_0 cB
  refine lv_aload_n hx hb dL_law_745 rfl (lv_at hl 5 rfl) ?_
  refine lv_iconst (v := 0) hx hb dL_law_746 (by decide) ?_
  refine topN (n := 0) rfl ?_
  refine lwO hx hb hK hO dL_law_747 ?_
  refine lv_iload hx hb dL_law_748 (lv_at hl 0 rfl) ?_
  refine lv_i2l (v := (fR_X7_run P V Fm (xs (i + 1)) (xs (i + 2)) (xs (i + 3))).toInt64) hx hb dL_law_750 rfl ?_
  refine W.lcmp hx hb dL_law_751 ?_
  refine lv_if_eq (tgt := 757) hx hb dL_law_752 (by decide) (fun _ => fin ls hl) (fun cC => absurd ?_ cC)
  rw [e0, ou_0, u2 e0]
  exact lgc_self
theorem law_value {p : Program} {l : Launch} {e : Env} {s : State} {m : MethodId} {args : Array Value} {below : List Frame} {meth : Method} {c : Code} {H : Heap} {locs : List Loc} {cells slots : Nat} {Q : State → Prop} {ls : Array Slot} {D : va_G} {b L r i : Nat} {xs : Nat → Int32} (hl0 : l.stackTraces = false) (hx : p.tables.exec = Jvm.exec) (hb : c.code = cL_law) (hml : c.maxLocals = 9) (hown : s.vm.findClass RL = some m.cls) (hts : ∀ w ∈ AW, w.before args s = true) (hK : Kn D s) (hKx : Kx r s) (hX : va_X b L xs s s.heap) (hbl : b < r) (hsz : s.heap.size = r) (hL : L ≤ 2560) (hi : i + 5 ≤ L) (hc1 : cells + 4 ≤ 601024) (hc2 : slots + 24 ≤ 7293034) (hS : va_S (fun q => r ≤ q) s.heap H locs) (hl : lv_has ls 9 [(0, .ref b), (1, .ref r), (2, .ref (r + 206)), (3, .ref (r + 211)), (4, .int (nI i))]) (hI : LI D r H)
    (kk : ∀ (H1 : Heap) (locs1 : List Loc) (ls1 : Array Slot) (k1 k2 : Nat), k1 ≤ 4 → k2 ≤ 24 → LI D r H1 → va_S (fun q => r ≤ q) s.heap H1 locs1 → lv_has ls1 9 [(0, .ref b), (1, .ref r), (2, .ref (r + 206)), (3, .ref (r + 211)), (4, .int (nI i))] → W p l e room_1 s m args below meth c H1 locs1 (cells + k1) (slots + k2) Q (F0 m 1632 ls1 [])) : W p l e room_1 s m args below meth c H locs cells slots Q (F0 m 760 ls []) := by
  obtain ⟨C, J, G, n, Y, X, U, Z, F, P, S, V, T, Fm, h, O, hG, hM, hO, hR⟩ := hI
  have hr0 : ∀ q, (fun q => r ≤ q) q → r ≤ q := fun _ h => h
  have hA1 : ∀ q, inH r (r + 211) q → r ≤ q := fun q h => h.elim (fun h => h.1) (fun h => by omega)
  have hA2 : ∀ q, inM (r + 206) q → r ≤ q := fun q h => by have := h.1; omega
  have hA3 : ∀ q, inS r q → r ≤ q := fun q h => h.1
  obtain ⟨u1, u2, u3⟩ := M_value  (x := xs (i + 1)) hR
  refine lv_aload_n hx hb dL_law_760 rfl (lv_at hl 1 rfl) ?_
  refine lv_aload_n hx hb dL_law_761 rfl (lv_at hl 0 rfl) ?_
  refine lv_iload hx hb dL_law_762 (lv_at hl 4 rfl) ?_
  refine lv_iconst (v := 1) hx hb dL_law_764 (by decide) ?_
  refine iaddN (a := i) (b := 1) hx hb dL_law_765 ?_
  refine lwX (i := i + 1) hx hb hX hbl hsz hS (by omega) (by omega) dL_law_766 ?_
  refine lv_aload_n hx hb dL_law_767 rfl (lv_at hl 3 rfl) ?_
  refine lwS (As := [.ref r, .int (xs (i + 1)), .ref (r + 211)]) (rest := []) hx hb hml hown hts hl.1 hK hKx hr0 (c_L_value l hl0 D r (r + 211) (by omega) C J G n Y X U Z F O (xs (i + 1)) hR.1.good.1.1) (gHS qM_L_123 qT_L_value qK_L qC_L_value) hds_L_value ⟨(Nat.le_of_ble_eq_true rfl), (Nat.le_of_ble_eq_true rfl)⟩ ⟨hG, hO⟩ rfl (Nat.le_of_ble_eq_true rfl) ⟨by show cells + 1 ≤ 601024; omega, by show slots + 6 ≤ 7293034; omega⟩ dL_law_768 hS hA1 (fun H locs hP hz hq hS => ?_)
  obtain ⟨hG, hO⟩ := hP
  have hM := hM.kept (fun q h => hq q (hM.lt h) (fun h2 => by rcases h2 with h2 | h2 <;> (have := h.1; have := h.2) <;> (try have := h2.2) <;> omega))
  refine lv_istore (lv' := [(5, .int (kq 1 (fE_X6_value C (xs (i + 1))))), (0, .ref b), (1, .ref r), (2, .ref (r + 206)), (3, .ref (r + 211)), (4, .int (nI i))]) hx hb dL_law_771 hl (by decide) rfl (fun ls hl => ?_)
  refine lv_aload_n hx hb dL_law_773 rfl (lv_at hl 3 rfl) ?_
  refine lv_aload_n hx hb dL_law_774 rfl (lv_at hl 1 rfl) ?_
  refine lv_iload hx hb dL_law_775 (lv_at hl 5 rfl) ?_
  refine lv_iconst (v := 1) hx hb dL_law_777 (by decide) ?_
  refine iaddN (a := i) (b := 1) hx hb dL_law_778 ?_
  refine lwX (i := i + 1) hx hb hX hbl hsz hS (by omega) (by omega) dL_law_779 ?_
  refine gcVi (As := [.int (xs (i + 1))]) (rest := []) hx hb hml hown hts hl.1 hK (c_X7_value l D (r + 206) P S V T Fm h (xs (i + 1)) hR.1.2.2.1.1) (gaV qM_L_125 qI_X7_value qS_X7_value qK_X7 qC_X7_value) hdv_X7_value ⟨(Nat.le_of_ble_eq_true rfl), (Nat.le_of_ble_eq_true rfl)⟩ hM (hM.recv hK) rfl (Nat.le_of_ble_eq_true rfl) ⟨by show cells + 1 ≤ 601024; omega, by show slots + 6 ≤ 7293034; omega⟩ dL_law_780 hS hA2 (fun H locs hM hz hq hS => ?_)
  have hG := hG.kept (fun q h => hq q (hG.lt h) (fun h2 => by have := h.2; have := h2.1; omega))
  have hO := Ou.kept hO (hq _ hO.lt (fun h2 => by have := h2.2; omega))
  refine lv_istore (lv' := [(6, .int (fR_X7_value P Fm (xs (i + 1)))), (5, .int (kq 1 (fE_X6_value C (xs (i + 1))))), (0, .ref b), (1, .ref r), (2, .ref (r + 206)), (3, .ref (r + 211)), (4, .int (nI i))]) hx hb dL_law_783 hl (by decide) rfl (fun ls hl => ?_)
  refine lv_aload_n hx hb dL_law_785 rfl (lv_at hl 4 rfl) ?_
  refine gcVi (As := []) (rest := []) hx hb hml hown hts hl.1 hK (c_X7_thrown l D (r + 206) _ _ _ _ _ _) (gaV qM_L_93 qI_X7_thrown qS_X7_thrown qK_X7 qC_X7_thrown) hdv_X7_thrown ⟨(Nat.le_of_ble_eq_true rfl), (Nat.le_of_ble_eq_true rfl)⟩ hM (hM.recv hK) rfl (Nat.le_of_ble_eq_true rfl) ⟨by show cells + 1 ≤ 601024; omega, by show slots + 6 ≤ 7293034; omega⟩ dL_law_786 hS hA2 (fun H locs hM hz hq hS => ?_)
  have hG := hG.kept (fun q h => hq q (hG.lt h) (fun h2 => by have := h.2; have := h2.1; omega))
  have hO := Ou.kept hO (hq _ hO.lt (fun h2 => by have := h2.2; omega))
  refine lv_iload hx hb dL_law_789 (lv_at hl 1 rfl) ?_
  refine lv_icmp_eq (tgt := 796) hx hb dL_law_791 (by decide) (fun cA => ?_) (fun cA => absurd u1.symm cA)
  refine lv_iload hx hb dL_law_796 (lv_at hl 1 rfl) ?_
  have fin : ∀ (ls : Array Slot), lv_has ls 9 [(6, .int (fR_X7_value P Fm (xs (i + 1)))), (5, .int (kq 1 (fE_X6_value C (xs (i + 1))))), (0, .ref b), (1, .ref r), (2, .ref (r + 206)), (3, .ref (r + 211)), (4, .int (nI i))] → W p l e room_1 s m args below meth c H locs (cells + 1) (slots + 6) Q (F0 m 813 ls []) := fun ls hl => by
    refine lv_goto (tgt := 1632) hx hb dL_law_813 (by decide) ?_
    exact kk _ _ _ 1 6 (by omega) (by omega) ⟨_, _, _, _, _, _, _, _, _, _, _, _, _, _, _, _, hG, hM, hO, u3⟩ hS (lv_sub hl [2, 3, 4, 5, 6] rfl)
  refine lv_if_ne (tgt := 813) hx hb dL_law_798 (by decide) (fun cB => fin ls hl) (fun cB => ?_)
  have e0 : fE_X6_value C (xs (i + 1)) = 0 := kq_0 cB
  refine lv_aload_n hx hb dL_law_801 rfl (lv_at hl 5 rfl) ?_
  refine lv_iconst (v := 0) hx hb dL_law_802 (by decide) ?_
  refine topN (n := 0) rfl ?_
  refine lwO hx hb hK hO dL_law_803 ?_
  refine lv_iload hx hb dL_law_804 (lv_at hl 0 rfl) ?_
  refine lv_i2l (v := (fR_X7_value P Fm (xs (i + 1))).toInt64) hx hb dL_law_806 rfl ?_
  refine W.lcmp hx hb dL_law_807 ?_
  refine lv_if_eq (tgt := 813) hx hb dL_law_808 (by decide) (fun _ => fin ls hl) (fun cC => absurd ?_ cC)
  rw [e0, ou_0, u2 e0]
  exact lgc_self
theorem law_street {p : Program} {l : Launch} {e : Env} {s : State} {m : MethodId} {args : Array Value} {below : List Frame} {meth : Method} {c : Code} {H : Heap} {locs : List Loc} {cells slots : Nat} {Q : State → Prop} {ls : Array Slot} {D : va_G} {b L r i : Nat} {xs : Nat → Int32} (hl0 : l.stackTraces = false) (hx : p.tables.exec = Jvm.exec) (hb : c.code = cL_law) (hml : c.maxLocals = 9) (hown : s.vm.findClass RL = some m.cls) (hts : ∀ w ∈ AW, w.before args s = true) (hK : Kn D s) (hKx : Kx r s) (hX : va_X b L xs s s.heap) (hbl : b < r) (hsz : s.heap.size = r) (hL : L ≤ 2560) (hi : i + 5 ≤ L) (hc1 : cells + 4 ≤ 601024) (hc2 : slots + 24 ≤ 7293034) (hS : va_S (fun q => r ≤ q) s.heap H locs) (hl : lv_has ls 9 [(0, .ref b), (1, .ref r), (2, .ref (r + 206)), (3, .ref (r + 211)), (4, .int (nI i))]) (hI : LI D r H)
    (kk : ∀ (H1 : Heap) (locs1 : List Loc) (ls1 : Array Slot) (k1 k2 : Nat), k1 ≤ 4 → k2 ≤ 24 → LI D r H1 → va_S (fun q => r ≤ q) s.heap H1 locs1 → lv_has ls1 9 [(0, .ref b), (1, .ref r), (2, .ref (r + 206)), (3, .ref (r + 211)), (4, .int (nI i))] → W p l e room_1 s m args below meth c H1 locs1 (cells + k1) (slots + k2) Q (F0 m 1632 ls1 [])) : W p l e room_1 s m args below meth c H locs cells slots Q (F0 m 816 ls []) := by
  obtain ⟨C, J, G, n, Y, X, U, Z, F, P, S, V, T, Fm, h, O, hG, hM, hO, hR⟩ := hI
  have hr0 : ∀ q, (fun q => r ≤ q) q → r ≤ q := fun _ h => h
  have hA1 : ∀ q, inH r (r + 211) q → r ≤ q := fun q h => h.elim (fun h => h.1) (fun h => by omega)
  have hA2 : ∀ q, inM (r + 206) q → r ≤ q := fun q h => by have := h.1; omega
  have hA3 : ∀ q, inS r q → r ≤ q := fun q h => h.1
  obtain ⟨u1, u2, u3⟩ := M_street  (x := xs (i + 1)) (y := xs (i + 2)) hR
  refine lv_aload_n hx hb dL_law_816 rfl (lv_at hl 1 rfl) ?_
  refine lv_aload_n hx hb dL_law_817 rfl (lv_at hl 0 rfl) ?_
  refine lv_iload hx hb dL_law_818 (lv_at hl 4 rfl) ?_
  refine lv_iconst (v := 1) hx hb dL_law_820 (by decide) ?_
  refine iaddN (a := i) (b := 1) hx hb dL_law_821 ?_
  refine lwX (i := i + 1) hx hb hX hbl hsz hS (by omega) (by omega) dL_law_822 ?_
  refine lv_aload_n hx hb dL_law_823 rfl (lv_at hl 0 rfl) ?_
  refine lv_iload hx hb dL_law_824 (lv_at hl 4 rfl) ?_
  refine lv_iconst (v := 2) hx hb dL_law_826 (by decide) ?_
  refine iaddN (a := i) (b := 2) hx hb dL_law_827 ?_
  refine lwX (i := i + 2) hx hb hX hbl hsz hS (by omega) (by omega) dL_law_828 ?_
  refine lv_aload_n hx hb dL_law_829 rfl (lv_at hl 3 rfl) ?_
  refine lwS (As := [.ref r, .int (xs (i + 1)), .int (xs (i + 2)), .ref (r + 211)]) (rest := []) hx hb hml hown hts hl.1 hK hKx hr0 (c_L_street l hl0 D r (r + 211) (by omega) C J G n Y X U Z F O (xs (i + 1)) (xs (i + 2)) hR.1.good.1.1) (gHS qM_L_126 qT_L_street qK_L qC_L_street) hds_L_street ⟨(Nat.le_of_ble_eq_true rfl), (Nat.le_of_ble_eq_true rfl)⟩ ⟨hG, hO⟩ rfl (Nat.le_of_ble_eq_true rfl) ⟨by show cells + 2 ≤ 601024; omega, by show slots + 12 ≤ 7293034; omega⟩ dL_law_830 hS hA1 (fun H locs hP hz hq hS => ?_)
  obtain ⟨hG, hO⟩ := hP
  have hM := hM.kept (fun q h => hq q (hM.lt h) (fun h2 => by rcases h2 with h2 | h2 <;> (have := h.1; have := h.2) <;> (try have := h2.2) <;> omega))
  refine lv_istore (lv' := [(5, .int (kq 3 (fE_X6_street C (xs (i + 1)) (xs (i + 2))))), (0, .ref b), (1, .ref r), (2, .ref (r + 206)), (3, .ref (r + 211)), (4, .int (nI i))]) hx hb dL_law_833 hl (by decide) rfl (fun ls hl => ?_)
  refine lv_aload_n hx hb dL_law_835 rfl (lv_at hl 3 rfl) ?_
  refine lv_aload_n hx hb dL_law_836 rfl (lv_at hl 1 rfl) ?_
  refine lv_iload hx hb dL_law_837 (lv_at hl 5 rfl) ?_
  refine lv_iconst (v := 1) hx hb dL_law_839 (by decide) ?_
  refine iaddN (a := i) (b := 1) hx hb dL_law_840 ?_
  refine lwX (i := i + 1) hx hb hX hbl hsz hS (by omega) (by omega) dL_law_841 ?_
  refine lv_aload_n hx hb dL_law_842 rfl (lv_at hl 1 rfl) ?_
  refine lv_iload hx hb dL_law_843 (lv_at hl 5 rfl) ?_
  refine lv_iconst (v := 2) hx hb dL_law_845 (by decide) ?_
  refine iaddN (a := i) (b := 2) hx hb dL_law_846 ?_
  refine lwX (i := i + 2) hx hb hX hbl hsz hS (by omega) (by omega) dL_law_847 ?_
  refine gcVi (As := [.int (xs (i + 1)), .int (xs (i + 2))]) (rest := []) hx hb hml hown hts hl.1 hK (c_X7_street l D (r + 206) P S V T Fm h (xs (i + 1)) (xs (i + 2)) hR.1.2.2.1.1) (gaV qM_L_128 qI_X7_street qS_X7_street qK_X7 qC_X7_street) hdv_X7_street ⟨(Nat.le_of_ble_eq_true rfl), (Nat.le_of_ble_eq_true rfl)⟩ hM (hM.recv hK) rfl (Nat.le_of_ble_eq_true rfl) ⟨by show cells + 2 ≤ 601024; omega, by show slots + 12 ≤ 7293034; omega⟩ dL_law_848 hS hA2 (fun H locs hM hz hq hS => ?_)
  have hG := hG.kept (fun q h => hq q (hG.lt h) (fun h2 => by have := h.2; have := h2.1; omega))
  have hO := Ou.kept hO (hq _ hO.lt (fun h2 => by have := h2.2; omega))
  refine lv_istore (lv' := [(6, .int (fR_X7_street P Fm (xs (i + 1)) (xs (i + 2)))), (5, .int (kq 3 (fE_X6_street C (xs (i + 1)) (xs (i + 2))))), (0, .ref b), (1, .ref r), (2, .ref (r + 206)), (3, .ref (r + 211)), (4, .int (nI i))]) hx hb dL_law_851 hl (by decide) rfl (fun ls hl => ?_)
  refine lv_aload_n hx hb dL_law_853 rfl (lv_at hl 4 rfl) ?_
  refine gcVi (As := []) (rest := []) hx hb hml hown hts hl.1 hK (c_X7_thrown l D (r + 206) _ _ _ _ _ _) (gaV qM_L_93 qI_X7_thrown qS_X7_thrown qK_X7 qC_X7_thrown) hdv_X7_thrown ⟨(Nat.le_of_ble_eq_true rfl), (Nat.le_of_ble_eq_true rfl)⟩ hM (hM.recv hK) rfl (Nat.le_of_ble_eq_true rfl) ⟨by show cells + 2 ≤ 601024; omega, by show slots + 12 ≤ 7293034; omega⟩ dL_law_854 hS hA2 (fun H locs hM hz hq hS => ?_)
  have hG := hG.kept (fun q h => hq q (hG.lt h) (fun h2 => by have := h.2; have := h2.1; omega))
  have hO := Ou.kept hO (hq _ hO.lt (fun h2 => by have := h2.2; omega))
  refine lv_iload hx hb dL_law_857 (lv_at hl 1 rfl) ?_
  refine lv_icmp_eq (tgt := 864) hx hb dL_law_859 (by decide) (fun cA => ?_) (fun cA => absurd u1.symm cA)
  refine lv_iload hx hb dL_law_864 (lv_at hl 1 rfl) ?_
  have fin : ∀ (ls : Array Slot), lv_has ls 9 [(6, .int (fR_X7_street P Fm (xs (i + 1)) (xs (i + 2)))), (5, .int (kq 3 (fE_X6_street C (xs (i + 1)) (xs (i + 2))))), (0, .ref b), (1, .ref r), (2, .ref (r + 206)), (3, .ref (r + 211)), (4, .int (nI i))] → W p l e room_1 s m args below meth c H locs (cells + 2) (slots + 12) Q (F0 m 881 ls []) := fun ls hl => by
    refine lv_goto (tgt := 1632) hx hb dL_law_881 (by decide) ?_
    exact kk _ _ _ 2 12 (by omega) (by omega) ⟨_, _, _, _, _, _, _, _, _, _, _, _, _, _, _, _, hG, hM, hO, u3⟩ hS (lv_sub hl [2, 3, 4, 5, 6] rfl)
  refine lv_if_ne (tgt := 881) hx hb dL_law_866 (by decide) (fun cB => fin ls hl) (fun cB => ?_)
  have e0 : fE_X6_street C (xs (i + 1)) (xs (i + 2)) = 0 := kq_0 cB
  refine lv_aload_n hx hb dL_law_869 rfl (lv_at hl 5 rfl) ?_
  refine lv_iconst (v := 0) hx hb dL_law_870 (by decide) ?_
  refine topN (n := 0) rfl ?_
  refine lwO hx hb hK hO dL_law_871 ?_
  refine lv_iload hx hb dL_law_872 (lv_at hl 0 rfl) ?_
  refine lv_i2l (v := (fR_X7_street P Fm (xs (i + 1)) (xs (i + 2))).toInt64) hx hb dL_law_874 rfl ?_
  refine W.lcmp hx hb dL_law_875 ?_
  refine lv_if_eq (tgt := 881) hx hb dL_law_876 (by decide) (fun _ => fin ls hl) (fun cC => absurd ?_ cC)
  rw [e0, ou_0, u2 e0]
  exact lgc_self
theorem law_plow {p : Program} {l : Launch} {e : Env} {s : State} {m : MethodId} {args : Array Value} {below : List Frame} {meth : Method} {c : Code} {H : Heap} {locs : List Loc} {cells slots : Nat} {Q : State → Prop} {ls : Array Slot} {D : va_G} {b L r i : Nat} {xs : Nat → Int32} (hl0 : l.stackTraces = false) (hx : p.tables.exec = Jvm.exec) (hb : c.code = cL_law) (hml : c.maxLocals = 9) (hown : s.vm.findClass RL = some m.cls) (hts : ∀ w ∈ AW, w.before args s = true) (hK : Kn D s) (hKx : Kx r s) (hX : va_X b L xs s s.heap) (hbl : b < r) (hsz : s.heap.size = r) (hL : L ≤ 2560) (hi : i + 5 ≤ L) (hc1 : cells + 4 ≤ 601024) (hc2 : slots + 24 ≤ 7293034) (hS : va_S (fun q => r ≤ q) s.heap H locs) (hl : lv_has ls 9 [(0, .ref b), (1, .ref r), (2, .ref (r + 206)), (3, .ref (r + 211)), (4, .int (nI i))]) (hI : LI D r H)
    (kk : ∀ (H1 : Heap) (locs1 : List Loc) (ls1 : Array Slot) (k1 k2 : Nat), k1 ≤ 4 → k2 ≤ 24 → LI D r H1 → va_S (fun q => r ≤ q) s.heap H1 locs1 → lv_has ls1 9 [(0, .ref b), (1, .ref r), (2, .ref (r + 206)), (3, .ref (r + 211)), (4, .int (nI i))] → W p l e room_1 s m args below meth c H1 locs1 (cells + k1) (slots + k2) Q (F0 m 1632 ls1 [])) : W p l e room_1 s m args below meth c H locs cells slots Q (F0 m 884 ls []) := by
  obtain ⟨C, J, G, n, Y, X, U, Z, F, P, S, V, T, Fm, h, O, hG, hM, hO, hR⟩ := hI
  have hr0 : ∀ q, (fun q => r ≤ q) q → r ≤ q := fun _ h => h
  have hA1 : ∀ q, inH r (r + 211) q → r ≤ q := fun q h => h.elim (fun h => h.1) (fun h => by omega)
  have hA2 : ∀ q, inM (r + 206) q → r ≤ q := fun q h => by have := h.1; omega
  have hA3 : ∀ q, inS r q → r ≤ q := fun q h => h.1
  obtain ⟨u1, u2, u3⟩ := M_plow  (x := xs (i + 1)) (y := xs (i + 2)) hR
  refine lv_aload_n hx hb dL_law_884 rfl (lv_at hl 1 rfl) ?_
  refine lv_aload_n hx hb dL_law_885 rfl (lv_at hl 0 rfl) ?_
  refine lv_iload hx hb dL_law_886 (lv_at hl 4 rfl) ?_
  refine lv_iconst (v := 1) hx hb dL_law_888 (by decide) ?_
  refine iaddN (a := i) (b := 1) hx hb dL_law_889 ?_
  refine lwX (i := i + 1) hx hb hX hbl hsz hS (by omega) (by omega) dL_law_890 ?_
  refine lv_aload_n hx hb dL_law_891 rfl (lv_at hl 0 rfl) ?_
  refine lv_iload hx hb dL_law_892 (lv_at hl 4 rfl) ?_
  refine lv_iconst (v := 2) hx hb dL_law_894 (by decide) ?_
  refine iaddN (a := i) (b := 2) hx hb dL_law_895 ?_
  refine lwX (i := i + 2) hx hb hX hbl hsz hS (by omega) (by omega) dL_law_896 ?_
  refine lv_aload_n hx hb dL_law_897 rfl (lv_at hl 3 rfl) ?_
  refine lwS (As := [.ref r, .int (xs (i + 1)), .int (xs (i + 2)), .ref (r + 211)]) (rest := []) hx hb hml hown hts hl.1 hK hKx hr0 (c_L_plow l hl0 D r (r + 211) (by omega) C J G n Y X U Z F O (xs (i + 1)) (xs (i + 2)) hR.1.okN) (gHS qM_L_129 qT_L_plow qK_L qC_L_plow) hds_L_plow ⟨(Nat.le_of_ble_eq_true rfl), (Nat.le_of_ble_eq_true rfl)⟩ ⟨hG, hO⟩ rfl (Nat.le_of_ble_eq_true rfl) ⟨by show cells + 2 ≤ 601024; omega, by show slots + 12 ≤ 7293034; omega⟩ dL_law_898 hS hA1 (fun H locs hP hz hq hS => ?_)
  obtain ⟨hG, hO⟩ := hP
  have hM := hM.kept (fun q h => hq q (hM.lt h) (fun h2 => by rcases h2 with h2 | h2 <;> (have := h.1; have := h.2) <;> (try have := h2.2) <;> omega))
  refine lv_istore (lv' := [(5, .int (kq 3 (fE_X6_plow C (xs (i + 1)) (xs (i + 2))))), (0, .ref b), (1, .ref r), (2, .ref (r + 206)), (3, .ref (r + 211)), (4, .int (nI i))]) hx hb dL_law_901 hl (by decide) rfl (fun ls hl => ?_)
  refine lv_aload_n hx hb dL_law_903 rfl (lv_at hl 3 rfl) ?_
  refine lv_aload_n hx hb dL_law_904 rfl (lv_at hl 1 rfl) ?_
  refine lv_iload hx hb dL_law_905 (lv_at hl 5 rfl) ?_
  refine lv_iconst (v := 1) hx hb dL_law_907 (by decide) ?_
  refine iaddN (a := i) (b := 1) hx hb dL_law_908 ?_
  refine lwX (i := i + 1) hx hb hX hbl hsz hS (by omega) (by omega) dL_law_909 ?_
  refine lv_aload_n hx hb dL_law_910 rfl (lv_at hl 1 rfl) ?_
  refine lv_iload hx hb dL_law_911 (lv_at hl 5 rfl) ?_
  refine lv_iconst (v := 2) hx hb dL_law_913 (by decide) ?_
  refine iaddN (a := i) (b := 2) hx hb dL_law_914 ?_
  refine lwX (i := i + 2) hx hb hX hbl hsz hS (by omega) (by omega) dL_law_915 ?_
  refine gcVi (As := [.int (xs (i + 1)), .int (xs (i + 2))]) (rest := []) hx hb hml hown hts hl.1 hK (c_X7_plow l D (r + 206) P S V T Fm h (xs (i + 1)) (xs (i + 2)) hR.1.2.2.oN) (gaV qM_L_131 qI_X7_plow qS_X7_plow qK_X7 qC_X7_plow) hdv_X7_plow ⟨(Nat.le_of_ble_eq_true rfl), (Nat.le_of_ble_eq_true rfl)⟩ hM (hM.recv hK) rfl (Nat.le_of_ble_eq_true rfl) ⟨by show cells + 2 ≤ 601024; omega, by show slots + 12 ≤ 7293034; omega⟩ dL_law_916 hS hA2 (fun H locs hM hz hq hS => ?_)
  have hG := hG.kept (fun q h => hq q (hG.lt h) (fun h2 => by have := h.2; have := h2.1; omega))
  have hO := Ou.kept hO (hq _ hO.lt (fun h2 => by have := h2.2; omega))
  refine lv_istore (lv' := [(6, .int (fR_X7_plow P Fm (xs (i + 1)) (xs (i + 2)))), (5, .int (kq 3 (fE_X6_plow C (xs (i + 1)) (xs (i + 2))))), (0, .ref b), (1, .ref r), (2, .ref (r + 206)), (3, .ref (r + 211)), (4, .int (nI i))]) hx hb dL_law_919 hl (by decide) rfl (fun ls hl => ?_)
  refine lv_aload_n hx hb dL_law_921 rfl (lv_at hl 4 rfl) ?_
  refine gcVi (As := []) (rest := []) hx hb hml hown hts hl.1 hK (c_X7_thrown l D (r + 206) _ _ _ _ _ _) (gaV qM_L_93 qI_X7_thrown qS_X7_thrown qK_X7 qC_X7_thrown) hdv_X7_thrown ⟨(Nat.le_of_ble_eq_true rfl), (Nat.le_of_ble_eq_true rfl)⟩ hM (hM.recv hK) rfl (Nat.le_of_ble_eq_true rfl) ⟨by show cells + 2 ≤ 601024; omega, by show slots + 12 ≤ 7293034; omega⟩ dL_law_922 hS hA2 (fun H locs hM hz hq hS => ?_)
  have hG := hG.kept (fun q h => hq q (hG.lt h) (fun h2 => by have := h.2; have := h2.1; omega))
  have hO := Ou.kept hO (hq _ hO.lt (fun h2 => by have := h2.2; omega))
  refine lv_iload hx hb dL_law_925 (lv_at hl 1 rfl) ?_
  refine lv_icmp_eq (tgt := 932) hx hb dL_law_927 (by decide) (fun cA => ?_) (fun cA => absurd u1.symm cA)
  refine lv_iload hx hb dL_law_932 (lv_at hl 1 rfl) ?_
  have fin : ∀ (ls : Array Slot), lv_has ls 9 [(6, .int (fR_X7_plow P Fm (xs (i + 1)) (xs (i + 2)))), (5, .int (kq 3 (fE_X6_plow C (xs (i + 1)) (xs (i + 2))))), (0, .ref b), (1, .ref r), (2, .ref (r + 206)), (3, .ref (r + 211)), (4, .int (nI i))] → W p l e room_1 s m args below meth c H locs (cells + 2) (slots + 12) Q (F0 m 949 ls []) := fun ls hl => by
    refine lv_goto (tgt := 1632) hx hb dL_law_949 (by decide) ?_
    exact kk _ _ _ 2 12 (by omega) (by omega) ⟨_, _, _, _, _, _, _, _, _, _, _, _, _, _, _, _, hG, hM, hO, u3⟩ hS (lv_sub hl [2, 3, 4, 5, 6] rfl)
  refine lv_if_ne (tgt := 949) hx hb dL_law_934 (by decide) (fun cB => fin ls hl) (fun cB => ?_)
  have e0 : fE_X6_plow C (xs (i + 1)) (xs (i + 2)) = 0 := kq_0 cB
  refine lv_aload_n hx hb dL_law_937 rfl (lv_at hl 5 rfl) ?_
  refine lv_iconst (v := 0) hx hb dL_law_938 (by decide) ?_
  refine topN (n := 0) rfl ?_
  refine lwO hx hb hK hO dL_law_939 ?_
  refine lv_iload hx hb dL_law_940 (lv_at hl 0 rfl) ?_
  refine lv_i2l (v := (fR_X7_plow P Fm (xs (i + 1)) (xs (i + 2))).toInt64) hx hb dL_law_942 rfl ?_
  refine W.lcmp hx hb dL_law_943 ?_
  refine lv_if_eq (tgt := 949) hx hb dL_law_944 (by decide) (fun _ => fin ls hl) (fun cC => absurd ?_ cC)
  rw [e0, ou_0, u2 e0]
  exact lgc_self
theorem law_stop {p : Program} {l : Launch} {e : Env} {s : State} {m : MethodId} {args : Array Value} {below : List Frame} {meth : Method} {c : Code} {H : Heap} {locs : List Loc} {cells slots : Nat} {Q : State → Prop} {ls : Array Slot} {D : va_G} {b L r i : Nat} {xs : Nat → Int32} (hl0 : l.stackTraces = false) (hx : p.tables.exec = Jvm.exec) (hb : c.code = cL_law) (hml : c.maxLocals = 9) (hown : s.vm.findClass RL = some m.cls) (hts : ∀ w ∈ AW, w.before args s = true) (hK : Kn D s) (hKx : Kx r s) (hX : va_X b L xs s s.heap) (hbl : b < r) (hsz : s.heap.size = r) (hL : L ≤ 2560) (hi : i + 5 ≤ L) (hc1 : cells + 4 ≤ 601024) (hc2 : slots + 24 ≤ 7293034) (hS : va_S (fun q => r ≤ q) s.heap H locs) (hl : lv_has ls 9 [(0, .ref b), (1, .ref r), (2, .ref (r + 206)), (3, .ref (r + 211)), (4, .int (nI i))]) (hI : LI D r H)
    (kk : ∀ (H1 : Heap) (locs1 : List Loc) (ls1 : Array Slot) (k1 k2 : Nat), k1 ≤ 4 → k2 ≤ 24 → LI D r H1 → va_S (fun q => r ≤ q) s.heap H1 locs1 → lv_has ls1 9 [(0, .ref b), (1, .ref r), (2, .ref (r + 206)), (3, .ref (r + 211)), (4, .int (nI i))] → W p l e room_1 s m args below meth c H1 locs1 (cells + k1) (slots + k2) Q (F0 m 1632 ls1 [])) : W p l e room_1 s m args below meth c H locs cells slots Q (F0 m 952 ls []) := by
  obtain ⟨C, J, G, n, Y, X, U, Z, F, P, S, V, T, Fm, h, O, hG, hM, hO, hR⟩ := hI
  have hr0 : ∀ q, (fun q => r ≤ q) q → r ≤ q := fun _ h => h
  have hA1 : ∀ q, inH r (r + 211) q → r ≤ q := fun q h => h.elim (fun h => h.1) (fun h => by omega)
  have hA2 : ∀ q, inM (r + 206) q → r ≤ q := fun q h => by have := h.1; omega
  have hA3 : ∀ q, inS r q → r ≤ q := fun q h => h.1
  obtain ⟨u1, u2, u3⟩ := M_stop  (x := xs (i + 1)) (y := xs (i + 2)) hR
  refine lv_aload_n hx hb dL_law_952 rfl (lv_at hl 1 rfl) ?_
  refine lv_aload_n hx hb dL_law_953 rfl (lv_at hl 0 rfl) ?_
  refine lv_iload hx hb dL_law_954 (lv_at hl 4 rfl) ?_
  refine lv_iconst (v := 1) hx hb dL_law_956 (by decide) ?_
  refine iaddN (a := i) (b := 1) hx hb dL_law_957 ?_
  refine lwX (i := i + 1) hx hb hX hbl hsz hS (by omega) (by omega) dL_law_958 ?_
  refine lv_aload_n hx hb dL_law_959 rfl (lv_at hl 0 rfl) ?_
  refine lv_iload hx hb dL_law_960 (lv_at hl 4 rfl) ?_
  refine lv_iconst (v := 2) hx hb dL_law_962 (by decide) ?_
  refine iaddN (a := i) (b := 2) hx hb dL_law_963 ?_
  refine lwX (i := i + 2) hx hb hX hbl hsz hS (by omega) (by omega) dL_law_964 ?_
  refine lv_aload_n hx hb dL_law_965 rfl (lv_at hl 3 rfl) ?_
  refine lwS (As := [.ref r, .int (xs (i + 1)), .int (xs (i + 2)), .ref (r + 211)]) (rest := []) hx hb hml hown hts hl.1 hK hKx hr0 (c_L_stop l hl0 D r (r + 211) (by omega) C J G n Y X U Z F O (xs (i + 1)) (xs (i + 2)) hR.1.okN hR.1.okQ) (gHS qM_L_132 qT_L_stop qK_L qC_L_stop) hds_L_stop ⟨(Nat.le_of_ble_eq_true rfl), (Nat.le_of_ble_eq_true rfl)⟩ ⟨hG, hO⟩ rfl (Nat.le_of_ble_eq_true rfl) ⟨by show cells + 2 ≤ 601024; omega, by show slots + 12 ≤ 7293034; omega⟩ dL_law_966 hS hA1 (fun H locs hP hz hq hS => ?_)
  obtain ⟨hG, hO⟩ := hP
  have hM := hM.kept (fun q h => hq q (hM.lt h) (fun h2 => by rcases h2 with h2 | h2 <;> (have := h.1; have := h.2) <;> (try have := h2.2) <;> omega))
  refine lv_istore (lv' := [(5, .int (kq 3 (fE_X6_stop C (xs (i + 1)) (xs (i + 2))))), (0, .ref b), (1, .ref r), (2, .ref (r + 206)), (3, .ref (r + 211)), (4, .int (nI i))]) hx hb dL_law_969 hl (by decide) rfl (fun ls hl => ?_)
  refine lv_aload_n hx hb dL_law_971 rfl (lv_at hl 3 rfl) ?_
  refine lv_aload_n hx hb dL_law_972 rfl (lv_at hl 1 rfl) ?_
  refine lv_iload hx hb dL_law_973 (lv_at hl 5 rfl) ?_
  refine lv_iconst (v := 1) hx hb dL_law_975 (by decide) ?_
  refine iaddN (a := i) (b := 1) hx hb dL_law_976 ?_
  refine lwX (i := i + 1) hx hb hX hbl hsz hS (by omega) (by omega) dL_law_977 ?_
  refine lv_aload_n hx hb dL_law_978 rfl (lv_at hl 1 rfl) ?_
  refine lv_iload hx hb dL_law_979 (lv_at hl 5 rfl) ?_
  refine lv_iconst (v := 2) hx hb dL_law_981 (by decide) ?_
  refine iaddN (a := i) (b := 2) hx hb dL_law_982 ?_
  refine lwX (i := i + 2) hx hb hX hbl hsz hS (by omega) (by omega) dL_law_983 ?_
  refine gcVi (As := [.int (xs (i + 1)), .int (xs (i + 2))]) (rest := []) hx hb hml hown hts hl.1 hK (c_X7_stop l D (r + 206) P S V T Fm h (xs (i + 1)) (xs (i + 2)) hR.1.2.2.oN (fun q hq => (hR.1.2.2.2.1 q hq).1)) (gaV qM_L_134 qI_X7_stop qS_X7_stop qK_X7 qC_X7_stop) hdv_X7_stop ⟨(Nat.le_of_ble_eq_true rfl), (Nat.le_of_ble_eq_true rfl)⟩ hM (hM.recv hK) rfl (Nat.le_of_ble_eq_true rfl) ⟨by show cells + 2 ≤ 601024; omega, by show slots + 12 ≤ 7293034; omega⟩ dL_law_984 hS hA2 (fun H locs hM hz hq hS => ?_)
  have hG := hG.kept (fun q h => hq q (hG.lt h) (fun h2 => by have := h.2; have := h2.1; omega))
  have hO := Ou.kept hO (hq _ hO.lt (fun h2 => by have := h2.2; omega))
  refine lv_istore (lv' := [(6, .int (fR_X7_stop P Fm (xs (i + 1)) (xs (i + 2)))), (5, .int (kq 3 (fE_X6_stop C (xs (i + 1)) (xs (i + 2))))), (0, .ref b), (1, .ref r), (2, .ref (r + 206)), (3, .ref (r + 211)), (4, .int (nI i))]) hx hb dL_law_987 hl (by decide) rfl (fun ls hl => ?_)
  refine lv_aload_n hx hb dL_law_989 rfl (lv_at hl 4 rfl) ?_
  refine gcVi (As := []) (rest := []) hx hb hml hown hts hl.1 hK (c_X7_thrown l D (r + 206) _ _ _ _ _ _) (gaV qM_L_93 qI_X7_thrown qS_X7_thrown qK_X7 qC_X7_thrown) hdv_X7_thrown ⟨(Nat.le_of_ble_eq_true rfl), (Nat.le_of_ble_eq_true rfl)⟩ hM (hM.recv hK) rfl (Nat.le_of_ble_eq_true rfl) ⟨by show cells + 2 ≤ 601024; omega, by show slots + 12 ≤ 7293034; omega⟩ dL_law_990 hS hA2 (fun H locs hM hz hq hS => ?_)
  have hG := hG.kept (fun q h => hq q (hG.lt h) (fun h2 => by have := h.2; have := h2.1; omega))
  have hO := Ou.kept hO (hq _ hO.lt (fun h2 => by have := h2.2; omega))
  refine lv_iload hx hb dL_law_993 (lv_at hl 1 rfl) ?_
  refine lv_icmp_eq (tgt := 1000) hx hb dL_law_995 (by decide) (fun cA => ?_) (fun cA => absurd u1.symm cA)
  refine lv_iload hx hb dL_law_1000 (lv_at hl 1 rfl) ?_
  have fin : ∀ (ls : Array Slot), lv_has ls 9 [(6, .int (fR_X7_stop P Fm (xs (i + 1)) (xs (i + 2)))), (5, .int (kq 3 (fE_X6_stop C (xs (i + 1)) (xs (i + 2))))), (0, .ref b), (1, .ref r), (2, .ref (r + 206)), (3, .ref (r + 211)), (4, .int (nI i))] → W p l e room_1 s m args below meth c H locs (cells + 2) (slots + 12) Q (F0 m 1017 ls []) := fun ls hl => by
    refine lv_goto (tgt := 1632) hx hb dL_law_1017 (by decide) ?_
    exact kk _ _ _ 2 12 (by omega) (by omega) ⟨_, _, _, _, _, _, _, _, _, _, _, _, _, _, _, _, hG, hM, hO, u3⟩ hS (lv_sub hl [2, 3, 4, 5, 6] rfl)
  refine lv_if_ne (tgt := 1017) hx hb dL_law_1002 (by decide) (fun cB => fin ls hl) (fun cB => ?_)
  have e0 : fE_X6_stop C (xs (i + 1)) (xs (i + 2)) = 0 := kq_0 cB
  refine lv_aload_n hx hb dL_law_1005 rfl (lv_at hl 5 rfl) ?_
  refine lv_iconst (v := 0) hx hb dL_law_1006 (by decide) ?_
  refine topN (n := 0) rfl ?_
  refine lwO hx hb hK hO dL_law_1007 ?_
  refine lv_iload hx hb dL_law_1008 (lv_at hl 0 rfl) ?_
  refine lv_i2l (v := (fR_X7_stop P Fm (xs (i + 1)) (xs (i + 2))).toInt64) hx hb dL_law_1010 rfl ?_
  refine W.lcmp hx hb dL_law_1011 ?_
  refine lv_if_eq (tgt := 1017) hx hb dL_law_1012 (by decide) (fun _ => fin ls hl) (fun cC => absurd ?_ cC)
  rw [e0, ou_0, u2 e0]
  exact lgc_self
theorem law_terms {p : Program} {l : Launch} {e : Env} {s : State} {m : MethodId} {args : Array Value} {below : List Frame} {meth : Method} {c : Code} {H : Heap} {locs : List Loc} {cells slots : Nat} {Q : State → Prop} {ls : Array Slot} {D : va_G} {b L r i : Nat} {xs : Nat → Int32} (hl0 : l.stackTraces = false) (hx : p.tables.exec = Jvm.exec) (hb : c.code = cL_law) (hml : c.maxLocals = 9) (hown : s.vm.findClass RL = some m.cls) (hts : ∀ w ∈ AW, w.before args s = true) (hK : Kn D s) (hKx : Kx r s) (hX : va_X b L xs s s.heap) (hbl : b < r) (hsz : s.heap.size = r) (hL : L ≤ 2560) (hi : i + 5 ≤ L) (hc1 : cells + 4 ≤ 601024) (hc2 : slots + 24 ≤ 7293034) (hS : va_S (fun q => r ≤ q) s.heap H locs) (hl : lv_has ls 9 [(0, .ref b), (1, .ref r), (2, .ref (r + 206)), (3, .ref (r + 211)), (4, .int (nI i))]) (hI : LI D r H)
    (kk : ∀ (H1 : Heap) (locs1 : List Loc) (ls1 : Array Slot) (k1 k2 : Nat), k1 ≤ 4 → k2 ≤ 24 → LI D r H1 → va_S (fun q => r ≤ q) s.heap H1 locs1 → lv_has ls1 9 [(0, .ref b), (1, .ref r), (2, .ref (r + 206)), (3, .ref (r + 211)), (4, .int (nI i))] → W p l e room_1 s m args below meth c H1 locs1 (cells + k1) (slots + k2) Q (F0 m 1632 ls1 [])) : W p l e room_1 s m args below meth c H locs cells slots Q (F0 m 1020 ls []) := by
  obtain ⟨C, J, G, n, Y, X, U, Z, F, P, S, V, T, Fm, h, O, hG, hM, hO, hR⟩ := hI
  have hr0 : ∀ q, (fun q => r ≤ q) q → r ≤ q := fun _ h => h
  have hA1 : ∀ q, inH r (r + 211) q → r ≤ q := fun q h => h.elim (fun h => h.1) (fun h => by omega)
  have hA2 : ∀ q, inM (r + 206) q → r ≤ q := fun q h => by have := h.1; omega
  have hA3 : ∀ q, inS r q → r ≤ q := fun q h => h.1
  obtain ⟨u1, u2, u3⟩ := M_terms  (x := xs (i + 1)) (y := xs (i + 2)) hR
  refine lv_aload_n hx hb dL_law_1020 rfl (lv_at hl 1 rfl) ?_
  refine lv_aload_n hx hb dL_law_1021 rfl (lv_at hl 0 rfl) ?_
  refine lv_iload hx hb dL_law_1022 (lv_at hl 4 rfl) ?_
  refine lv_iconst (v := 1) hx hb dL_law_1024 (by decide) ?_
  refine iaddN (a := i) (b := 1) hx hb dL_law_1025 ?_
  refine lwX (i := i + 1) hx hb hX hbl hsz hS (by omega) (by omega) dL_law_1026 ?_
  refine lv_aload_n hx hb dL_law_1027 rfl (lv_at hl 0 rfl) ?_
  refine lv_iload hx hb dL_law_1028 (lv_at hl 4 rfl) ?_
  refine lv_iconst (v := 2) hx hb dL_law_1030 (by decide) ?_
  refine iaddN (a := i) (b := 2) hx hb dL_law_1031 ?_
  refine lwX (i := i + 2) hx hb hX hbl hsz hS (by omega) (by omega) dL_law_1032 ?_
  refine lv_aload_n hx hb dL_law_1033 rfl (lv_at hl 3 rfl) ?_
  refine lwS (As := [.ref r, .int (xs (i + 1)), .int (xs (i + 2)), .ref (r + 211)]) (rest := []) hx hb hml hown hts hl.1 hK hKx hr0 (c_L_terms l hl0 D r (r + 211) (by omega) C J G n Y X U Z F O (xs (i + 1)) (xs (i + 2))) (gHS qM_L_135 qT_L_terms qK_L qC_L_terms) hds_L_terms ⟨(Nat.le_of_ble_eq_true rfl), (Nat.le_of_ble_eq_true rfl)⟩ ⟨hG, hO⟩ rfl (Nat.le_of_ble_eq_true rfl) ⟨by show cells + 2 ≤ 601024; omega, by show slots + 12 ≤ 7293034; omega⟩ dL_law_1034 hS hA1 (fun H locs hP hz hq hS => ?_)
  obtain ⟨hG, hO⟩ := hP
  have hM := hM.kept (fun q h => hq q (hM.lt h) (fun h2 => by rcases h2 with h2 | h2 <;> (have := h.1; have := h.2) <;> (try have := h2.2) <;> omega))
  refine lv_istore (lv' := [(5, .int (kq 3 (fE_X6_terms C (xs (i + 1)) (xs (i + 2))))), (0, .ref b), (1, .ref r), (2, .ref (r + 206)), (3, .ref (r + 211)), (4, .int (nI i))]) hx hb dL_law_1037 hl (by decide) rfl (fun ls hl => ?_)
  refine lv_aload_n hx hb dL_law_1039 rfl (lv_at hl 3 rfl) ?_
  refine lv_aload_n hx hb dL_law_1040 rfl (lv_at hl 1 rfl) ?_
  refine lv_iload hx hb dL_law_1041 (lv_at hl 5 rfl) ?_
  refine lv_iconst (v := 1) hx hb dL_law_1043 (by decide) ?_
  refine iaddN (a := i) (b := 1) hx hb dL_law_1044 ?_
  refine lwX (i := i + 1) hx hb hX hbl hsz hS (by omega) (by omega) dL_law_1045 ?_
  refine lv_aload_n hx hb dL_law_1046 rfl (lv_at hl 1 rfl) ?_
  refine lv_iload hx hb dL_law_1047 (lv_at hl 5 rfl) ?_
  refine lv_iconst (v := 2) hx hb dL_law_1049 (by decide) ?_
  refine iaddN (a := i) (b := 2) hx hb dL_law_1050 ?_
  refine lwX (i := i + 2) hx hb hX hbl hsz hS (by omega) (by omega) dL_law_1051 ?_
  refine gcVi (As := [.int (xs (i + 1)), .int (xs (i + 2))]) (rest := []) hx hb hml hown hts hl.1 hK (c_X7_terms l D (r + 206) P S V T Fm h (xs (i + 1)) (xs (i + 2))) (gaV qM_L_137 qI_X7_terms qS_X7_terms qK_X7 qC_X7_terms) hdv_X7_terms ⟨(Nat.le_of_ble_eq_true rfl), (Nat.le_of_ble_eq_true rfl)⟩ hM (hM.recv hK) rfl (Nat.le_of_ble_eq_true rfl) ⟨by show cells + 2 ≤ 601024; omega, by show slots + 12 ≤ 7293034; omega⟩ dL_law_1052 hS hA2 (fun H locs hM hz hq hS => ?_)
  have hG := hG.kept (fun q h => hq q (hG.lt h) (fun h2 => by have := h.2; have := h2.1; omega))
  have hO := Ou.kept hO (hq _ hO.lt (fun h2 => by have := h2.2; omega))
  refine lv_istore (lv' := [(6, .int (fR_X7_terms P Fm (xs (i + 1)) (xs (i + 2)))), (5, .int (kq 3 (fE_X6_terms C (xs (i + 1)) (xs (i + 2))))), (0, .ref b), (1, .ref r), (2, .ref (r + 206)), (3, .ref (r + 211)), (4, .int (nI i))]) hx hb dL_law_1055 hl (by decide) rfl (fun ls hl => ?_)
  refine lv_aload_n hx hb dL_law_1057 rfl (lv_at hl 4 rfl) ?_
  refine gcVi (As := []) (rest := []) hx hb hml hown hts hl.1 hK (c_X7_thrown l D (r + 206) _ _ _ _ _ _) (gaV qM_L_93 qI_X7_thrown qS_X7_thrown qK_X7 qC_X7_thrown) hdv_X7_thrown ⟨(Nat.le_of_ble_eq_true rfl), (Nat.le_of_ble_eq_true rfl)⟩ hM (hM.recv hK) rfl (Nat.le_of_ble_eq_true rfl) ⟨by show cells + 2 ≤ 601024; omega, by show slots + 12 ≤ 7293034; omega⟩ dL_law_1058 hS hA2 (fun H locs hM hz hq hS => ?_)
  have hG := hG.kept (fun q h => hq q (hG.lt h) (fun h2 => by have := h.2; have := h2.1; omega))
  have hO := Ou.kept hO (hq _ hO.lt (fun h2 => by have := h2.2; omega))
  refine lv_iload hx hb dL_law_1061 (lv_at hl 1 rfl) ?_
  refine lv_icmp_eq (tgt := 1068) hx hb dL_law_1063 (by decide) (fun cA => ?_) (fun cA => absurd u1.symm cA)
  refine lv_iload hx hb dL_law_1068 (lv_at hl 1 rfl) ?_
  have fin : ∀ (ls : Array Slot), lv_has ls 9 [(6, .int (fR_X7_terms P Fm (xs (i + 1)) (xs (i + 2)))), (5, .int (kq 3 (fE_X6_terms C (xs (i + 1)) (xs (i + 2))))), (0, .ref b), (1, .ref r), (2, .ref (r + 206)), (3, .ref (r + 211)), (4, .int (nI i))] → W p l e room_1 s m args below meth c H locs (cells + 2) (slots + 12) Q (F0 m 1085 ls []) := fun ls hl => by
    refine lv_goto (tgt := 1632) hx hb dL_law_1085 (by decide) ?_
    exact kk _ _ _ 2 12 (by omega) (by omega) ⟨_, _, _, _, _, _, _, _, _, _, _, _, _, _, _, _, hG, hM, hO, u3⟩ hS (lv_sub hl [2, 3, 4, 5, 6] rfl)
  refine lv_if_ne (tgt := 1085) hx hb dL_law_1070 (by decide) (fun cB => fin ls hl) (fun cB => ?_)
  have e0 : fE_X6_terms C (xs (i + 1)) (xs (i + 2)) = 0 := kq_0 cB
  refine lv_aload_n hx hb dL_law_1073 rfl (lv_at hl 5 rfl) ?_
  refine lv_iconst (v := 0) hx hb dL_law_1074 (by decide) ?_
  refine topN (n := 0) rfl ?_
  refine lwO hx hb hK hO dL_law_1075 ?_
  refine lv_iload hx hb dL_law_1076 (lv_at hl 0 rfl) ?_
  refine lv_i2l (v := (fR_X7_terms P Fm (xs (i + 1)) (xs (i + 2))).toInt64) hx hb dL_law_1078 rfl ?_
  refine W.lcmp hx hb dL_law_1079 ?_
  refine lv_if_eq (tgt := 1085) hx hb dL_law_1080 (by decide) (fun _ => fin ls hl) (fun cC => absurd ?_ cC)
  rw [e0, ou_0, u2 e0]
  exact lgc_self
