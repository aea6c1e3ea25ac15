/-! The law, case by case. -/
theorem law_creditsIn {p : Program} {l : Launch} {e : Env} {s : State} {m : MethodId} {args : Array Value} {below : List Frame} {meth : Method} {c : Code} {H : Heap} {locs : List Loc} {cells slots : Nat} {Q : State → Prop} {ls : Array Slot} {D : va_G} {b L r i : Nat} {xs : Nat → Int32} (hl0 : l.stackTraces = false) (hx : p.tables.exec = Jvm.exec) (hb : c.code = cL_law) (hml : c.maxLocals = 9) (hown : s.vm.findClass RL = some m.cls) (hts : ∀ w ∈ AW, w.before args s = true) (hK : Kn D s) (hKx : Kx r s) (hX : va_X b L xs s s.heap) (hbl : b < r) (hsz : s.heap.size = r) (hL : L ≤ 2560) (hi : i + 5 ≤ L) (hc1 : cells + 4 ≤ 601024) (hc2 : slots + 24 ≤ 7293034) (hS : va_S (fun q => r ≤ q) s.heap H locs) (hl : lv_has ls 9 [(0, .ref b), (1, .ref r), (2, .ref (r + 206)), (3, .ref (r + 211)), (4, .int (nI i))]) (hI : LI D r H)
    (kk : ∀ (H1 : Heap) (locs1 : List Loc) (ls1 : Array Slot) (k1 k2 : Nat), k1 ≤ 4 → k2 ≤ 24 → LI D r H1 → va_S (fun q => r ≤ q) s.heap H1 locs1 → lv_has ls1 9 [(0, .ref b), (1, .ref r), (2, .ref (r + 206)), (3, .ref (r + 211)), (4, .int (nI i))] → W p l e room_1 s m args below meth c H1 locs1 (cells + k1) (slots + k2) Q (F0 m 1632 ls1 [])) : W p l e room_1 s m args below meth c H locs cells slots Q (F0 m 1129 ls []) := by
  obtain ⟨C, J, G, n, Y, X, U, Z, F, P, S, V, T, Fm, h, O, hG, hM, hO, hR⟩ := hI
  have hr0 : ∀ q, (fun q => r ≤ q) q → r ≤ q := fun _ h => h
  have hA1 : ∀ q, inH r (r + 211) q → r ≤ q := fun q h => h.elim (fun h => h.1) (fun h => by omega)
  have hA2 : ∀ q, inM (r + 206) q → r ≤ q := fun q h => by have := h.1; omega
  have hA3 : ∀ q, inS r q → r ≤ q := fun q h => h.1
  obtain ⟨u1, u2, u3⟩ := M_creditsIn (J := J) (S := S) (tmp := xs (i + 1)) (sn := xs (i + 2)) (hrs := xs (i + 3)) hR
  refine lv_aload_n hx hb dL_law_1129 rfl (lv_at hl 1 rfl) ?_
  refine lv_aload_n hx hb dL_law_1130 rfl (lv_at hl 0 rfl) ?_
  refine lv_iload hx hb dL_law_1131 (lv_at hl 4 rfl) ?_
  refine lv_iconst (v := 1) hx hb dL_law_1133 (by decide) ?_
  refine iaddN (a := i) (b := 1) hx hb dL_law_1134 ?_
  refine lwX (i := i + 1) hx hb hX hbl hsz hS (by omega) (by omega) dL_law_1135 ?_
  refine lv_aload_n hx hb dL_law_1136 rfl (lv_at hl 0 rfl) ?_
  refine lv_iload hx hb dL_law_1137 (lv_at hl 4 rfl) ?_
  refine lv_iconst (v := 2) hx hb dL_law_1139 (by decide) ?_
  refine iaddN (a := i) (b := 2) hx hb dL_law_1140 ?_
  refine lwX (i := i + 2) hx hb hX hbl hsz hS (by omega) (by omega) dL_law_1141 ?_
  refine lv_aload_n hx hb dL_law_1142 rfl (lv_at hl 0 rfl) ?_
  refine lv_iload hx hb dL_law_1143 (lv_at hl 4 rfl) ?_
  refine lv_iconst (v := 3) hx hb dL_law_1145 (by decide) ?_
  refine iaddN (a := i) (b := 3) hx hb dL_law_1146 ?_
  refine lwX (i := i + 3) hx hb hX hbl hsz hS (by omega) (by omega) dL_law_1147 ?_
  refine lv_aload_n hx hb dL_law_1148 rfl (lv_at hl 3 rfl) ?_
  refine lwS (As := [.ref r, .int (xs (i + 1)), .int (xs (i + 2)), .int (xs (i + 3)), .ref (r + 211)]) (rest := []) hx hb hml hown hts hl.1 hK hKx hr0 (c_L_creditsIn l hl0 D r (r + 211) (by omega) C J G n Y X U Z F O (xs (i + 1)) (xs (i + 2)) (xs (i + 3)) hR.1.good.1 hR.1.okQ) (gHS qM_L_143 qT_L_creditsIn qK_L qC_L_creditsIn) hds_L_creditsIn ⟨(Nat.le_of_ble_eq_true rfl), (Nat.le_of_ble_eq_true rfl)⟩ ⟨hG, hO⟩ rfl (Nat.le_of_ble_eq_true rfl) ⟨by show cells + 3 ≤ 601024; omega, by show slots + 18 ≤ 7293034; omega⟩ dL_law_1149 hS hA1 (fun H locs hP hz hq hS => ?_)
  obtain ⟨hG, hO⟩ := hP
  have hM := hM.kept (fun q h => hq q (hM.lt h) (fun h2 => by rcases h2 with h2 | h2 <;> (have := h.1; have := h.2) <;> (try have := h2.2) <;> omega))
  refine lv_istore (lv' := [(5, .int (kq 1 (fE_X6_creditsIn C J (xs (i + 1)) (xs (i + 2)) (xs (i + 3))))), (0, .ref b), (1, .ref r), (2, .ref (r + 206)), (3, .ref (r + 211)), (4, .int (nI i))]) hx hb dL_law_1152 hl (by decide) rfl (fun ls hl => ?_)
  refine lv_aload_n hx hb dL_law_1154 rfl (lv_at hl 3 rfl) ?_
  refine lv_aload_n hx hb dL_law_1155 rfl (lv_at hl 1 rfl) ?_
  refine lv_iload hx hb dL_law_1156 (lv_at hl 5 rfl) ?_
  refine lv_iconst (v := 1) hx hb dL_law_1158 (by decide) ?_
  refine iaddN (a := i) (b := 1) hx hb dL_law_1159 ?_
  refine lwX (i := i + 1) hx hb hX hbl hsz hS (by omega) (by omega) dL_law_1160 ?_
  refine lv_aload_n hx hb dL_law_1161 rfl (lv_at hl 1 rfl) ?_
  refine lv_iload hx hb dL_law_1162 (lv_at hl 5 rfl) ?_
  refine lv_iconst (v := 2) hx hb dL_law_1164 (by decide) ?_
  refine iaddN (a := i) (b := 2) hx hb dL_law_1165 ?_
  refine lwX (i := i + 2) hx hb hX hbl hsz hS (by omega) (by omega) dL_law_1166 ?_
  refine lv_aload_n hx hb dL_law_1167 rfl (lv_at hl 1 rfl) ?_
  refine lv_iload hx hb dL_law_1168 (lv_at hl 5 rfl) ?_
  refine lv_iconst (v := 3) hx hb dL_law_1170 (by decide) ?_
  refine iaddN (a := i) (b := 3) hx hb dL_law_1171 ?_
  refine lwX (i := i + 3) hx hb hX hbl hsz hS (by omega) (by omega) dL_law_1172 ?_
  refine gcVi (As := [.int (xs (i + 1)), .int (xs (i + 2)), .int (xs (i + 3))]) (rest := []) hx hb hml hown hts hl.1 hK (c_X7_creditsIn l D (r + 206) P S V T Fm h (xs (i + 1)) (xs (i + 2)) (xs (i + 3)) hR.1.2.2.1.1) (gaV qM_L_145 qI_X7_creditsIn qS_X7_creditsIn qK_X7 qC_X7_creditsIn) hdv_X7_creditsIn ⟨(Nat.le_of_ble_eq_true rfl), (Nat.le_of_ble_eq_true rfl)⟩ hM (hM.recv hK) rfl (Nat.le_of_ble_eq_true rfl) ⟨by show cells + 3 ≤ 601024; omega, by show slots + 18 ≤ 7293034; omega⟩ dL_law_1173 hS hA2 (fun H locs hM hz hq hS => ?_)
  have hG := hG.kept (fun q h => hq q (hG.lt h) (fun h2 => by have := h.2; have := h2.1; omega))
  have hO := Ou.kept hO (hq _ hO.lt (fun h2 => by have := h2.2; omega))
  refine lv_istore (lv' := [(6, .int (fR_X7_creditsIn P S Fm (xs (i + 1)) (xs (i + 2)) (xs (i + 3)))), (5, .int (kq 1 (fE_X6_creditsIn C J (xs (i + 1)) (xs (i + 2)) (xs (i + 3))))), (0, .ref b), (1, .ref r), (2, .ref (r + 206)), (3, .ref (r + 211)), (4, .int (nI i))]) hx hb dL_law_1176 hl (by decide) rfl (fun ls hl => ?_)
  refine lv_aload_n hx hb dL_law_1178 rfl (lv_at hl 4 rfl) ?_
  refine gcVi (As := []) (rest := []) hx hb hml hown hts hl.1 hK (c_X7_thrown l D (r + 206) _ _ _ _ _ _) (gaV qM_L_93 qI_X7_thrown qS_X7_thrown qK_X7 qC_X7_thrown) hdv_X7_thrown ⟨(Nat.le_of_ble_eq_true rfl), (Nat.le_of_ble_eq_true rfl)⟩ hM (hM.recv hK) rfl (Nat.le_of_ble_eq_true rfl) ⟨by show cells + 3 ≤ 601024; omega, by show slots + 18 ≤ 7293034; omega⟩ dL_law_1179 hS hA2 (fun H locs hM hz hq hS => ?_)
  have hG := hG.kept (fun q h => hq q (hG.lt h) (fun h2 => by have := h.2; have := h2.1; omega))
  have hO := Ou.kept hO (hq _ hO.lt (fun h2 => by have := h2.2; omega))
  refine lv_iload hx hb dL_law_1182 (lv_at hl 1 rfl) ?_
  refine lv_icmp_eq (tgt := 1189) hx hb dL_law_1184 (by decide) (fun cA => ?_) (fun cA => absurd u1.symm cA)
  refine lv_iload hx hb dL_law_1189 (lv_at hl 1 rfl) ?_
  have fin : ∀ (ls : Array Slot), lv_has ls 9 [(6, .int (fR_X7_creditsIn P S Fm (xs (i + 1)) (xs (i + 2)) (xs (i + 3)))), (5, .int (kq 1 (fE_X6_creditsIn C J (xs (i + 1)) (xs (i + 2)) (xs (i + 3))))), (0, .ref b), (1, .ref r), (2, .ref (r + 206)), (3, .ref (r + 211)), (4, .int (nI i))] → W p l e room_1 s m args below meth c H locs (cells + 3) (slots + 18) Q (F0 m 1206 ls []) := fun ls hl => by
    refine lv_goto (tgt := 1632) hx hb dL_law_1206 (by decide) ?_
    exact kk _ _ _ 3 18 (by omega) (by omega) ⟨_, _, _, _, _, _, _, _, _, _, _, _, _, _, _, _, hG, hM, hO, u3⟩ hS (lv_sub hl [2, 3, 4, 5, 6] rfl)
  refine lv_if_ne (tgt := 1206) hx hb dL_law_1191 (by decide) (fun cB => fin ls hl) (fun cB => ?_)
  have e0 : fE_X6_creditsIn C J (xs (i + 1)) (xs (i + 2)) (xs (i + 3)) = 0 := kq_0 cB
  refine lv_aload_n hx hb dL_law_1194 rfl (lv_at hl 5 rfl) ?_
  refine lv_iconst (v := 0) hx hb dL_law_1195 (by decide) ?_
  refine topN (n := 0) rfl ?_
  refine lwO hx hb hK hO dL_law_1196 ?_
  refine lv_iload hx hb dL_law_1197 (lv_at hl 0 rfl) ?_
  refine lv_i2l (v := (fR_X7_creditsIn P S Fm (xs (i + 1)) (xs (i + 2)) (xs (i + 3))).toInt64) hx hb dL_law_1199 rfl ?_
  refine W.lcmp hx hb dL_law_1200 ?_
  refine lv_if_eq (tgt := 1206) hx hb dL_law_1201 (by decide) (fun _ => fin ls hl) (fun cC => absurd ?_ cC)
  rw [e0, ou_0, u2 e0]
  exact lgc_self
theorem law_bestExchange {p : Program} {l : Launch} {e : Env} {s : State} {m : MethodId} {args : Array Value} {below : List Frame} {meth : Method} {c : Code} {H : Heap} {locs : List Loc} {cells slots : Nat} {Q : State → Prop} {ls : Array Slot} {D : va_G} {b L r i : Nat} {xs : Nat → Int32} (hl0 : l.stackTraces = false) (hx : p.tables.exec = Jvm.exec) (hb : c.code = cL_law) (hml : c.maxLocals = 9) (hown : s.vm.findClass RL = some m.cls) (hts : ∀ w ∈ AW, w.before args s = true) (hK : Kn D s) (hKx : Kx r s) (hX : va_X b L xs s s.heap) (hbl : b < r) (hsz : s.heap.size = r) (hL : L ≤ 2560) (hi : i + 5 ≤ L) (hc1 : cells + 4 ≤ 601024) (hc2 : slots + 24 ≤ 7293034) (hS : va_S (fun q => r ≤ q) s.heap H locs) (hl : lv_has ls 9 [(0, .ref b), (1, .ref r), (2, .ref (r + 206)), (3, .ref (r + 211)), (4, .int (nI i))]) (hI : LI D r H)
    (kk : ∀ (H1 : Heap) (locs1 : List Loc) (ls1 : Array Slot) (k1 k2 : Nat), k1 ≤ 4 → k2 ≤ 24 → LI D r H1 → va_S (fun q => r ≤ q) s.heap H1 locs1 → lv_has ls1 9 [(0, .ref b), (1, .ref r), (2, .ref (r + 206)), (3, .ref (r + 211)), (4, .int (nI i))] → W p l e room_1 s m args below meth c H1 locs1 (cells + k1) (slots + k2) Q (F0 m 1632 ls1 [])) : W p l e room_1 s m args below meth c H locs cells slots Q (F0 m 1209 ls []) := by
  obtain ⟨C, J, G, n, Y, X, U, Z, F, P, S, V, T, Fm, h, O, hG, hM, hO, hR⟩ := hI
  have hr0 : ∀ q, (fun q => r ≤ q) q → r ≤ q := fun _ h => h
  have hA1 : ∀ q, inH r (r + 211) q → r ≤ q := fun q h => h.elim (fun h => h.1) (fun h => by omega)
  have hA2 : ∀ q, inM (r + 206) q → r ≤ q := fun q h => by have := h.1; omega
  have hA3 : ∀ q, inS r q → r ≤ q := fun q h => h.1
  obtain ⟨u1, u2, u3⟩ := M_bestExchange (J := J) (S := S) (pl := xs (i + 1)) (tmp := xs (i + 2)) (sn := xs (i + 3)) (hrs := xs (i + 4)) hR
  refine lv_aload_n hx hb dL_law_1209 rfl (lv_at hl 1 rfl) ?_
  refine lv_aload_n hx hb dL_law_1210 rfl (lv_at hl 0 rfl) ?_
  refine lv_iload hx hb dL_law_1211 (lv_at hl 4 rfl) ?_
  refine lv_iconst (v := 1) hx hb dL_law_1213 (by decide) ?_
  refine iaddN (a := i) (b := 1) hx hb dL_law_1214 ?_
  refine lwX (i := i + 1) hx hb hX hbl hsz hS (by omega) (by omega) dL_law_1215 ?_
  refine lv_aload_n hx hb dL_law_1216 rfl (lv_at hl 0 rfl) ?_
  refine lv_iload hx hb dL_law_1217 (lv_at hl 4 rfl) ?_
  refine lv_iconst (v := 2) hx hb dL_law_1219 (by decide) ?_
  refine iaddN (a := i) (b := 2) hx hb dL_law_1220 ?_
  refine lwX (i := i + 2) hx hb hX hbl hsz hS (by omega) (by omega) dL_law_1221 ?_
  refine lv_aload_n hx hb dL_law_1222 rfl (lv_at hl 0 rfl) ?_
  refine lv_iload hx hb dL_law_1223 (lv_at hl 4 rfl) ?_
  refine lv_iconst (v := 3) hx hb dL_law_1225 (by decide) ?_
  refine iaddN (a := i) (b := 3) hx hb dL_law_1226 ?_
  refine lwX (i := i + 3) hx hb hX hbl hsz hS (by omega) (by omega) dL_law_1227 ?_
  refine lv_aload_n hx hb dL_law_1228 rfl (lv_at hl 0 rfl) ?_
  refine lv_iload hx hb dL_law_1229 (lv_at hl 4 rfl) ?_
  refine lv_iconst (v := 4) hx hb dL_law_1231 (by decide) ?_
  refine iaddN (a := i) (b := 4) hx hb dL_law_1232 ?_
  refine lwX (i := i + 4) hx hb hX hbl hsz hS (by omega) (by omega) dL_law_1233 ?_
  refine lv_aload_n hx hb dL_law_1234 rfl (lv_at hl 3 rfl) ?_
  refine lwS (As := [.ref r, .int (xs (i + 1)), .int (xs (i + 2)), .int (xs (i + 3)), .int (xs (i + 4)), .ref (r + 211)]) (rest := []) hx hb hml hown hts hl.1 hK hKx hr0 (c_L_bestExchange l hl0 D r (r + 211) (by omega) C J G n Y X U Z F O (xs (i + 1)) (xs (i + 2)) (xs (i + 3)) (xs (i + 4)) hR.1.good.1 hR.1.okQ) (gHS qM_L_146 qT_L_bestExchange qK_L qC_L_bestExchange) hds_L_bestExchange ⟨(Nat.le_of_ble_eq_true rfl), (Nat.le_of_ble_eq_true rfl)⟩ ⟨hG, hO⟩ rfl (Nat.le_of_ble_eq_true rfl) ⟨by show cells + 4 ≤ 601024; omega, by show slots + 24 ≤ 7293034; omega⟩ dL_law_1235 hS hA1 (fun H locs hP hz hq hS => ?_)
  obtain ⟨hG, hO⟩ := hP
  have hM := hM.kept (fun q h => hq q (hM.lt h) (fun h2 => by rcases h2 with h2 | h2 <;> (have := h.1; have := h.2) <;> (try have := h2.2) <;> omega))
  refine lv_istore (lv' := [(5, .int (kq 3 (fE_X6_bestExchange C J (xs (i + 1)) (xs (i + 2)) (xs (i + 3)) (xs (i + 4))))), (0, .ref b), (1, .ref r), (2, .ref (r + 206)), (3, .ref (r + 211)), (4, .int (nI i))]) hx hb dL_law_1238 hl (by decide) rfl (fun ls hl => ?_)
  refine lv_aload_n hx hb dL_law_1240 rfl (lv_at hl 3 rfl) ?_
  refine lv_aload_n hx hb dL_law_1241 rfl (lv_at hl 1 rfl) ?_
  refine lv_iload hx hb dL_law_1242 (lv_at hl 5 rfl) ?_
  refine lv_iconst (v := 1) hx hb dL_law_1244 (by decide) ?_
  refine iaddN (a := i) (b := 1) hx hb dL_law_1245 ?_
  refine lwX (i := i + 1) hx hb hX hbl hsz hS (by omega) (by omega) dL_law_1246 ?_
  refine lv_aload_n hx hb dL_law_1247 rfl (lv_at hl 1 rfl) ?_
  refine lv_iload hx hb dL_law_1248 (lv_at hl 5 rfl) ?_
  refine lv_iconst (v := 2) hx hb dL_law_1250 (by decide) ?_
  refine iaddN (a := i) (b := 2) hx hb dL_law_1251 ?_
  refine lwX (i := i + 2) hx hb hX hbl hsz hS (by omega) (by omega) dL_law_1252 ?_
  refine lv_aload_n hx hb dL_law_1253 rfl (lv_at hl 1 rfl) ?_
  refine lv_iload hx hb dL_law_1254 (lv_at hl 5 rfl) ?_
  refine lv_iconst (v := 3) hx hb dL_law_1256 (by decide) ?_
  refine iaddN (a := i) (b := 3) hx hb dL_law_1257 ?_
  refine lwX (i := i + 3) hx hb hX hbl hsz hS (by omega) (by omega) dL_law_1258 ?_
  refine lv_aload_n hx hb dL_law_1259 rfl (lv_at hl 1 rfl) ?_
  refine lv_iload hx hb dL_law_1260 (lv_at hl 5 rfl) ?_
  refine lv_iconst (v := 4) hx hb dL_law_1262 (by decide) ?_
  refine iaddN (a := i) (b := 4) hx hb dL_law_1263 ?_
  refine lwX (i := i + 4) hx hb hX hbl hsz hS (by omega) (by omega) dL_law_1264 ?_
  refine gcVi (As := [.int (xs (i + 1)), .int (xs (i + 2)), .int (xs (i + 3)), .int (xs (i + 4))]) (rest := []) hx hb hml hown hts hl.1 hK (c_X7_bestExchange l D (r + 206) P S V T Fm h (xs (i + 1)) (xs (i + 2)) (xs (i + 3)) (xs (i + 4)) hR.1.2.2.1.1 (fun q hq => (hR.1.2.2.2.1 q hq).1)) (gaV qM_L_148 qI_X7_bestExchange qS_X7_bestExchange qK_X7 qC_X7_bestExchange) hdv_X7_bestExchange ⟨(Nat.le_of_ble_eq_true rfl), (Nat.le_of_ble_eq_true rfl)⟩ hM (hM.recv hK) rfl (Nat.le_of_ble_eq_true rfl) ⟨by show cells + 4 ≤ 601024; omega, by show slots + 24 ≤ 7293034; omega⟩ dL_law_1265 hS hA2 (fun H locs hM hz hq hS => ?_)
  have hG := hG.kept (fun q h => hq q (hG.lt h) (fun h2 => by have := h.2; have := h2.1; omega))
  have hO := Ou.kept hO (hq _ hO.lt (fun h2 => by have := h2.2; omega))
  refine lv_istore (lv' := [(6, .int (fR_X7_bestExchange P S Fm (xs (i + 1)) (xs (i + 2)) (xs (i + 3)) (xs (i + 4)))), (5, .int (kq 3 (fE_X6_bestExchange C J (xs (i + 1)) (xs (i + 2)) (xs (i + 3)) (xs (i + 4))))), (0, .ref b), (1, .ref r), (2, .ref (r + 206)), (3, .ref (r + 211)), (4, .int (nI i))]) hx hb dL_law_1268 hl (by decide) rfl (fun ls hl => ?_)
  refine lv_aload_n hx hb dL_law_1270 rfl (lv_at hl 4 rfl) ?_
  refine gcVi (As := []) (rest := []) hx hb hml hown hts hl.1 hK (c_X7_thrown l D (r + 206) _ _ _ _ _ _) (gaV qM_L_93 qI_X7_thrown qS_X7_thrown qK_X7 qC_X7_thrown) hdv_X7_thrown ⟨(Nat.le_of_ble_eq_true rfl), (Nat.le_of_ble_eq_true rfl)⟩ hM (hM.recv hK) rfl (Nat.le_of_ble_eq_true rfl) ⟨by show cells + 4 ≤ 601024; omega, by show slots + 24 ≤ 7293034; omega⟩ dL_law_1271 hS hA2 (fun H locs hM hz hq hS => ?_)
  have hG := hG.kept (fun q h => hq q (hG.lt h) (fun h2 => by have := h.2; have := h2.1; omega))
  have hO := Ou.kept hO (hq _ hO.lt (fun h2 => by have := h2.2; omega))
  refine lv_iload hx hb dL_law_1274 (lv_at hl 1 rfl) ?_
  refine lv_icmp_eq (tgt := 1281) hx hb dL_law_1276 (by decide) (fun cA => ?_) (fun cA => absurd u1.symm cA)
  refine lv_iload hx hb dL_law_1281 (lv_at hl 1 rfl) ?_
  have fin : ∀ (ls : Array Slot), lv_has ls 9 [(6, .int (fR_X7_bestExchange P S Fm (xs (i + 1)) (xs (i + 2)) (xs (i + 3)) (xs (i + 4)))), (5, .int (kq 3 (fE_X6_bestExchange C J (xs (i + 1)) (xs (i + 2)) (xs (i + 3)) (xs (i + 4))))), (0, .ref b), (1, .ref r), (2, .ref (r + 206)), (3, .ref (r + 211)), (4, .int (nI i))] → W p l e room_1 s m args below meth c H locs (cells + 4) (slots + 24) Q (F0 m 1298 ls []) := fun ls hl => by
    refine lv_goto (tgt := 1632) hx hb dL_law_1298 (by decide) ?_
    exact kk _ _ _ 4 24 (by omega) (by omega) ⟨_, _, _, _, _, _, _, _, _, _, _, _, _, _, _, _, hG, hM, hO, u3⟩ hS (lv_sub hl [2, 3, 4, 5, 6] rfl)
  refine lv_if_ne (tgt := 1298) hx hb dL_law_1283 (by decide) (fun cB => fin ls hl) (fun cB => ?_)
  have e0 : fE_X6_bestExchange C J (xs (i + 1)) (xs (i + 2)) (xs (i + 3)) (xs (i + 4)) = 0 := kq_0 cB
  refine lv_aload_n hx hb dL_law_1286 rfl (lv_at hl 5 rfl) ?_
  refine lv_iconst (v := 0) hx hb dL_law_1287 (by decide) ?_
  refine topN (n := 0) rfl ?_
  refine lwO hx hb hK hO dL_law_1288 ?_
  refine lv_iload hx hb dL_law_1289 (lv_at hl 0 rfl) ?_
  refine lv_i2l (v := (fR_X7_bestExchange P S Fm (xs (i + 1)) (xs (i + 2)) (xs (i + 3)) (xs (i + 4))).toInt64) hx hb dL_law_1291 rfl ?_
  refine W.lcmp hx hb dL_law_1292 ?_
  refine lv_if_eq (tgt := 1298) hx hb dL_law_1293 (by decide) (fun _ => fin ls hl) (fun cC => absurd ?_ cC)
  rw [e0, ou_0, u2 e0]
  exact lgc_self
theorem law_leastSpeed {p : Program} {l : Launch} {e : Env} {s : State} {m : MethodId} {args : Array Value} {below : List Frame} {meth : Method} {c : Code} {H : Heap} {locs : List Loc} {cells slots : Nat} {Q : State → Prop} {ls : Array Slot} {D : va_G} {b L r i : Nat} {xs : Nat → Int32} (hl0 : l.stackTraces = false) (hx : p.tables.exec = Jvm.exec) (hb : c.code = cL_law) (hml : c.maxLocals = 9) (hown : s.vm.findClass RL = some m.cls) (hts : ∀ w ∈ AW, w.before args s = true) (hK : Kn D s) (hKx : Kx r s) (hX : va_X b L xs s s.heap) (hbl : b < r) (hsz : s.heap.size = r) (hL : L ≤ 2560) (hi : i + 5 ≤ L) (hc1 : cells + 4 ≤ 601024) (hc2 : slots + 24 ≤ 7293034) (hS : va_S (fun q => r ≤ q) s.heap H locs) (hl : lv_has ls 9 [(0, .ref b), (1, .ref r), (2, .ref (r + 206)), (3, .ref (r + 211)), (4, .int (nI i))]) (hI : LI D r H)
    (kk : ∀ (H1 : Heap) (locs1 : List Loc) (ls1 : Array Slot) (k1 k2 : Nat), k1 ≤ 4 → k2 ≤ 24 → LI D r H1 → va_S (fun q => r ≤ q) s.heap H1 locs1 → lv_has ls1 9 [(0, .ref b), (1, .ref r), (2, .ref (r + 206)), (3, .ref (r + 211)), (4, .int (nI i))] → W p l e room_1 s m args below meth c H1 locs1 (cells + k1) (slots + k2) Q (F0 m 1632 ls1 [])) : W p l e room_1 s m args below meth c H locs cells slots Q (F0 m 1301 ls []) := by
  obtain ⟨C, J, G, n, Y, X, U, Z, F, P, S, V, T, Fm, h, O, hG, hM, hO, hR⟩ := hI
  have hr0 : ∀ q, (fun q => r ≤ q) q → r ≤ q := fun _ h => h
  have hA1 : ∀ q, inH r (r + 211) q → r ≤ q := fun q h => h.elim (fun h => h.1) (fun h => by omega)
  have hA2 : ∀ q, inM (r + 206) q → r ≤ q := fun q h => by have := h.1; omega
  have hA3 : ∀ q, inS r q → r ≤ q := fun q h => h.1
  obtain ⟨u1, u2, u3⟩ := M_leastSpeed (J := J) (S := S) (pl := xs (i + 1)) (tmp := xs (i + 2)) (sn := xs (i + 3)) (hrs := xs (i + 4)) hR
  refine lv_aload_n hx hb dL_law_1301 rfl (lv_at hl 1 rfl) ?_
  refine lv_aload_n hx hb dL_law_1302 rfl (lv_at hl 0 rfl) ?_
  refine lv_iload hx hb dL_law_1303 (lv_at hl 4 rfl) ?_
  refine lv_iconst (v := 1) hx hb dL_law_1305 (by decide) ?_
  refine iaddN (a := i) (b := 1) hx hb dL_law_1306 ?_
  refine lwX (i := i + 1) hx hb hX hbl hsz hS (by omega) (by omega) dL_law_1307 ?_
  refine lv_aload_n hx hb dL_law_1308 rfl (lv_at hl 0 rfl) ?_
  refine lv_iload hx hb dL_law_1309 (lv_at hl 4 rfl) ?_
  refine lv_iconst (v := 2) hx hb dL_law_1311 (by decide) ?_
  refine iaddN (a := i) (b := 2) hx hb dL_law_1312 ?_
  refine lwX (i := i + 2) hx hb hX hbl hsz hS (by omega) (by omega) dL_law_1313 ?_
  refine lv_aload_n hx hb dL_law_1314 rfl (lv_at hl 0 rfl) ?_
  refine lv_iload hx hb dL_law_1315 (lv_at hl 4 rfl) ?_
  refine lv_iconst (v := 3) hx hb dL_law_1317 (by decide) ?_
  refine iaddN (a := i) (b := 3) hx hb dL_law_1318 ?_
  refine lwX (i := i + 3) hx hb hX hbl hsz hS (by omega) (by omega) dL_law_1319 ?_
  refine lv_aload_n hx hb dL_law_1320 rfl (lv_at hl 0 rfl) ?_
  refine lv_iload hx hb dL_law_1321 (lv_at hl 4 rfl) ?_
  refine lv_iconst (v := 4) hx hb dL_law_1323 (by decide) ?_
  refine iaddN (a := i) (b := 4) hx hb dL_law_1324 ?_
  refine lwX (i := i + 4) hx hb hX hbl hsz hS (by omega) (by omega) dL_law_1325 ?_
  refine lv_aload_n hx hb dL_law_1326 rfl (lv_at hl 3 rfl) ?_
  refine lwS (As := [.ref r, .int (xs (i + 1)), .int (xs (i + 2)), .int (xs (i + 3)), .int (xs (i + 4)), .ref (r + 211)]) (rest := []) hx hb hml hown hts hl.1 hK hKx hr0 (c_L_leastSpeed l hl0 D r (r + 211) (by omega) C J G n Y X U Z F O (xs (i + 1)) (xs (i + 2)) (xs (i + 3)) (xs (i + 4)) hR.1.good.1 hR.1.okQ) (gHS qM_L_149 qT_L_leastSpeed qK_L qC_L_leastSpeed) hds_L_leastSpeed ⟨(Nat.le_of_ble_eq_true rfl), (Nat.le_of_ble_eq_true rfl)⟩ ⟨hG, hO⟩ rfl (Nat.le_of_ble_eq_true rfl) ⟨by show cells + 4 ≤ 601024; omega, by show slots + 24 ≤ 7293034; omega⟩ dL_law_1327 hS hA1 (fun H locs hP hz hq hS => ?_)
  obtain ⟨hG, hO⟩ := hP
  have hM := hM.kept (fun q h => hq q (hM.lt h) (fun h2 => by rcases h2 with h2 | h2 <;> (have := h.1; have := h.2) <;> (try have := h2.2) <;> omega))
  refine lv_istore (lv' := [(5, .int (kq 3 (fE_X6_leastSpeed C J (xs (i + 1)) (xs (i + 2)) (xs (i + 3)) (xs (i + 4))))), (0, .ref b), (1, .ref r), (2, .ref (r + 206)), (3, .ref (r + 211)), (4, .int (nI i))]) hx hb dL_law_1330 hl (by decide) rfl (fun ls hl => ?_)
  refine lv_aload_n hx hb dL_law_1332 rfl (lv_at hl 3 rfl) ?_
  refine lv_aload_n hx hb dL_law_1333 rfl (lv_at hl 1 rfl) ?_
  refine lv_iload hx hb dL_law_1334 (lv_at hl 5 rfl) ?_
  refine lv_iconst (v := 1) hx hb dL_law_1336 (by decide) ?_
  refine iaddN (a := i) (b := 1) hx hb dL_law_1337 ?_
  refine lwX (i := i + 1) hx hb hX hbl hsz hS (by omega) (by omega) dL_law_1338 ?_
  refine lv_aload_n hx hb dL_law_1339 rfl (lv_at hl 1 rfl) ?_
  refine lv_iload hx hb dL_law_1340 (lv_at hl 5 rfl) ?_
  refine lv_iconst (v := 2) hx hb dL_law_1342 (by decide) ?_
  refine iaddN (a := i) (b := 2) hx hb dL_law_1343 ?_
  refine lwX (i := i + 2) hx hb hX hbl hsz hS (by omega) (by omega) dL_law_1344 ?_
  refine lv_aload_n hx hb dL_law_1345 rfl (lv_at hl 1 rfl) ?_
  refine lv_iload hx hb dL_law_1346 (lv_at hl 5 rfl) ?_
  refine lv_iconst (v := 3) hx hb dL_law_1348 (by decide) ?_
  refine iaddN (a := i) (b := 3) hx hb dL_law_1349 ?_
  refine lwX (i := i + 3) hx hb hX hbl hsz hS (by omega) (by omega) dL_law_1350 ?_
  refine lv_aload_n hx hb dL_law_1351 rfl (lv_at hl 1 rfl) ?_
  refine lv_iload hx hb dL_law_1352 (lv_at hl 5 rfl) ?_
  refine lv_iconst (v := 4) hx hb dL_law_1354 (by decide) ?_
  refine iaddN (a := i) (b := 4) hx hb dL_law_1355 ?_
  refine lwX (i := i + 4) hx hb hX hbl hsz hS (by omega) (by omega) dL_law_1356 ?_
  refine gcVi (As := [.int (xs (i + 1)), .int (xs (i + 2)), .int (xs (i + 3)), .int (xs (i + 4))]) (rest := []) hx hb hml hown hts hl.1 hK (c_X7_leastSpeed l D (r + 206) P S V T Fm h (xs (i + 1)) (xs (i + 2)) (xs (i + 3)) (xs (i + 4)) hR.1.2.2.1.1) (gaV qM_L_151 qI_X7_leastSpeed qS_X7_leastSpeed qK_X7 qC_X7_leastSpeed) hdv_X7_leastSpeed ⟨(Nat.le_of_ble_eq_true rfl), (Nat.le_of_ble_eq_true rfl)⟩ hM (hM.recv hK) rfl (Nat.le_of_ble_eq_true rfl) ⟨by show cells + 4 ≤ 601024; omega, by show slots + 24 ≤ 7293034; omega⟩ dL_law_1357 hS hA2 (fun H locs hM hz hq hS => ?_)
  have hG := hG.kept (fun q h => hq q (hG.lt h) (fun h2 => by have := h.2; have := h2.1; omega))
  have hO := Ou.kept hO (hq _ hO.lt (fun h2 => by have := h2.2; omega))
  refine lv_istore (lv' := [(6, .int (fR_X7_leastSpeed P S Fm (xs (i + 1)) (xs (i + 2)) (xs (i + 3)) (xs (i + 4)))), (5, .int (kq 3 (fE_X6_leastSpeed C J (xs (i + 1)) (xs (i + 2)) (xs (i + 3)) (xs (i + 4))))), (0, .ref b), (1, .ref r), (2, .ref (r + 206)), (3, .ref (r + 211)), (4, .int (nI i))]) hx hb dL_law_1360 hl (by decide) rfl (fun ls hl => ?_)
  refine lv_aload_n hx hb dL_law_1362 rfl (lv_at hl 4 rfl) ?_
  refine gcVi (As := []) (rest := []) hx hb hml hown hts hl.1 hK (c_X7_thrown l D (r + 206) _ _ _ _ _ _) (gaV qM_L_93 qI_X7_thrown qS_X7_thrown qK_X7 qC_X7_thrown) hdv_X7_thrown ⟨(Nat.le_of_ble_eq_true rfl), (Nat.le_of_ble_eq_true rfl)⟩ hM (hM.recv hK) rfl (Nat.le_of_ble_eq_true rfl) ⟨by show cells + 4 ≤ 601024; omega, by show slots + 24 ≤ 7293034; omega⟩ dL_law_1363 hS hA2 (fun H locs hM hz hq hS => ?_)
  have hG := hG.kept (fun q h => hq q (hG.lt h) (fun h2 => by have := h.2; have := h2.1; omega))
  have hO := Ou.kept hO (hq _ hO.lt (fun h2 => by have := h2.2; omega))
  refine lv_iload hx hb dL_law_1366 (lv_at hl 1 rfl) ?_
  refine lv_icmp_eq (tgt := 1373) hx hb dL_law_1368 (by decide) (fun cA => ?_) (fun cA => absurd u1.symm cA)
  refine lv_iload hx hb dL_law_1373 (lv_at hl 1 rfl) ?_
  have fin : ∀ (ls : Array Slot), lv_has ls 9 [(6, .int (fR_X7_leastSpeed P S Fm (xs (i + 1)) (xs (i + 2)) (xs (i + 3)) (xs (i + 4)))), (5, .int (kq 3 (fE_X6_leastSpeed C J (xs (i + 1)) (xs (i + 2)) (xs (i + 3)) (xs (i + 4))))), (0, .ref b), (1, .ref r), (2, .ref (r + 206)), (3, .ref (r + 211)), (4, .int (nI i))] → W p l e room_1 s m args below meth c H locs (cells + 4) (slots + 24) Q (F0 m 1390 ls []) := fun ls hl => by
    refine lv_goto (tgt := 1632) hx hb dL_law_1390 (by decide) ?_
    exact kk _ _ _ 4 24 (by omega) (by omega) ⟨_, _, _, _, _, _, _, _, _, _, _, _, _, _, _, _, hG, hM, hO, u3⟩ hS (lv_sub hl [2, 3, 4, 5, 6] rfl)
  refine lv_if_ne (tgt := 1390) hx hb dL_law_1375 (by decide) (fun cB => fin ls hl) (fun cB => ?_)
  have e0 : fE_X6_leastSpeed C J (xs (i + 1)) (xs (i + 2)) (xs (i + 3)) (xs (i + 4)) = 0 := kq_0 cB
  refine lv_aload_n hx hb dL_law_1378 rfl (lv_at hl 5 rfl) ?_
  refine lv_iconst (v := 0) hx hb dL_law_1379 (by decide) ?_
  refine topN (n := 0) rfl ?_
  refine lwO hx hb hK hO dL_law_1380 ?_
  refine lv_iload hx hb dL_law_1381 (lv_at hl 0 rfl) ?_
  refine lv_i2l (v := (fR_X7_leastSpeed P S Fm (xs (i + 1)) (xs (i + 2)) (xs (i + 3)) (xs (i + 4))).toInt64) hx hb dL_law_1383 rfl ?_
  refine W.lcmp hx hb dL_law_1384 ?_
  refine lv_if_eq (tgt := 1390) hx hb dL_law_1385 (by decide) (fun _ => fin ls hl) (fun cC => absurd ?_ cC)
  rw [e0, ou_0, u2 e0]
  exact lgc_self
theorem law_emptyIn {p : Program} {l : Launch} {e : Env} {s : State} {m : MethodId} {args : Array Value} {below : List Frame} {meth : Method} {c : Code} {H : Heap} {locs : List Loc} {cells slots : Nat} {Q : State → Prop} {ls : Array Slot} {D : va_G} {b L r i : Nat} {xs : Nat → Int32} (hl0 : l.stackTraces = false) (hx : p.tables.exec = Jvm.exec) (hb : c.code = cL_law) (hml : c.maxLocals = 9) (hown : s.vm.findClass RL = some m.cls) (hts : ∀ w ∈ AW, w.before args s = true) (hK : Kn D s) (hKx : Kx r s) (hX : va_X b L xs s s.heap) (hbl : b < r) (hsz : s.heap.size = r) (hL : L ≤ 2560) (hi : i + 5 ≤ L) (hc1 : cells + 4 ≤ 601024) (hc2 : slots + 24 ≤ 7293034) (hS : va_S (fun q => r ≤ q) s.heap H locs) (hl : lv_has ls 9 [(0, .ref b), (1, .ref r), (2, .ref (r + 206)), (3, .ref (r + 211)), (4, .int (nI i))]) (hI : LI D r H)
    (kk : ∀ (H1 : Heap) (locs1 : List Loc) (ls1 : Array Slot) (k1 k2 : Nat), k1 ≤ 4 → k2 ≤ 24 → LI D r H1 → va_S (fun q => r ≤ q) s.heap H1 locs1 → lv_has ls1 9 [(0, .ref b), (1, .ref r), (2, .ref (r + 206)), (3, .ref (r + 211)), (4, .int (nI i))] → W p l e room_1 s m args below meth c H1 locs1 (cells + k1) (slots + k2) Q (F0 m 1632 ls1 [])) : W p l e room_1 s m args below meth c H locs cells slots Q (F0 m 1393 ls []) := by
  obtain ⟨C, J, G, n, Y, X, U, Z, F, P, S, V, T, Fm, h, O, hG, hM, hO, hR⟩ := hI
  have hr0 : ∀ q, (fun q => r ≤ q) q → r ≤ q := fun _ h => h
  have hA1 : ∀ q, inH r (r + 211) q → r ≤ q := fun q h => h.elim (fun h => h.1) (fun h => by omega)
  have hA2 : ∀ q, inM (r + 206) q → r ≤ q := fun q h => by have := h.1; omega
  have hA3 : ∀ q, inS r q → r ≤ q := fun q h => h.1
  obtain ⟨u1, u2, u3⟩ := M_emptyIn (J := J) (S := S) (tmp := xs (i + 1)) (sn := xs (i + 2)) hR
  refine lv_aload_n hx hb dL_law_1393 rfl (lv_at hl 1 rfl) ?_
  refine lv_aload_n hx hb dL_law_1394 rfl (lv_at hl 0 rfl) ?_
  refine lv_iload hx hb dL_law_1395 (lv_at hl 4 rfl) ?_
  refine lv_iconst (v := 1) hx hb dL_law_1397 (by decide) ?_
  refine iaddN (a := i) (b := 1) hx hb dL_law_1398 ?_
  refine lwX (i := i + 1) hx hb hX hbl hsz hS (by omega) (by omega) dL_law_1399 ?_
  refine lv_aload_n hx hb dL_law_1400 rfl (lv_at hl 0 rfl) ?_
  refine lv_iload hx hb dL_law_1401 (lv_at hl 4 rfl) ?_
  refine lv_iconst (v := 2) hx hb dL_law_1403 (by decide) ?_
  refine iaddN (a := i) (b := 2) hx hb dL_law_1404 ?_
  refine lwX (i := i + 2) hx hb hX hbl hsz hS (by omega) (by omega) dL_law_1405 ?_
  refine lv_aload_n hx hb dL_law_1406 rfl (lv_at hl 3 rfl) ?_
  refine lwS (As := [.ref r, .int (xs (i + 1)), .int (xs (i + 2)), .ref (r + 211)]) (rest := []) hx hb hml hown hts hl.1 hK hKx hr0 (c_L_emptyIn l hl0 D r (r + 211) (by omega) C J G n Y X U Z F O (xs (i + 1)) (xs (i + 2)) hR.1.good.1 hR.1.okQ) (gHS qM_L_152 qT_L_emptyIn qK_L qC_L_emptyIn) hds_L_emptyIn ⟨(Nat.le_of_ble_eq_true rfl), (Nat.le_of_ble_eq_true rfl)⟩ ⟨hG, hO⟩ rfl (Nat.le_of_ble_eq_true rfl) ⟨by show cells + 2 ≤ 601024; omega, by show slots + 12 ≤ 7293034; omega⟩ dL_law_1407 hS hA1 (fun H locs hP hz hq hS => ?_)
  obtain ⟨hG, hO⟩ := hP
  have hM := hM.kept (fun q h => hq q (hM.lt h) (fun h2 => by rcases h2 with h2 | h2 <;> (have := h.1; have := h.2) <;> (try have := h2.2) <;> omega))
  refine lv_istore (lv' := [(5, .int (kq 1 (fE_X6_emptyIn C J (xs (i + 1)) (xs (i + 2))))), (0, .ref b), (1, .ref r), (2, .ref (r + 206)), (3, .ref (r + 211)), (4, .int (nI i))]) hx hb dL_law_1410 hl (by decide) rfl (fun ls hl => ?_)
  refine lv_aload_n hx hb dL_law_1412 rfl (lv_at hl 3 rfl) ?_
  refine lv_aload_n hx hb dL_law_1413 rfl (lv_at hl 1 rfl) ?_
  refine lv_iload hx hb dL_law_1414 (lv_at hl 5 rfl) ?_
  refine lv_iconst (v := 1) hx hb dL_law_1416 (by decide) ?_
  refine iaddN (a := i) (b := 1) hx hb dL_law_1417 ?_
  refine lwX (i := i + 1) hx hb hX hbl hsz hS (by omega) (by omega) dL_law_1418 ?_
  refine lv_aload_n hx hb dL_law_1419 rfl (lv_at hl 1 rfl) ?_
  refine lv_iload hx hb dL_law_1420 (lv_at hl 5 rfl) ?_
  refine lv_iconst (v := 2) hx hb dL_law_1422 (by decide) ?_
  refine iaddN (a := i) (b := 2) hx hb dL_law_1423 ?_
  refine lwX (i := i + 2) hx hb hX hbl hsz hS (by omega) (by omega) dL_law_1424 ?_
  refine gcVi (As := [.int (xs (i + 1)), .int (xs (i + 2))]) (rest := []) hx hb hml hown hts hl.1 hK (c_X7_emptyIn l D (r + 206) P S V T Fm h (xs (i + 1)) (xs (i + 2)) hR.1.2.2.1.1) (gaV qM_L_154 qI_X7_emptyIn qS_X7_emptyIn qK_X7 qC_X7_emptyIn) hdv_X7_emptyIn ⟨(Nat.le_of_ble_eq_true rfl), (Nat.le_of_ble_eq_true rfl)⟩ hM (hM.recv hK) rfl (Nat.le_of_ble_eq_true rfl) ⟨by show cells + 2 ≤ 601024; omega, by show slots + 12 ≤ 7293034; omega⟩ dL_law_1425 hS hA2 (fun H locs hM hz hq hS => ?_)
  have hG := hG.kept (fun q h => hq q (hG.lt h) (fun h2 => by have := h.2; have := h2.1; omega))
  have hO := Ou.kept hO (hq _ hO.lt (fun h2 => by have := h2.2; omega))
  refine lv_istore (lv' := [(6, .int (fR_X7_emptyIn P S Fm (xs (i + 1)) (xs (i + 2)))), (5, .int (kq 1 (fE_X6_emptyIn C J (xs (i + 1)) (xs (i + 2))))), (0, .ref b), (1, .ref r), (2, .ref (r + 206)), (3, .ref (r + 211)), (4, .int (nI i))]) hx hb dL_law_1428 hl (by decide) rfl (fun ls hl => ?_)
  refine lv_aload_n hx hb dL_law_1430 rfl (lv_at hl 4 rfl) ?_
  refine gcVi (As := []) (rest := []) hx hb hml hown hts hl.1 hK (c_X7_thrown l D (r + 206) _ _ _ _ _ _) (gaV qM_L_93 qI_X7_thrown qS_X7_thrown qK_X7 qC_X7_thrown) hdv_X7_thrown ⟨(Nat.le_of_ble_eq_true rfl), (Nat.le_of_ble_eq_true rfl)⟩ hM (hM.recv hK) rfl (Nat.le_of_ble_eq_true rfl) ⟨by show cells + 2 ≤ 601024; omega, by show slots + 12 ≤ 7293034; omega⟩ dL_law_1431 hS hA2 (fun H locs hM hz hq hS => ?_)
  have hG := hG.kept (fun q h => hq q (hG.lt h) (fun h2 => by have := h.2; have := h2.1; omega))
  have hO := Ou.kept hO (hq _ hO.lt (fun h2 => by have := h2.2; omega))
  refine lv_iload hx hb dL_law_1434 (lv_at hl 1 rfl) ?_
  refine lv_icmp_eq (tgt := 1441) hx hb dL_law_1436 (by decide) (fun cA => ?_) (fun cA => absurd u1.symm cA)
  refine lv_iload hx hb dL_law_1441 (lv_at hl 1 rfl) ?_
  have fin : ∀ (ls : Array Slot), lv_has ls 9 [(6, .int (fR_X7_emptyIn P S Fm (xs (i + 1)) (xs (i + 2)))), (5, .int (kq 1 (fE_X6_emptyIn C J (xs (i + 1)) (xs (i + 2))))), (0, .ref b), (1, .ref r), (2, .ref (r + 206)), (3, .ref (r + 211)), (4, .int (nI i))] → W p l e room_1 s m args below meth c H locs (cells + 2) (slots + 12) Q (F0 m 1458 ls []) := fun ls hl => by
    refine lv_goto (tgt := 1632) hx hb dL_law_1458 (by decide) ?_
    exact kk _ _ _ 2 12 (by omega) (by omega) ⟨_, _, _, _, _, _, _, _, _, _, _, _, _, _, _, _, hG, hM, hO, u3⟩ hS (lv_sub hl [2, 3, 4, 5, 6] rfl)
  refine lv_if_ne (tgt := 1458) hx hb dL_law_1443 (by decide) (fun cB => fin ls hl) (fun cB => ?_)
  have e0 : fE_X6_emptyIn C J (xs (i + 1)) (xs (i + 2)) = 0 := kq_0 cB
  refine lv_aload_n hx hb dL_law_1446 rfl (lv_at hl 5 rfl) ?_
  refine lv_iconst (v := 0) hx hb dL_law_1447 (by decide) ?_
  refine topN (n := 0) rfl ?_
  refine lwO hx hb hK hO dL_law_1448 ?_
  refine lv_iload hx hb dL_law_1449 (lv_at hl 0 rfl) ?_
  refine lv_i2l (v := (fR_X7_emptyIn P S Fm (xs (i + 1)) (xs (i + 2))).toInt64) hx hb dL_law_1451 rfl ?_
  refine W.lcmp hx hb dL_law_1452 ?_
  refine lv_if_eq (tgt := 1458) hx hb dL_law_1453 (by decide) (fun _ => fin ls hl) (fun cC => absurd ?_ cC)
  rw [e0, ou_0, u2 e0]
  exact lgc_self
theorem law_append {p : Program} {l : Launch} {e : Env} {s : State} {m : MethodId} {args : Array Value} {below : List Frame} {meth : Method} {c : Code} {H : Heap} {locs : List Loc} {cells slots : Nat} {Q : State → Prop} {ls : Array Slot} {D : va_G} {b L r i : Nat} {xs : Nat → Int32} (hl0 : l.stackTraces = false) (hx : p.tables.exec = Jvm.exec) (hb : c.code = cL_law) (hml : c.maxLocals = 9) (hown : s.vm.findClass RL = some m.cls) (hts : ∀ w ∈ AW, w.before args s = true) (hK : Kn D s) (hKx : Kx r s) (hX : va_X b L xs s s.heap) (hbl : b < r) (hsz : s.heap.size = r) (hL : L ≤ 2560) (hi : i + 5 ≤ L) (hc1 : cells + 4 ≤ 601024) (hc2 : slots + 24 ≤ 7293034) (hS : va_S (fun q => r ≤ q) s.heap H locs) (hl : lv_has ls 9 [(0, .ref b), (1, .ref r), (2, .ref (r + 206)), (3, .ref (r + 211)), (4, .int (nI i))]) (hI : LI D r H)
    (kk : ∀ (H1 : Heap) (locs1 : List Loc) (ls1 : Array Slot) (k1 k2 : Nat), k1 ≤ 4 → k2 ≤ 24 → LI D r H1 → va_S (fun q => r ≤ q) s.heap H1 locs1 → lv_has ls1 9 [(0, .ref b), (1, .ref r), (2, .ref (r + 206)), (3, .ref (r + 211)), (4, .int (nI i))] → W p l e room_1 s m args below meth c H1 locs1 (cells + k1) (slots + k2) Q (F0 m 1632 ls1 [])) : W p l e room_1 s m args below meth c H locs cells slots Q (F0 m 1461 ls []) := by
  obtain ⟨C, J, G, n, Y, X, U, Z, F, P, S, V, T, Fm, h, O, hG, hM, hO, hR⟩ := hI
  have hr0 : ∀ q, (fun q => r ≤ q) q → r ≤ q := fun _ h => h
  have hA1 : ∀ q, inH r (r + 211) q → r ≤ q := fun q h => h.elim (fun h => h.1) (fun h => by omega)
  have hA2 : ∀ q, inM (r + 206) q → r ≤ q := fun q h => by have := h.1; omega
  have hA3 : ∀ q, inS r q → r ≤ q := fun q h => h.1
  obtain ⟨u1, u2, u3⟩ := M_append  (x := xs (i + 1)) hR
  refine lv_aload_n hx hb dL_law_1461 rfl (lv_at hl 1 rfl) ?_
  refine lv_aload_n hx hb dL_law_1462 rfl (lv_at hl 0 rfl) ?_
  refine lv_iload hx hb dL_law_1463 (lv_at hl 4 rfl) ?_
  refine lv_iconst (v := 1) hx hb dL_law_1465 (by decide) ?_
  refine iaddN (a := i) (b := 1) hx hb dL_law_1466 ?_
  refine lwX (i := i + 1) hx hb hX hbl hsz hS (by omega) (by omega) dL_law_1467 ?_
  refine lv_aload_n hx hb dL_law_1468 rfl (lv_at hl 3 rfl) ?_
  refine lwS (As := [.ref r, .int (xs (i + 1)), .ref (r + 211)]) (rest := []) hx hb hml hown hts hl.1 hK hKx hr0 (c_L_append l hl0 D r (r + 211) (by omega) C J G n Y X U Z F O (xs (i + 1)) hR.2.2.2.2.1) (gHS qM_L_155 qT_L_append qK_L qC_L_append) hds_L_append ⟨(Nat.le_of_ble_eq_true rfl), (Nat.le_of_ble_eq_true rfl)⟩ ⟨hG, hO⟩ rfl (Nat.le_of_ble_eq_true rfl) ⟨by show cells + 2 ≤ 601024; omega, by show slots + 12 ≤ 7293034; omega⟩ dL_law_1469 hS hA1 (fun H locs hP hz hq hS => ?_)
  obtain ⟨hG, hO⟩ := hP
  have hM := hM.kept (fun q h => hq q (hM.lt h) (fun h2 => by rcases h2 with h2 | h2 <;> (have := h.1; have := h.2) <;> (try have := h2.2) <;> omega))
  refine lv_istore (lv' := [(5, .int (kq 1 (fE_X6_append Y F (xs (i + 1))))), (0, .ref b), (1, .ref r), (2, .ref (r + 206)), (3, .ref (r + 211)), (4, .int (nI i))]) hx hb dL_law_1472 hl (by decide) rfl (fun ls hl => ?_)
  refine lv_aload_n hx hb dL_law_1474 rfl (lv_at hl 3 rfl) ?_
  refine lv_aload_n hx hb dL_law_1475 rfl (lv_at hl 1 rfl) ?_
  refine lv_iload hx hb dL_law_1476 (lv_at hl 5 rfl) ?_
  refine lv_iconst (v := 1) hx hb dL_law_1478 (by decide) ?_
  refine iaddN (a := i) (b := 1) hx hb dL_law_1479 ?_
  refine lwX (i := i + 1) hx hb hX hbl hsz hS (by omega) (by omega) dL_law_1480 ?_
  refine gcVi (As := [.int (xs (i + 1))]) (rest := []) hx hb hml hown hts hl.1 hK (c_X7_append l D (r + 206) P S V T Fm h (xs (i + 1)) hR.2.2.2.2.2.1) (gaV qM_L_157 qI_X7_append qS_X7_append qK_X7 qC_X7_append) hdv_X7_append ⟨(Nat.le_of_ble_eq_true rfl), (Nat.le_of_ble_eq_true rfl)⟩ hM (hM.recv hK) rfl (Nat.le_of_ble_eq_true rfl) ⟨by show cells + 2 ≤ 601024; omega, by show slots + 12 ≤ 7293034; omega⟩ dL_law_1481 hS hA2 (fun H locs hM hz hq hS => ?_)
  have hG := hG.kept (fun q h => hq q (hG.lt h) (fun h2 => by have := h.2; have := h2.1; omega))
  have hO := Ou.kept hO (hq _ hO.lt (fun h2 => by have := h2.2; omega))
  refine lv_istore (lv' := [(6, .int (fR_X7_append T Fm (xs (i + 1)))), (5, .int (kq 1 (fE_X6_append Y F (xs (i + 1))))), (0, .ref b), (1, .ref r), (2, .ref (r + 206)), (3, .ref (r + 211)), (4, .int (nI i))]) hx hb dL_law_1484 hl (by decide) rfl (fun ls hl => ?_)
  refine lv_aload_n hx hb dL_law_1486 rfl (lv_at hl 4 rfl) ?_
  refine gcVi (As := []) (rest := []) hx hb hml hown hts hl.1 hK (c_X7_thrown l D (r + 206) _ _ _ _ _ _) (gaV qM_L_93 qI_X7_thrown qS_X7_thrown qK_X7 qC_X7_thrown) hdv_X7_thrown ⟨(Nat.le_of_ble_eq_true rfl), (Nat.le_of_ble_eq_true rfl)⟩ hM (hM.recv hK) rfl (Nat.le_of_ble_eq_true rfl) ⟨by show cells + 2 ≤ 601024; omega, by show slots + 12 ≤ 7293034; omega⟩ dL_law_1487 hS hA2 (fun H locs hM hz hq hS => ?_)
  have hG := hG.kept (fun q h => hq q (hG.lt h) (fun h2 => by have := h.2; have := h2.1; omega))
  have hO := Ou.kept hO (hq _ hO.lt (fun h2 => by have := h2.2; omega))
  refine lv_iload hx hb dL_law_1490 (lv_at hl 1 rfl) ?_
  refine lv_icmp_eq (tgt := 1497) hx hb dL_law_1492 (by decide) (fun cA => ?_) (fun cA => absurd u1.symm cA)
  refine lv_iload hx hb dL_law_1497 (lv_at hl 1 rfl) ?_
  have fin : ∀ (ls : Array Slot), lv_has ls 9 [(6, .int (fR_X7_append T Fm (xs (i + 1)))), (5, .int (kq 1 (fE_X6_append Y F (xs (i + 1))))), (0, .ref b), (1, .ref r), (2, .ref (r + 206)), (3, .ref (r + 211)), (4, .int (nI i))] → W p l e room_1 s m args below meth c H locs (cells + 2) (slots + 12) Q (F0 m 1514 ls []) := fun ls hl => by
    refine lv_goto (tgt := 1632) hx hb dL_law_1514 (by decide) ?_
    exact kk _ _ _ 2 12 (by omega) (by omega) ⟨_, _, _, _, _, _, _, _, _, _, _, _, _, _, _, _, hG, hM, hO, u3⟩ hS (lv_sub hl [2, 3, 4, 5, 6] rfl)
  refine lv_if_ne (tgt := 1514) hx hb dL_law_1499 (by decide) (fun cB => fin ls hl) (fun cB => ?_)
  have e0 : fE_X6_append Y F (xs (i + 1)) = 0 := kq_0 cB
  refine lv_aload_n hx hb dL_law_1502 rfl (lv_at hl 5 rfl) ?_
  refine lv_iconst (v := 0) hx hb dL_law_1503 (by decide) ?_
  refine topN (n := 0) rfl ?_
  refine lwO hx hb hK hO dL_law_1504 ?_
  refine lv_iload hx hb dL_law_1505 (lv_at hl 0 rfl) ?_
  refine lv_i2l (v := (fR_X7_append T Fm (xs (i + 1))).toInt64) hx hb dL_law_1507 rfl ?_
  refine W.lcmp hx hb dL_law_1508 ?_
  refine lv_if_eq (tgt := 1514) hx hb dL_law_1509 (by decide) (fun _ => fin ls hl) (fun cC => absurd ?_ cC)
  rw [e0, ou_0, u2 e0]
  exact lgc_self
theorem law_runText {p : Program} {l : Launch} {e : Env} {s : State} {m : MethodId} {args : Array Value} {below : List Frame} {meth : Method} {c : Code} {H : Heap} {locs : List Loc} {cells slots : Nat} {Q : State → Prop} {ls : Array Slot} {D : va_G} {b L r i : Nat} {xs : Nat → Int32} (hl0 : l.stackTraces = false) (hx : p.tables.exec = Jvm.exec) (hb : c.code = cL_law) (hml : c.maxLocals = 9) (hown : s.vm.findClass RL = some m.cls) (hts : ∀ w ∈ AW, w.before args s = true) (hK : Kn D s) (hKx : Kx r s) (hX : va_X b L xs s s.heap) (hbl : b < r) (hsz : s.heap.size = r) (hL : L ≤ 2560) (hi : i + 5 ≤ L) (hc1 : cells + 4 ≤ 601024) (hc2 : slots + 24 ≤ 7293034) (hS : va_S (fun q => r ≤ q) s.heap H locs) (hl : lv_has ls 9 [(0, .ref b), (1, .ref r), (2, .ref (r + 206)), (3, .ref (r + 211)), (4, .int (nI i))]) (hI : LI D r H)
    (kk : ∀ (H1 : Heap) (locs1 : List Loc) (ls1 : Array Slot) (k1 k2 : Nat), k1 ≤ 4 → k2 ≤ 24 → LI D r H1 → va_S (fun q => r ≤ q) s.heap H1 locs1 → lv_has ls1 9 [(0, .ref b), (1, .ref r), (2, .ref (r + 206)), (3, .ref (r + 211)), (4, .int (nI i))] → W p l e room_1 s m args below meth c H1 locs1 (cells + k1) (slots + k2) Q (F0 m 1632 ls1 [])) : W p l e room_1 s m args below meth c H locs cells slots Q (F0 m 1530 ls []) := by
  obtain ⟨C, J, G, n, Y, X, U, Z, F, P, S, V, T, Fm, h, O, hG, hM, hO, hR⟩ := hI
  have hr0 : ∀ q, (fun q => r ≤ q) q → r ≤ q := fun _ h => h
  have hA1 : ∀ q, inH r (r + 211) q → r ≤ q := fun q h => h.elim (fun h => h.1) (fun h => by omega)
  have hA2 : ∀ q, inM (r + 206) q → r ≤ q := fun q h => by have := h.1; omega
  have hA3 : ∀ q, inS r q → r ≤ q := fun q h => h.1
  obtain ⟨u1, u2, u3⟩ := M_runText (X := X) (U := U) (Z := Z)  hR
  refine lv_aload_n hx hb dL_law_1530 rfl (lv_at hl 1 rfl) ?_
  refine lv_aload_n hx hb dL_law_1531 rfl (lv_at hl 3 rfl) ?_
  refine lwS (As := [.ref r, .ref (r + 211)]) (rest := []) hx hb hml hown hts hl.1 hK hKx hr0 (c_L_runText l hl0 D r (r + 211) (by omega) C J G n Y X U Z F O hR.1.good.1.1 hR.n4 hR.2.2.2.2.1) (gHS qM_L_162 qT_L_runText qK_L qC_L_runText) hds_L_runText ⟨(Nat.le_of_ble_eq_true rfl), (Nat.le_of_ble_eq_true rfl)⟩ ⟨hG, hO⟩ rfl (Nat.le_of_ble_eq_true rfl) ⟨by show cells + 1 ≤ 601024; omega, by show slots + 6 ≤ 7293034; omega⟩ dL_law_1532 hS hA1 (fun H locs hP hz hq hS => ?_)
  obtain ⟨hG, hO⟩ := hP
  have hM := hM.kept (fun q h => hq q (hM.lt h) (fun h2 => by rcases h2 with h2 | h2 <;> (have := h.1; have := h.2) <;> (try have := h2.2) <;> omega))
  refine lv_istore (lv' := [(5, .int (kq 2 (fE_X6_runText C G n Y X U Z F))), (0, .ref b), (1, .ref r), (2, .ref (r + 206)), (3, .ref (r + 211)), (4, .int (nI i))]) hx hb dL_law_1535 hl (by decide) rfl (fun ls hl => ?_)
  refine lv_aload_n hx hb dL_law_1537 rfl (lv_at hl 3 rfl) ?_
  refine gcVi (As := []) (rest := []) hx hb hml hown hts hl.1 hK (c_X7_runText l D (r + 206) P S V T Fm h hR.2.2.2.2.2.1 hR.2.1 hR.1.2.2.1.1) (gaV qM_L_165 qI_X7_runText qS_X7_runText qK_X7 qC_X7_runText) hdv_X7_runText ⟨(Nat.le_of_ble_eq_true rfl), (Nat.le_of_ble_eq_true rfl)⟩ hM (hM.recv hK) rfl (Nat.le_of_ble_eq_true rfl) ⟨by show cells + 1 ≤ 601024; omega, by show slots + 6 ≤ 7293034; omega⟩ dL_law_1538 hS hA2 (fun H locs hM hz hq hS => ?_)
  have hG := hG.kept (fun q h => hq q (hG.lt h) (fun h2 => by have := h.2; have := h2.1; omega))
  have hO := Ou.kept hO (hq _ hO.lt (fun h2 => by have := h2.2; omega))
  refine lv_istore (lv' := [(6, .int (fR_X7_runText P V T Fm)), (5, .int (kq 2 (fE_X6_runText C G n Y X U Z F))), (0, .ref b), (1, .ref r), (2, .ref (r + 206)), (3, .ref (r + 211)), (4, .int (nI i))]) hx hb dL_law_1541 hl (by decide) rfl (fun ls hl => ?_)
  refine lv_aload_n hx hb dL_law_1543 rfl (lv_at hl 4 rfl) ?_
  refine gcVi (As := []) (rest := []) hx hb hml hown hts hl.1 hK (c_X7_thrown l D (r + 206) _ _ _ _ _ _) (gaV qM_L_93 qI_X7_thrown qS_X7_thrown qK_X7 qC_X7_thrown) hdv_X7_thrown ⟨(Nat.le_of_ble_eq_true rfl), (Nat.le_of_ble_eq_true rfl)⟩ hM (hM.recv hK) rfl (Nat.le_of_ble_eq_true rfl) ⟨by show cells + 1 ≤ 601024; omega, by show slots + 6 ≤ 7293034; omega⟩ dL_law_1544 hS hA2 (fun H locs hM hz hq hS => ?_)
  have hG := hG.kept (fun q h => hq q (hG.lt h) (fun h2 => by have := h.2; have := h2.1; omega))
  have hO := Ou.kept hO (hq _ hO.lt (fun h2 => by have := h2.2; omega))
  refine lv_iload hx hb dL_law_1547 (lv_at hl 1 rfl) ?_
  refine lv_icmp_eq (tgt := 1554) hx hb dL_law_1549 (by decide) (fun cA => ?_) (fun cA => absurd u1.symm cA)
  refine lv_iload hx hb dL_law_1554 (lv_at hl 1 rfl) ?_
  have fin : ∀ (ls : Array Slot), lv_has ls 9 [(6, .int (fR_X7_runText P V T Fm)), (5, .int (kq 2 (fE_X6_runText C G n Y X U Z F))), (0, .ref b), (1, .ref r), (2, .ref (r + 206)), (3, .ref (r + 211)), (4, .int (nI i))] → W p l e room_1 s m args below meth c H locs (cells + 1) (slots + 6) Q (F0 m 1571 ls []) := fun ls hl => by
    refine lv_goto (tgt := 1632) hx hb dL_law_1571 (by decide) ?_
    exact kk _ _ _ 1 6 (by omega) (by omega) ⟨_, _, _, _, _, _, _, _, _, _, _, _, _, _, _, _, hG, hM, hO, u3⟩ hS (lv_sub hl [2, 3, 4, 5, 6] rfl)
  refine lv_if_ne (tgt := 1571) hx hb dL_law_1556 (by decide) (fun cB => fin ls hl) (fun cB => ?_)
  have e0 : fE_X6_runText C G n Y X U Z F = 0 := kq_0 cB
  refine lv_aload_n hx hb dL_law_1559 rfl (lv_at hl 5 rfl) ?_
  refine lv_iconst (v := 0) hx hb dL_law_1560 (by decide) ?_
  refine topN (n := 0) rfl ?_
  refine lwO hx hb hK hO dL_law_1561 ?_
  refine lv_iload hx hb dL_law_1562 (lv_at hl 0 rfl) ?_
  refine lv_i2l (v := (fR_X7_runText P V T Fm).toInt64) hx hb dL_law_1564 rfl ?_
  refine W.lcmp hx hb dL_law_1565 ?_
  refine lv_if_eq (tgt := 1571) hx hb dL_law_1566 (by decide) (fun _ => fin ls hl) (fun cC => absurd ?_ cC)
  rw [e0, ou_0, u2 e0]
  exact lgc_self
theorem law_undo {p : Program} {l : Launch} {e : Env} {s : State} {m : MethodId} {args : Array Value} {below : List Frame} {meth : Method} {c : Code} {H : Heap} {locs : List Loc} {cells slots : Nat} {Q : State → Prop} {ls : Array Slot} {D : va_G} {b L r i : Nat} {xs : Nat → Int32} (hl0 : l.stackTraces = false) (hx : p.tables.exec = Jvm.exec) (hb : c.code = cL_law) (hml : c.maxLocals = 9) (hown : s.vm.findClass RL = some m.cls) (hts : ∀ w ∈ AW, w.before args s = true) (hK : Kn D s) (hKx : Kx r s) (hX : va_X b L xs s s.heap) (hbl : b < r) (hsz : s.heap.size = r) (hL : L ≤ 2560) (hi : i + 5 ≤ L) (hc1 : cells + 4 ≤ 601024) (hc2 : slots + 24 ≤ 7293034) (hS : va_S (fun q => r ≤ q) s.heap H locs) (hl : lv_has ls 9 [(0, .ref b), (1, .ref r), (2, .ref (r + 206)), (3, .ref (r + 211)), (4, .int (nI i))]) (hI : LI D r H)
    (kk : ∀ (H1 : Heap) (locs1 : List Loc) (ls1 : Array Slot) (k1 k2 : Nat), k1 ≤ 4 → k2 ≤ 24 → LI D r H1 → va_S (fun q => r ≤ q) s.heap H1 locs1 → lv_has ls1 9 [(0, .ref b), (1, .ref r), (2, .ref (r + 206)), (3, .ref (r + 211)), (4, .int (nI i))] → W p l e room_1 s m args below meth c H1 locs1 (cells + k1) (slots + k2) Q (F0 m 1632 ls1 [])) : W p l e room_1 s m args below meth c H locs cells slots Q (F0 m 1574 ls []) := by
  obtain ⟨C, J, G, n, Y, X, U, Z, F, P, S, V, T, Fm, h, O, hG, hM, hO, hR⟩ := hI
  have hr0 : ∀ q, (fun q => r ≤ q) q → r ≤ q := fun _ h => h
  have hA1 : ∀ q, inH r (r + 211) q → r ≤ q := fun q h => h.elim (fun h => h.1) (fun h => by omega)
  have hA2 : ∀ q, inM (r + 206) q → r ≤ q := fun q h => by have := h.1; omega
  have hA3 : ∀ q, inS r q → r ≤ q := fun q h => h.1
  obtain ⟨u1, u2, u3⟩ := M_undo   hR
  refine lv_aload_n hx hb dL_law_1574 rfl (lv_at hl 1 rfl) ?_
  refine lv_aload_n hx hb dL_law_1575 rfl (lv_at hl 3 rfl) ?_
  refine lwS (As := [.ref r, .ref (r + 211)]) (rest := []) hx hb hml hown hts hl.1 hK hKx hr0 (c_L_undo l hl0 D r (r + 211) (by omega) C J G n Y X U Z F O hR.n4 hR.oG) (gHS qM_L_166 qT_L_undo qK_L qC_L_undo) hds_L_undo ⟨(Nat.le_of_ble_eq_true rfl), (Nat.le_of_ble_eq_true rfl)⟩ ⟨hG, hO⟩ rfl (Nat.le_of_ble_eq_true rfl) ⟨by show cells + 1 ≤ 601024; omega, by show slots + 6 ≤ 7293034; omega⟩ dL_law_1576 hS hA1 (fun H locs hP hz hq hS => ?_)
  obtain ⟨hG, hO⟩ := hP
  have hM := hM.kept (fun q h => hq q (hM.lt h) (fun h2 => by rcases h2 with h2 | h2 <;> (have := h.1; have := h.2) <;> (try have := h2.2) <;> omega))
  refine lv_istore (lv' := [(5, .int (kq 2 (fE_X6_undo C G n))), (0, .ref b), (1, .ref r), (2, .ref (r + 206)), (3, .ref (r + 211)), (4, .int (nI i))]) hx hb dL_law_1579 hl (by decide) rfl (fun ls hl => ?_)
  refine lv_aload_n hx hb dL_law_1581 rfl (lv_at hl 3 rfl) ?_
  refine gcVi (As := []) (rest := []) hx hb hml hown hts hl.1 hK (c_X7_undo l D (r + 206) P S V T Fm h hR.2.1) (gaV qM_L_168 qI_X7_undo qS_X7_undo qK_X7 qC_X7_undo) hdv_X7_undo ⟨(Nat.le_of_ble_eq_true rfl), (Nat.le_of_ble_eq_true rfl)⟩ hM (hM.recv hK) rfl (Nat.le_of_ble_eq_true rfl) ⟨by show cells + 1 ≤ 601024; omega, by show slots + 6 ≤ 7293034; omega⟩ dL_law_1582 hS hA2 (fun H locs hM hz hq hS => ?_)
  have hG := hG.kept (fun q h => hq q (hG.lt h) (fun h2 => by have := h.2; have := h2.1; omega))
  have hO := Ou.kept hO (hq _ hO.lt (fun h2 => by have := h2.2; omega))
  refine lv_istore (lv' := [(6, .int (fR_X7_undo P V Fm)), (5, .int (kq 2 (fE_X6_undo C G n))), (0, .ref b), (1, .ref r), (2, .ref (r + 206)), (3, .ref (r + 211)), (4, .int (nI i))]) hx hb dL_law_1585 hl (by decide) rfl (fun ls hl => ?_)
  refine lv_aload_n hx hb dL_law_1587 rfl (lv_at hl 4 rfl) ?_
  refine gcVi (As := []) (rest := []) hx hb hml hown hts hl.1 hK (c_X7_thrown l D (r + 206) _ _ _ _ _ _) (gaV qM_L_93 qI_X7_thrown qS_X7_thrown qK_X7 qC_X7_thrown) hdv_X7_thrown ⟨(Nat.le_of_ble_eq_true rfl), (Nat.le_of_ble_eq_true rfl)⟩ hM (hM.recv hK) rfl (Nat.le_of_ble_eq_true rfl) ⟨by show cells + 1 ≤ 601024; omega, by show slots + 6 ≤ 7293034; omega⟩ dL_law_1588 hS hA2 (fun H locs hM hz hq hS => ?_)
  have hG := hG.kept (fun q h => hq q (hG.lt h) (fun h2 => by have := h.2; have := h2.1; omega))
  have hO := Ou.kept hO (hq _ hO.lt (fun h2 => by have := h2.2; omega))
  refine lv_iload hx hb dL_law_1591 (lv_at hl 1 rfl) ?_
  refine lv_icmp_eq (tgt := 1598) hx hb dL_law_1593 (by decide) (fun cA => ?_) (fun cA => absurd u1.symm cA)
  refine lv_iload hx hb dL_law_1598 (lv_at hl 1 rfl) ?_
  have fin : ∀ (ls : Array Slot), lv_has ls 9 [(6, .int (fR_X7_undo P V Fm)), (5, .int (kq 2 (fE_X6_undo C G n))), (0, .ref b), (1, .ref r), (2, .ref (r + 206)), (3, .ref (r + 211)), (4, .int (nI i))] → W p l e room_1 s m args below meth c H locs (cells + 1) (slots + 6) Q (F0 m 1615 ls []) := fun ls hl => by
    refine lv_goto (tgt := 1632) hx hb dL_law_1615 (by decide) ?_
    exact kk _ _ _ 1 6 (by omega) (by omega) ⟨_, _, _, _, _, _, _, _, _, _, _, _, _, _, _, _, hG, hM, hO, u3⟩ hS (lv_sub hl [2, 3, 4, 5, 6] rfl)
  refine lv_if_ne (tgt := 1615) hx hb dL_law_1600 (by decide) (fun cB => fin ls hl) (fun cB => ?_)
  have e0 : fE_X6_undo C G n = 0 := kq_0 cB
  refine lv_aload_n hx hb dL_law_1603 rfl (lv_at hl 5 rfl) ?_
  refine lv_iconst (v := 0) hx hb dL_law_1604 (by decide) ?_
  refine topN (n := 0) rfl ?_
  refine lwO hx hb hK hO dL_law_1605 ?_
  refine lv_iload hx hb dL_law_1606 (lv_at hl 0 rfl) ?_
  refine lv_i2l (v := (fR_X7_undo P V Fm).toInt64) hx hb dL_law_1608 rfl ?_
  refine W.lcmp hx hb dL_law_1609 ?_
  refine lv_if_eq (tgt := 1615) hx hb dL_law_1610 (by decide) (fun _ => fin ls hl) (fun cC => absurd ?_ cC)
  rw [e0, ou_0, u2 e0]
  exact lgc_self
