/-! The law: the cases without a helper. -/
section GD
variable {p : Program} {l : Launch} {e : Env} {R : Room} {s : State} {m : MethodId} {args : Array Value} {below : List Frame} {meth : Method} {c : Code} {H : Heap} {locs : List Loc} {cells slots : Nat} {Q : State → Prop}
variable {cc : ByteArray} {pc : Nat} {ls : Array Slot} {rest st0 : List Value} {D : va_G} {A0 A1 : Nat → Prop} {H0 : Heap} {own C : String} {idx nL maxL n d b : Nat} {y : MethodName} {bytes : ByteArray} {ret : Option FieldType} {Pic Pic' : Heap → Prop} {As : List Value}
theorem gcVd {r : UInt64} (hx : p.tables.exec = Jvm.exec) (hb : c.code = cc) (hml : c.maxLocals = nL) (hown : s.vm.findClass own = some m.cls) (hts : ∀ w ∈ AW, w.before args s = true) (hls : ls.size = nL) (hK : Kn D s) (hM : Met l y (wA y bytes maxL ret) (rmL d) (gPc D (.ref b :: As) Pic) (gQd A1 r Pic') 0 0 A1)
    (hg : GoodIn AW (wsV own idx C y (wA y bytes maxL ret))) (hd : y.cls = C ∧ y.cls ≠ "java/lang/invoke/MethodHandle" ∧ y.cls ≠ "java/lang/invoke/VarHandle" ∧ (parseMethodDescriptor y.desc).map (fun d => d.parameters.length) = some As.length) (hR : d + 1 ≤ R.frames ∧ 8 + (maxL + 11) + 30 * d ≤ R.locals)
    (hP : Pic H) (hr : ∃ cellB : Cell, H[b]? = some cellB ∧ cellB.vm.isStatics = false ∧ s.vm.findClass C = some cellB.cls) (hst : st0 = As.reverse ++ .ref b :: rest) (hw : (rest.map fun v => v.category).sum ≤ 8) (hcs : cells ≤ R.cells ∧ slots ≤ R.slots) (hdg : decode cc pc = .ok (.invokevirtual idx, 3)) (hS : va_S A0 H0 H locs) (hA : ∀ q, A1 q → A0 q)
    (kk : ∀ (H1 : Heap) (locs1 : List Loc), Pic' H1 → H.size ≤ H1.size → (∀ q : Nat, q < H.size → ¬ A1 q → H1[q]? = H[q]?) → va_S A0 H0 H1 locs1 → W p l e R s m args below meth c H1 locs1 cells slots Q (F0 m (pc + 3) ls (.double r :: rest))) : W p l e R s m args below meth c H locs cells slots Q (F0 m pc ls st0) := by
  refine va_calld (va_runV (As := As) (rest := rest) ⟨hx, hb, hml, hown, hts⟩ hM (cwV As.length hts hg rfl rfl rfl hd hR) (gPre_V hK hP hr) rfl rfl hls hst (lv_room hw) hdg hcs) hS (fun q _ h => hA q h) hA (fun x u t H1 locs1 ht hvm hxr hB hz hk hS1 => ?_)
  have e1 : x = r := hxr
  subst e1
  exact kk H1 locs1 (by have h := hB; rw [ht] at h; exact h) hz hk hS1
end GD
theorem law_clearText {p : Program} {l : Launch} {e : Env} {s : State} {m : MethodId} {args : Array Value} {below : List Frame} {meth : Method} {c : Code} {H : Heap} {locs : List Loc} {cells slots : Nat} {Q : State → Prop} {ls : Array Slot} {D : va_G} {b L r i : Nat} {xs : Nat → Int32} (hl0 : l.stackTraces = false) (hx : p.tables.exec = Jvm.exec) (hb : c.code = cL_law) (hml : c.maxLocals = 9) (hown : s.vm.findClass RL = some m.cls) (hts : ∀ w ∈ AW, w.before args s = true) (hK : Kn D s) (hKx : Kx r s) (hX : va_X b L xs s s.heap) (hbl : b < r) (hsz : s.heap.size = r) (hL : L ≤ 2560) (hi : i + 5 ≤ L) (hc1 : cells + 4 ≤ 601024) (hc2 : slots + 24 ≤ 7293034) (hS : va_S (fun q => r ≤ q) s.heap H locs) (hl : lv_has ls 9 [(0, .ref b), (1, .ref r), (2, .ref (r + 206)), (3, .ref (r + 211)), (4, .int (nI i))]) (hI : LI D r H)
    (kk : ∀ (H1 : Heap) (locs1 : List Loc) (ls1 : Array Slot) (k1 k2 : Nat), k1 ≤ 4 → k2 ≤ 24 → LI D r H1 → va_S (fun q => r ≤ q) s.heap H1 locs1 → lv_has ls1 9 [(0, .ref b), (1, .ref r), (2, .ref (r + 206)), (3, .ref (r + 211)), (4, .int (nI i))] → W p l e room_1 s m args below meth c H1 locs1 (cells + k1) (slots + k2) Q (F0 m 1632 ls1 [])) : W p l e room_1 s m args below meth c H locs cells slots Q (F0 m 1517 ls []) := by
  obtain ⟨C, J, G, n, Y, X, U, Z, F, P, S, V, T, Fm, h, O, hG, hM, hO, hR⟩ := hI
  have hr0 : ∀ q, (fun q => r ≤ q) q → r ≤ q := fun _ h => h
  have hA1 : ∀ q, inH r (r + 211) q → r ≤ q := fun q h => h.elim (fun h => h.1) (fun h => by omega)
  have hA2 : ∀ q, inM (r + 206) q → r ≤ q := fun q h => by have := h.1; omega
  have hA3 : ∀ q, inS r q → r ≤ q := fun q h => h.1
  obtain ⟨u1, u2, u3⟩ := M_clearText hR
  refine lv_aload_n hx hb dL_law_1517 rfl (lv_at hl 1 rfl) ?_
  refine gcVi (As := []) (rest := []) hx hb hml hown hts hl.1 hK (c_X6_clearText l D r C J G n Y X U Z F) (gaV qM_L_158 qI_X6_clearText qS_X6_clearText qK_X6 qC_X6_clearText) hdv_X6_clearText ⟨(Nat.le_of_ble_eq_true rfl), (Nat.le_of_ble_eq_true rfl)⟩ hG (Sn.recv hK hG) rfl (Nat.le_of_ble_eq_true rfl) ⟨by show cells ≤ 601024; omega, by show slots ≤ 7293034; omega⟩ dL_law_1518 hS hA3 (fun H locs hG hz hq hS => ?_)
  have hM := hM.kept (fun q h => hq q (hM.lt h) (fun h2 => by have := h.1; have := h2.2; omega))
  have hO := Ou.kept hO (hq _ hO.lt (fun h2 => by have := h2.2; omega))
  refine lv_aload_n hx hb dL_law_1521 rfl (lv_at hl 2 rfl) ?_
  refine gcVi (As := []) (rest := [.int (fR_X6_clearText F)]) hx hb hml hown hts hl.1 hK (c_X7_clearText l D (r + 206) P S V T Fm h) (gaV qM_L_161 qI_X7_clearText qS_X7_clearText qK_X7 qC_X7_clearText) hdv_X7_clearText ⟨(Nat.le_of_ble_eq_true rfl), (Nat.le_of_ble_eq_true rfl)⟩ hM (hM.recv hK) rfl (Nat.le_of_ble_eq_true rfl) ⟨by show cells ≤ 601024; omega, by show slots ≤ 7293034; omega⟩ dL_law_1522 hS hA2 (fun H locs hM hz hq hS => ?_)
  have hG := hG.kept (fun q h => hq q (hG.lt h) (fun h2 => by have := h.2; have := h2.1; omega))
  have hO := Ou.kept hO (hq _ hO.lt (fun h2 => by have := h2.2; omega))
  refine lv_icmp_eq (tgt := 1632) hx hb dL_law_1525 (by decide) (fun _ => ?_) (fun cA => absurd u2 cA)
  exact kk _ _ _ 0 0 (by omega) (by omega) ⟨_, _, _, _, _, _, _, _, _, _, _, _, _, _, _, _, hG, hM, hO, u3⟩ hS hl
theorem law_digest {p : Program} {l : Launch} {e : Env} {s : State} {m : MethodId} {args : Array Value} {below : List Frame} {meth : Method} {c : Code} {H : Heap} {locs : List Loc} {cells slots : Nat} {Q : State → Prop} {ls : Array Slot} {D : va_G} {b L r i : Nat} {xs : Nat → Int32} (hl0 : l.stackTraces = false) (hx : p.tables.exec = Jvm.exec) (hb : c.code = cL_law) (hml : c.maxLocals = 9) (hown : s.vm.findClass RL = some m.cls) (hts : ∀ w ∈ AW, w.before args s = true) (hK : Kn D s) (hKx : Kx r s) (hX : va_X b L xs s s.heap) (hbl : b < r) (hsz : s.heap.size = r) (hL : L ≤ 2560) (hi : i + 5 ≤ L) (hc1 : cells + 4 ≤ 601024) (hc2 : slots + 24 ≤ 7293034) (hS : va_S (fun q => r ≤ q) s.heap H locs) (hl : lv_has ls 9 [(0, .ref b), (1, .ref r), (2, .ref (r + 206)), (3, .ref (r + 211)), (4, .int (nI i))]) (hI : LI D r H)
    (kk : ∀ (H1 : Heap) (locs1 : List Loc) (ls1 : Array Slot) (k1 k2 : Nat), k1 ≤ 4 → k2 ≤ 24 → LI D r H1 → va_S (fun q => r ≤ q) s.heap H1 locs1 → lv_has ls1 9 [(0, .ref b), (1, .ref r), (2, .ref (r + 206)), (3, .ref (r + 211)), (4, .int (nI i))] → W p l e room_1 s m args below meth c H1 locs1 (cells + k1) (slots + k2) Q (F0 m 1632 ls1 [])) : W p l e room_1 s m args below meth c H locs cells slots Q (F0 m 1618 ls []) := by
  obtain ⟨C, J, G, n, Y, X, U, Z, F, P, S, V, T, Fm, h, O, hG, hM, hO, hR⟩ := hI
  have hr0 : ∀ q, (fun q => r ≤ q) q → r ≤ q := fun _ h => h
  have hA1 : ∀ q, inH r (r + 211) q → r ≤ q := fun q h => h.elim (fun h => h.1) (fun h => by omega)
  have hA2 : ∀ q, inM (r + 206) q → r ≤ q := fun q h => by have := h.1; omega
  have hA3 : ∀ q, inS r q → r ≤ q := fun q h => h.1
  obtain ⟨u1, u2, u3⟩ := M_digest (hz := h) hR
  refine lv_aload_n hx hb dL_law_1618 rfl (lv_at hl 1 rfl) ?_
  refine gcVl (As := []) (rest := []) hx hb hml hown hts hl.1 hK (c_X6_digest l D r C J G n Y X U Z F hR.1.good.1.1 hR.1.okQ) (gaV qM_L_169 qI_X6_digest qS_X6_digest qK_X6 qC_X6_digest) hdv_X6_digest ⟨(Nat.le_of_ble_eq_true rfl), (Nat.le_of_ble_eq_true rfl)⟩ hG (Sn.recv hK hG) rfl (Nat.le_of_ble_eq_true rfl) ⟨by show cells ≤ 601024; omega, by show slots ≤ 7293034; omega⟩ dL_law_1619 hS hA3 (fun H locs hG hz hq hS => ?_)
  have hM := hM.kept (fun q h => hq q (hM.lt h) (fun h2 => by have := h.1; have := h2.2; omega))
  have hO := Ou.kept hO (hq _ hO.lt (fun h2 => by have := h2.2; omega))
  refine lv_aload_n hx hb dL_law_1622 rfl (lv_at hl 2 rfl) ?_
  refine gcVl (As := []) (rest := [.long (fR_X6_digest C n F)]) hx hb hml hown hts hl.1 hK (c_X7_digest l D (r + 206) P S V T Fm h hR.1.2.2.1.1 (fun q hq => (hR.1.2.2.2.1 q hq).1) hR.2.2.2.2.2.1 hR.2.1) (gaV qM_L_173 qI_X7_digest qS_X7_digest qK_X7 qC_X7_digest) hdv_X7_digest ⟨(Nat.le_of_ble_eq_true rfl), (Nat.le_of_ble_eq_true rfl)⟩ hM (hM.recv hK) rfl (Nat.le_of_ble_eq_true rfl) ⟨by show cells ≤ 601024; omega, by show slots ≤ 7293034; omega⟩ dL_law_1623 hS hA2 (fun H locs hM hz hq hS => ?_)
  have hG := hG.kept (fun q h => hq q (hG.lt h) (fun h2 => by have := h.2; have := h2.1; omega))
  have hO := Ou.kept hO (hq _ hO.lt (fun h2 => by have := h2.2; omega))
  refine W.lcmp hx hb dL_law_1626 ?_
  refine lv_if_eq (tgt := 1632) hx hb dL_law_1627 (by decide) (fun _ => ?_) (fun cC => absurd (by rw [u2]; exact lgc_self) cC)
  exact kk _ _ _ 0 0 (by omega) (by omega) ⟨_, _, _, _, _, _, _, _, _, _, _, _, _, _, _, _, hG, hM, hO, u3⟩ hS hl
theorem law_meanDepth {p : Program} {l : Launch} {e : Env} {s : State} {m : MethodId} {args : Array Value} {below : List Frame} {meth : Method} {c : Code} {H : Heap} {locs : List Loc} {cells slots : Nat} {Q : State → Prop} {ls : Array Slot} {D : va_G} {b L r i : Nat} {xs : Nat → Int32} (hl0 : l.stackTraces = false) (hx : p.tables.exec = Jvm.exec) (hb : c.code = cL_law) (hml : c.maxLocals = 9) (hown : s.vm.findClass RL = some m.cls) (hts : ∀ w ∈ AW, w.before args s = true) (hK : Kn D s) (hKx : Kx r s) (hX : va_X b L xs s s.heap) (hbl : b < r) (hsz : s.heap.size = r) (hL : L ≤ 2560) (hi : i + 5 ≤ L) (hc1 : cells + 4 ≤ 601024) (hc2 : slots + 24 ≤ 7293034) (hS : va_S (fun q => r ≤ q) s.heap H locs) (hl : lv_has ls 9 [(0, .ref b), (1, .ref r), (2, .ref (r + 206)), (3, .ref (r + 211)), (4, .int (nI i))]) (hI : LI D r H)
    (kk : ∀ (H1 : Heap) (locs1 : List Loc) (ls1 : Array Slot) (k1 k2 : Nat), k1 ≤ 4 → k2 ≤ 24 → LI D r H1 → va_S (fun q => r ≤ q) s.heap H1 locs1 → lv_has ls1 9 [(0, .ref b), (1, .ref r), (2, .ref (r + 206)), (3, .ref (r + 211)), (4, .int (nI i))] → W p l e room_1 s m args below meth c H1 locs1 (cells + k1) (slots + k2) Q (F0 m 1632 ls1 [])) : W p l e room_1 s m args below meth c H locs cells slots Q (F0 m 1088 ls []) := by
  obtain ⟨C, J, G, n, Y, X, U, Z, F, P, S, V, T, Fm, h, O, hG, hM, hO, hR⟩ := hI
  have hr0 : ∀ q, (fun q => r ≤ q) q → r ≤ q := fun _ h => h
  have hA1 : ∀ q, inH r (r + 211) q → r ≤ q := fun q h => h.elim (fun h => h.1) (fun h => by omega)
  have hA2 : ∀ q, inM (r + 206) q → r ≤ q := fun q h => by have := h.1; omega
  have hA3 : ∀ q, inS r q → r ≤ q := fun q h => h.1
  obtain ⟨u1, u2, u3⟩ := M_meanDepth hR
  refine lv_aload_n hx hb dL_law_1088 rfl (lv_at hl 1 rfl) ?_
  refine gcVd (As := []) (rest := []) hx hb hml hown hts hl.1 hK (c_X6_meanDepth l D r C J G n Y X U Z F hR.1.okN) (gaV qM_L_138 qI_X6_meanDepth qS_X6_meanDepth qK_X6 qC_X6_meanDepth) hdv_X6_meanDepth ⟨(Nat.le_of_ble_eq_true rfl), (Nat.le_of_ble_eq_true rfl)⟩ hG (Sn.recv hK hG) rfl (Nat.le_of_ble_eq_true rfl) ⟨by show cells ≤ 601024; omega, by show slots ≤ 7293034; omega⟩ dL_law_1089 hS hA3 (fun H locs hG hz hq hS => ?_)
  have hM := hM.kept (fun q h => hq q (hM.lt h) (fun h2 => by have := h.1; have := h2.2; omega))
  have hO := Ou.kept hO (hq _ hO.lt (fun h2 => by have := h2.2; omega))
  refine lv_dstore (lv' := [(5, .double (fR_X6_meanDepth C)), (0, .ref b), (1, .ref r), (2, .ref (r + 206)), (3, .ref (r + 211)), (4, .int (nI i))]) hx hb dL_law_1092 hl (by decide) rfl (fun ls hl => ?_)
  refine lv_aload_n hx hb dL_law_1094 rfl (lv_at hl 3 rfl) ?_
  refine gcVd (As := []) (rest := []) hx hb hml hown hts hl.1 hK (c_X7_meanDepth l D (r + 206) P S V T Fm h hR.1.2.2.oN) (gaV qM_L_142 qI_X7_meanDepth qS_X7_meanDepth qK_X7 qC_X7_meanDepth) hdv_X7_meanDepth ⟨(Nat.le_of_ble_eq_true rfl), (Nat.le_of_ble_eq_true rfl)⟩ hM (hM.recv hK) rfl (Nat.le_of_ble_eq_true rfl) ⟨by show cells ≤ 601024; omega, by show slots ≤ 7293034; omega⟩ dL_law_1095 hS hA2 (fun H locs hM hz hq hS => ?_)
  have hG := hG.kept (fun q h => hq q (hG.lt h) (fun h2 => by have := h.2; have := h2.1; omega))
  have hO := Ou.kept hO (hq _ hO.lt (fun h2 => by have := h2.2; omega))
  refine lv_dstore (lv' := [(7, .double (fR_X7_meanDepth P Fm)), (5, .double (fR_X6_meanDepth C)), (0, .ref b), (1, .ref r), (2, .ref (r + 206)), (3, .ref (r + 211)), (4, .int (nI i))]) hx hb dL_law_1098 hl (by decide) rfl (fun ls hl => ?_)
  have fin : W p l e room_1 s m args below meth c H locs cells slots Q (F0 m 1126 ls []) := by
    refine lv_goto (tgt := 1632) hx hb dL_law_1126 (by decide) ?_
    exact kk _ _ _ 0 0 (by omega) (by omega) ⟨_, _, _, _, _, _, _, _, _, _, _, _, _, _, _, _, hG, hM, hO, u3⟩ hS (lv_sub hl [2, 3, 4, 5, 6] rfl)
  refine lv_dload hx hb dL_law_1100 (lv_at hl 1 rfl) ?_
  refine lv_dload hx hb dL_law_1102 (lv_at hl 0 rfl) ?_
  refine lv_dcmp hx hb dL_law_1104 ?_
  refine lv_if_eq (tgt := 1126) hx hb dL_law_1105 (by decide) (fun _ => fin) (fun cA => ?_)
  refine lv_dload hx hb dL_law_1108 (lv_at hl 1 rfl) ?_
  refine lv_dload hx hb dL_law_1110 (lv_at hl 1 rfl) ?_
  refine lv_dcmp hx hb dL_law_1112 ?_
  refine lv_if_eq (tgt := 1124) hx hb dL_law_1113 (by decide) (fun cB => absurd (by rw [← u2]; exact cB) cA) (fun _ => ?_)
  refine lv_dload hx hb dL_law_1116 (lv_at hl 0 rfl) ?_
  refine lv_dload hx hb dL_law_1118 (lv_at hl 0 rfl) ?_
  refine lv_dcmp hx hb dL_law_1120 ?_
  refine lv_if_ne (tgt := 1126) hx hb dL_law_1121 (by decide) (fun _ => fin) (fun cB => absurd (by rw [u2]; exact cB) cA)
