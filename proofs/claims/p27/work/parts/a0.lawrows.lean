/-! Rows of the law's own methods. -/
theorem qV_L_93 : Cond.constantDouble RL 93 (4696837146684686336 : UInt64) ∈ AW := AW_in (tk_3 (List.mem_of_getElem? (i := 201) rfl)) rfl
theorem vx_runF {p : Program} {l : Launch} {e : Env} {R : Room} {s : State} {m : MethodId} {args : Array Value} {below : List Frame} {meth : Method} {c : Code} {H : Heap} {locs : List Loc} {cells slots mc ms : Nat} {g : JFrame} {rest : List Value} {Qa : State → Outcome → State → Prop} {XC : String → State → State → Prop} {free : Addr → Prop} (h : vx_Run p l e R s m args below meth c H locs cells slots mc ms g rest Qa (fun _ _ _ => False) free) : vx_Run p l e R s m args below meth c H locs cells slots mc ms g rest Qa XC free := by
  intro T hT X
  rcases h T hT X with h | ⟨q, st₀, t, T', L, E, ce, h0, X', hL, e1, e2, hXC, -⟩
  · exact Or.inl h
  · exact hXC.elim
section LW
variable {p : Program} {l : Launch} {e : Env} {R : Room} {s : State} {m : MethodId} {args : Array Value} {below : List Frame} {meth : Method} {c : Code} {H : Heap} {locs : List Loc} {cells slots : Nat} {Q : State → Prop}
variable {cc : ByteArray} {pc : Nat} {ls : Array Slot} {rest st0 : List Value} {D : va_G} {A0 A1 : Nat → Prop} {own C : String} {nL idx maxL d b mc ms r0 : Nat} {y : MethodName} {bytes : ByteArray} {ret : Option FieldType} {hh : List (Nat × Nat × Nat × Nat)} {As : List Value} {Pic Pic' : Heap → Prop}
/-- a helper that catches what its call throws -/
theorem lwS {v : Int32} (hx : p.tables.exec = Jvm.exec) (hb : c.code = cc) (hml : c.maxLocals = nL) (hown : s.vm.findClass own = some m.cls) (hts : ∀ w ∈ AW, w.before args s = true) (hls : ls.size = nL) (hK : Kn D s) (hKx : Kx r0 s) (hr0 : ∀ q, A0 q → r0 ≤ q) (hM : vx_Met l y (wH y bytes maxL ret hh) (rmX d mc ms) (xPc D r0 As Pic) (gQi A1 v Pic') (fun _ _ _ => False) mc ms A1)
    (hg : GoodIn AW (va_wsS own idx y (wH y bytes maxL ret hh))) (hd : y.cls ≠ "java/lang/invoke/MethodHandle" ∧ y.cls ≠ "java/lang/invoke/VarHandle" ∧ (parseMethodDescriptor y.desc).map (fun d => d.parameters.length) = some As.length) (hR : d + 1 ≤ R.frames ∧ 8 + (maxL + 11) + 30 * d ≤ R.locals)
    (hP : Pic H) (hst : st0 = As.reverse ++ rest) (hw : (rest.map fun v => v.category).sum ≤ 8) (hcs : cells + mc ≤ R.cells ∧ slots + ms ≤ R.slots) (hdg : decode cc pc = .ok (.invokestatic idx, 3)) (hS : va_S A0 s.heap H locs) (hA : ∀ q, A1 q → A0 q)
    (kk : ∀ (H1 : Heap) (locs1 : List Loc), Pic' H1 → H.size ≤ H1.size → (∀ q : Nat, q < H.size → ¬ A1 q → H1[q]? = H[q]?) → va_S A0 s.heap H1 locs1 → W p l e R s m args below meth c H1 locs1 (cells + mc) (slots + ms) Q (F0 m (pc + 3) ls (.int v :: rest))) : W p l e R s m args below meth c H locs cells slots Q (F0 m pc ls st0) := by
  refine vx_calli (SX := Unit) (px := fun _ => False) (BX := fun _ _ _ => False) (AX := fun _ => False) (vx_runF (vx_runSX (As := As) (rest := rest) ⟨hx, hb, hml, hown, hts⟩ hM (vx_cwSW As.length hts hg rfl rfl rfl hd hR) (xPre_S hK hKx hP hS hr0) rfl rfl hls hst (lv_room hw) hdg hcs)) hS (fun q _ h => hA q h) hA (fun q _ h => h.elim) (fun E ce q9 u t H1 locs1 ht hvm hpx hBX hz hk hS1 hce hv hcl => hpx.elim) (fun x u t H1 locs1 ht hvm hxr hB hz hk hS1 => ?_)
  have e1 : x = v := hxr
  subst e1
  exact kk H1 locs1 (by have h := hB; rw [ht] at h; exact h) hz hk hS1
/-- one of the law's checks -/
theorem lwM {v : Int32} (hx : p.tables.exec = Jvm.exec) (hb : c.code = cc) (hml : c.maxLocals = nL) (hown : s.vm.findClass own = some m.cls) (hts : ∀ w ∈ AW, w.before args s = true) (hls : ls.size = nL) (hK : Kn D s) (hKx : Kx r0 s) (hr0 : ∀ q, A0 q → r0 ≤ q) (hM : Met l y (wA y bytes maxL ret) (rmX d mc ms) (xPc D r0 As Pic) (gQi A1 v Pic') mc ms A1)
    (hg : GoodIn AW (va_wsS own idx y (wA y bytes maxL ret))) (hd : y.cls ≠ "java/lang/invoke/MethodHandle" ∧ y.cls ≠ "java/lang/invoke/VarHandle" ∧ (parseMethodDescriptor y.desc).map (fun d => d.parameters.length) = some As.length) (hR : d + 1 ≤ R.frames ∧ 8 + (maxL + 11) + 30 * d ≤ R.locals)
    (hP : Pic H) (hst : st0 = As.reverse ++ rest) (hw : (rest.map fun v => v.category).sum ≤ 8) (hcs : cells + mc ≤ R.cells ∧ slots + ms ≤ R.slots) (hdg : decode cc pc = .ok (.invokestatic idx, 3)) (hS : va_S A0 s.heap H locs) (hA : ∀ q, A1 q → A0 q)
    (kk : ∀ (H1 : Heap) (locs1 : List Loc), Pic' H1 → H.size ≤ H1.size → (∀ q : Nat, q < H.size → ¬ A1 q → H1[q]? = H[q]?) → va_S A0 s.heap H1 locs1 → W p l e R s m args below meth c H1 locs1 (cells + mc) (slots + ms) Q (F0 m (pc + 3) ls (.int v :: rest))) : W p l e R s m args below meth c H locs cells slots Q (F0 m pc ls st0) := by
  refine va_calli (va_runS (As := As) (rest := rest) ⟨hx, hb, hml, hown, hts⟩ hM (va_cwS As.length hts hg rfl rfl rfl hd hR) (xPre_S hK hKx hP hS hr0) rfl rfl hls hst (lv_room hw) hdg hcs) hS (fun q _ h => hA q h) hA (fun x u t H1 locs1 ht hvm hxr hB hz hk hS1 => ?_)
  have e1 : x = v := hxr
  subst e1
  exact kk H1 locs1 (by have h := hB; rw [ht] at h; exact h) hz hk hS1
/-- a virtual call, its answer a double -/
theorem gcVd {r : UInt64} {H0 : Heap} (hx : p.tables.exec = Jvm.exec) (hb : c.code = cc) (hml : c.maxLocals = nL) (hown : s.vm.findClass own = some m.cls) (hts : ∀ w ∈ AW, w.before args s = true) (hls : ls.size = nL) (hK : Kn D s) (hM : Met l y (wA y bytes maxL ret) (rmL d) (gPc D (.ref b :: As) Pic) (gQd A1 r Pic') 0 0 A1)
    (hg : GoodIn AW (wsV own idx C y (wA y bytes maxL ret))) (hd : y.cls = C ∧ y.cls ≠ "java/lang/invoke/MethodHandle" ∧ y.cls ≠ "java/lang/invoke/VarHandle" ∧ (parseMethodDescriptor y.desc).map (fun d => d.parameters.length) = some As.length) (hR : d + 1 ≤ R.frames ∧ 8 + (maxL + 11) + 30 * d ≤ R.locals)
    (hP : Pic H) (hr : ∃ cellB : Cell, H[b]? = some cellB ∧ cellB.vm.isStatics = false ∧ s.vm.findClass C = some cellB.cls) (hst : st0 = As.reverse ++ .ref b :: rest) (hw : (rest.map fun v => v.category).sum ≤ 8) (hcs : cells ≤ R.cells ∧ slots ≤ R.slots) (hdg : decode cc pc = .ok (.invokevirtual idx, 3)) (hS : va_S A0 H0 H locs) (hA : ∀ q, A1 q → A0 q)
    (kk : ∀ (H1 : Heap) (locs1 : List Loc), Pic' H1 → H.size ≤ H1.size → (∀ q : Nat, q < H.size → ¬ A1 q → H1[q]? = H[q]?) → va_S A0 H0 H1 locs1 → W p l e R s m args below meth c H1 locs1 cells slots Q (F0 m (pc + 3) ls (.double r :: rest))) : W p l e R s m args below meth c H locs cells slots Q (F0 m pc ls st0) := by
  refine va_calld (va_runV (As := As) (rest := rest) ⟨hx, hb, hml, hown, hts⟩ hM (cwV As.length hts hg rfl rfl rfl hd hR) (gPre_V hK hP hr) rfl rfl hls hst (lv_room hw) hdg hcs) hS (fun q _ h => hA q h) hA (fun x u t H1 locs1 ht hvm hxr hB hz hk hS1 => ?_)
  have e1 : x = r := hxr
  subst e1
  exact kk H1 locs1 (by have h := hB; rw [ht] at h; exact h) hz hk hS1
theorem topLE {x y : Int64} (hn : x = y) (kk : W p l e R s m args below meth c H locs cells slots Q (F0 m pc ls (.long y :: rest))) : W p l e R s m args below meth c H locs cells slots Q (F0 m pc ls (.long x :: rest)) := by
  rw [hn]; exact kk
theorem topDE {x y : UInt64} (hn : x = y) (kk : W p l e R s m args below meth c H locs cells slots Q (F0 m pc ls (.double y :: rest))) : W p l e R s m args below meth c H locs cells slots Q (F0 m pc ls (.double x :: rest)) := by
  rw [hn]; exact kk
end LW
/-- an array of ints of the law's own -/
def IA (D : va_G) (w N : Nat) (X : Nat → Int32) (H : Heap) : Prop := va_P D vwCl [(w, .inl (D.1 100, N, .inl X))] H
theorem IA.kept {D : va_G} {w N : Nat} {X : Nat → Int32} {H H1 : Heap} (h : IA D w N X H) (hq : H1[w]? = H[w]?) : IA D w N X H1 := va_P.kept h (fun k q hk => by
  match k, hk with
  | 0, hk => cases hk; exact hq
  | k + 1, hk => simp at hk)
theorem IA.lt {D : va_G} {w N : Nat} {X : Nat → Int32} {H : Heap} (h : IA D w N X H) : w < H.size := (h 0 _ rfl).lt
section LA
variable {p : Program} {l : Launch} {e : Env} {R : Room} {s : State} {m : MethodId} {args : Array Value} {below : List Frame} {meth : Method} {c : Code} {H : Heap} {locs : List Loc} {cells slots : Nat} {Q : State → Prop}
variable {cc : ByteArray} {pc : Nat} {ls : Array Slot} {rest : List Value} {D : va_G} {A0 : Nat → Prop} {H0 : Heap} {w N b L r : Nat} {X xs : Nat → Int32}
theorem lwAl {k : Nat} (hx : p.tables.exec = Jvm.exec) (hb : c.code = cc) (hK : Kn D s) (hG : IA D w N X H) (hk : k < N) (hN : N < 1000) (hdg : decode cc pc = .ok (.iaload, 1))
    (kk : W p l e R s m args below meth c H locs cells slots Q (F0 m (pc + 1) ls (.int (X k) :: rest))) : W p l e R s m args below meth c H locs cells slots Q (F0 m pc ls (.int (nI k) :: .ref w :: rest)) :=
  va_iald hx hb hK hG 0 0 rfl rfl (vp_in_nI hk (by omega)) hdg (by rw [nI_clamp (by omega)]; exact kk)
theorem lwAs {k : Nat} {v : Int32} (hx : p.tables.exec = Jvm.exec) (hb : c.code = cc) (hK : Kn D s) (hG : IA D w N X H) (hS : va_S A0 H0 H locs) (hw : A0 w) (hk : k < N) (hN : N < 1000) (hdg : decode cc pc = .ok (.iastore, 1))
    (kk : ∀ (H1 : Heap) (locs1 : List Loc), IA D w N (upd X k v) H1 → (∀ q, q ≠ w → H1[q]? = H[q]?) → va_S A0 H0 H1 locs1 → W p l e R s m args below meth c H1 locs1 cells slots Q (F0 m (pc + 1) ls rest)) : W p l e R s m args below meth c H locs cells slots Q (F0 m pc ls (.int v :: .int (nI k) :: .ref w :: rest)) := by
  refine W.iast hx hb (hG 0 _ rfl) ((hK.2 0 _ rfl).1 N (fun j => .int (X j))) (fun q => by cases q) (by show ¬ (nI k < 0 ∨ (arrV _ _ _).slots.size ≤ _); rw [arrV_size]; exact vp_in_nI hk (show N < 2 ^ 31 by omega)) rfl rfl hdg fun H1 e z oq => ?_
  have hD : va_D A0 [(w, .inl (D.1 100, N, .inl X))] := ⟨fun i j p q hi hj h => by
    have hi1 : i < 1 := (List.getElem?_eq_some_iff.mp hi).1
    have hj1 : j < 1 := (List.getElem?_eq_some_iff.mp hj).1
    omega, fun k q hk => by
    have hk1 : k < 1 := (List.getElem?_eq_some_iff.mp hk).1
    rw [show k = 0 by omega] at hk
    cases hk
    exact hw⟩
  have hat : va_at D vwCl (w, (.inl (D.1 100, N, .inl (upd X k v)) : va_E)) H1 := by
    show H1[w]? = some (vp_cell _ _)
    rw [e]
    rw [vp_cell_i, vp_cell_i, arrV_store]
    congr 2
    funext q
    rw [nI_clamp (by omega)]
    by_cases hq : q = k
    · subst hq
      simp [updV, upd]
    · simp [updV, upd, hq]
  have hset : IA D w N (upd X k v) H1 := va_P.set (p := 0) hG hD rfl hat oq
  exact kk H1 _ hset oq (hS.put z oq (hD.2 0 _ rfl))
/-- a word of the script -/
theorem lwX (hx : p.tables.exec = Jvm.exec) (hb : c.code = cc) (hX : va_X b L xs s s.heap) (hbl : b < r) (hsz : s.heap.size = r) (hS : va_S (fun q => r ≤ q) s.heap H locs) {i : Nat} (hi : i < L) (hL : L < 2 ^ 31) (hdg : decode cc pc = .ok (.iaload, 1))
    (kk : W p l e R s m args below meth c H locs cells slots Q (F0 m (pc + 1) ls (.int (xs i) :: rest))) : W p l e R s m args below meth c H locs cells slots Q (F0 m pc ls (.int (nI i) :: .ref b :: rest)) := by
  refine va_sld hx hb hX (by omega) (fun h => by omega) hS (vp_in_nI (by omega) (by omega)) hdg ?_
  rw [nI_clamp (by omega)]
  exact kk
end LA
theorem lgc_self (x : Int64) : lg_cmp x x = 0 := (lg_cmp_eq x x).mpr rfl
theorem St.keptI {D : va_G} {r w : Nat} {P : Nat → Int32} {Q : Nat → Nat → Int32} {n : Nat} {H H1 : Heap} (h : St D r P Q n H) (hq : ∀ q, q ≠ w → H1[q]? = H[q]?) (hw : r + 206 ≤ w) : St D r P Q n H1 := by
  obtain ⟨C, J, G, Y, X, U, Z, F, h1, h2⟩ := h
  exact ⟨C, J, G, Y, X, U, Z, F, h1.kept (fun q hq1 => hq q (by unfold inS at hq1; omega)), h2⟩
theorem St.cg {D : va_G} {r : Nat} {P : Nat → Int32} {Q : Nat → Nat → Int32} {n : Nat} {H : Heap} (h : St D r P Q n H) : Cg P P := by
  obtain ⟨C, J, G, Y, X, U, Z, F, h1, h2, h3⟩ := h
  exact h2.1.self
theorem St.n4 {D : va_G} {r : Nat} {P : Nat → Int32} {Q : Nat → Nat → Int32} {n : Nat} {H : Heap} (h : St D r P Q n H) : n ≤ 4 := by
  obtain ⟨C, J, G, Y, X, U, Z, F, h1, h2, h3⟩ := h
  exact h2.2.1
/-- the law's low: a number below N -/
def lowN (v : Int32) (N : Nat) : Nat := (v &&& 2147483647).toBitVec.toNat % N
theorem low_nI (v : Int32) : v &&& 2147483647 = nI (v &&& 2147483647).toBitVec.toNat ∧ (v &&& 2147483647).toBitVec.toNat < 2 ^ 31 := by
  refine ⟨?_, ?_⟩
  · apply Int32.toBitVec_inj.mp
    show _ = (Int32.ofNat _).toBitVec
    simp
  · rw [Int32.toBitVec_and, BitVec.toNat_and]
    have h : (2147483647 : Int32).toBitVec.toNat = 2147483647 := by decide
    rw [h]
    exact Nat.lt_of_le_of_lt Nat.and_le_right (by decide)
theorem lowN_lt {v : Int32} {N : Nat} (h : 0 < N) : lowN v N < N := Nat.mod_lt _ h
theorem hds_L_low : yL_low.cls ≠ "java/lang/invoke/MethodHandle" ∧ yL_low.cls ≠ "java/lang/invoke/VarHandle" ∧ (parseMethodDescriptor yL_low.desc).map (fun d => d.parameters.length) = some 2 := by decide +kernel
set_option maxHeartbeats 4000000 in
set_option maxRecDepth 100000 in
theorem c_L_low (l : Launch) (D : va_G) (Pic : Heap → Prop) (v : Int32) (N : Nat) (h0 : 0 < N) (hN : N < 2 ^ 31) : Met l yL_low (wA yL_low cL_low 2 (some .int)) (rmL 0) (gPc D [.int v, .int (nI N)] Pic) (gQi noA (nI (lowN v N)) Pic) 0 0 noA := by
  refine Met.ofW (cc := cL_low) (maxL := 2) (ret := (some .int)) (by decide) rfl ?_
  intro p e s m args below meth c s₁ B hml hv
  obtain ⟨hav, hG, hK⟩ := hv
  have hx := B.exec
  have hb := B.bytes
  have hr := B.returns
  have hts0 := atoms_spec (ws := wA yL_low cL_low 2 (some .int)) B.pre
  have hts : ∀ w ∈ AW, w.before _ s = true := fun w h => hts0 w (List.mem_cons_of_mem _ h)
  have hown : s.vm.findClass RL = some m.cls := findClass_of_methodNamed B.named
  have hS : va_S noA s.heap s.heap [] := va_S.rf
  have hl := lv_entry ([.int v, .int (nI N)]) (n := 2) (Nat.le_of_ble_eq_true rfl)
  refine W.eq (g2 := entryFrame m ([.int v, .int (nI N)] : List Value).toArray 2) (by rw [hav]) ?_
  rw [lg_entry_eq]
  generalize (lg_sl ([.int v, .int (nI N)]) ++ List.replicate (2 - (lg_sl ([.int v, .int (nI N)])).length) Slot.unset).toArray = ls at hl ⊢
  have hl : lv_has ls 2 [(0, .int v), (1, .int (nI N))] := hl
  refine lv_iload_n hx hb dL_low_0 rfl (lv_at hl 0 rfl) ?_
  refine lv_ldc hx hb hown (hts _ qV_L_8) dL_low_1 ?_
  refine lv_iand hx hb dL_low_3 ?_
  refine lv_iload_n hx hb dL_low_4 rfl (lv_at hl 1 rfl) ?_
  refine lv_irem hx hb dL_low_5 (nI_ne0 h0 hN) ?_
  refine topN (n := lowN v N) ?_ ?_
  · obtain ⟨a1, a2⟩ := low_nI v
    rw [a1, pk_rem a2 h0 hN]
    rfl
  exact W.iret hx hb hr (fun t ht hW => gQi_of rfl hG hS ht) hS.2.2 dL_low_6
