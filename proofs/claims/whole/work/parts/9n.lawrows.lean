/-! The law's own rows. -/
def LI (D : va_G) (r : Nat) (H : Heap) : Prop := ∃ (C J : Nat → Int32) (G : Nat → Nat → Int32) (n : Nat) (Y X U Z F P S V T Fm : Nat → Int32) (h : Int64) (O : Nat → Int64), Sn D r C J G n Y X U Z F H ∧ Md D (r + 206) P S V T Fm h H ∧ Ou D (r + 211) O H ∧ Rel C G n Y F P V T Fm
theorem vx_runF {p : Program} {l : Launch} {e : Env} {R : Room} {s : State} {m : MethodId} {args : Array Value} {below : List Frame} {meth : Method} {c : Code} {H : Heap} {locs : List Loc} {cells slots mc ms : Nat} {g : JFrame} {rest : List Value} {Qa : State → Outcome → State → Prop} {XC : String → State → State → Prop} {free : Addr → Prop} (h : vx_Run p l e R s m args below meth c H locs cells slots mc ms g rest Qa (fun _ _ _ => False) free) : vx_Run p l e R s m args below meth c H locs cells slots mc ms g rest Qa XC free := by
  intro T hT X
  rcases h T hT X with h | ⟨q, st₀, t, T', L, E, ce, h0, X', hL, e1, e2, hXC, -⟩
  · exact Or.inl h
  · exact hXC.elim
section LW
variable {p : Program} {l : Launch} {e : Env} {R : Room} {s : State} {m : MethodId} {args : Array Value} {below : List Frame} {meth : Method} {c : Code} {H : Heap} {locs : List Loc} {cells slots : Nat} {Q : State → Prop}
variable {cc : ByteArray} {pc : Nat} {ls : Array Slot} {rest st0 : List Value} {D : va_G} {A0 A1 : Nat → Prop} {own : String} {nL idx maxL d mc ms r0 : Nat} {y : MethodName} {bytes : ByteArray} {ret : Option FieldType} {hh : List (Nat × Nat × Nat × Nat)} {As : List Value} {Pic Pic' : Heap → Prop}
theorem lwS {v : Int32} (hx : p.tables.exec = Jvm.exec) (hb : c.code = cc) (hml : c.maxLocals = nL) (hown : s.vm.findClass own = some m.cls) (hts : ∀ w ∈ AW, w.before args s = true) (hls : ls.size = nL) (hK : Kn D s) (hKx : Kx r0 s) (hr0 : ∀ q, A0 q → r0 ≤ q) (hM : vx_Met l y (wH y bytes maxL ret hh) (rmX d mc ms) (xPc D r0 As Pic) (gQi A1 v Pic') (fun _ _ _ => False) mc ms A1)
    (hg : GoodIn AW (va_wsS own idx y (wH y bytes maxL ret hh))) (hd : y.cls ≠ "java/lang/invoke/MethodHandle" ∧ y.cls ≠ "java/lang/invoke/VarHandle" ∧ (parseMethodDescriptor y.desc).map (fun d => d.parameters.length) = some As.length) (hR : d + 1 ≤ R.frames ∧ 8 + (maxL + 11) + 30 * d ≤ R.locals)
    (hP : Pic H) (hst : st0 = As.reverse ++ rest) (hw : (rest.map fun v => v.category).sum ≤ 8) (hcs : cells + mc ≤ R.cells ∧ slots + ms ≤ R.slots) (hdg : decode cc pc = .ok (.invokestatic idx, 3)) (hS : va_S A0 s.heap H locs) (hA : ∀ q, A1 q → A0 q)
    (kk : ∀ (H1 : Heap) (locs1 : List Loc), Pic' H1 → H.size ≤ H1.size → (∀ q : Nat, q < H.size → ¬ A1 q → H1[q]? = H[q]?) → va_S A0 s.heap H1 locs1 → W p l e R s m args below meth c H1 locs1 (cells + mc) (slots + ms) Q (F0 m (pc + 3) ls (.int v :: rest))) : W p l e R s m args below meth c H locs cells slots Q (F0 m pc ls st0) := by
  refine vx_calli (SX := Unit) (px := fun _ => False) (BX := fun _ _ _ => False) (AX := fun _ => False) (vx_runF (vx_runSX (As := As) (rest := rest) ⟨hx, hb, hml, hown, hts⟩ hM (vx_cwSW As.length hts hg rfl rfl rfl hd hR) (xPre_S hK hKx hP hS hr0) rfl rfl hls hst (lv_room hw) hdg hcs)) hS (fun q _ h => hA q h) hA (fun q _ h => h.elim) (fun E ce q9 u t H1 locs1 ht hvm hpx hBX hz hk hS1 hce hv hcl => hpx.elim) (fun x u t H1 locs1 ht hvm hxr hB hz hk hS1 => ?_)
  have e1 : x = v := hxr
  subst e1
  exact kk H1 locs1 (by have h := hB; rw [ht] at h; exact h) hz hk hS1
end LW
section LV
variable {p : Program} {l : Launch} {e : Env} {R : Room} {s : State} {m : MethodId} {args : Array Value} {below : List Frame} {meth : Method} {c : Code} {H : Heap} {locs : List Loc} {cells slots : Nat} {Q : State → Prop}
variable {cc : ByteArray} {pc : Nat} {ls : Array Slot} {rest : List Value} {D : va_G} {b L r w : Nat} {xs : Nat → Int32} {O : Nat → Int64}
/-- a word of the script -/
theorem lwX (hx : p.tables.exec = Jvm.exec) (hb : c.code = cc) (hX : va_X b L xs s s.heap) (hbl : b < r) (hsz : s.heap.size = r) (hS : va_S (fun q => r ≤ q) s.heap H locs) {i : Nat} (hi : i < L) (hL : L < 2 ^ 31) (hdg : decode cc pc = .ok (.iaload, 1))
    (kk : W p l e R s m args below meth c H locs cells slots Q (F0 m (pc + 1) ls (.int (xs i) :: rest))) : W p l e R s m args below meth c H locs cells slots Q (F0 m pc ls (.int (nI i) :: .ref b :: rest)) := by
  refine va_sld hx hb hX (by omega) (fun h => by omega) hS (vp_in_nI (by omega) (by omega)) hdg ?_
  rw [nI_clamp (by omega)]
  exact kk
/-- the law's answer word -/
theorem lwO (hx : p.tables.exec = Jvm.exec) (hb : c.code = cc) (hK : Kn D s) (hO : Ou D w O H) (hdg : decode cc pc = .ok (.laload, 1))
    (kk : W p l e R s m args below meth c H locs cells slots Q (F0 m (pc + 1) ls (.long (O 0) :: rest))) : W p l e R s m args below meth c H locs cells slots Q (F0 m pc ls (.int (nI 0) :: .ref w :: rest)) :=
  va_lald hx hb hK hO 0 5 rfl rfl (vp_in_nI (by decide) (by decide)) hdg kk
theorem ou_0 {O : Nat → Int64} {v : Int64} : ou O 0 v 0 = v := by
  unfold ou vp_updL
  simp
end LV
theorem kq_0 {c1 e : Nat} (h : kq c1 e = 0) : e = 0 := by
  unfold kq at h
  by_cases a : e = 0
  · exact a
  rw [if_neg a] at h
  by_cases b : e = c1
  · rw [if_pos b] at h
    exact absurd h (by decide)
  · rw [if_neg b] at h
    exact absurd h (by decide)
