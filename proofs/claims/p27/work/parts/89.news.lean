/-! New cells at the heap's end, and constructors' calls. -/
def Ka (U : State) : Prop := (va_AO RX3 U ∧ va_AO RX1 U ∧ va_AO RX4 U ∧ va_AO RX0 U) ∧ va_Nw (.methodLinkNest RX0 39 yX3_init RX6) U ∧ va_Nw (.methodLinkNest RX0 40 yX1_init RX6) U ∧ va_Nw (.methodLinkNest RX6 28 yX5_init RX6) U
theorem Ka.warm {s U : State} (hW : s.WarmedH U.vm) (h : Ka s) : Ka U := ⟨⟨h.1.1.moved hW.alike, h.1.2.1.moved hW.alike, h.1.2.2.1.moved hW.alike, h.1.2.2.2.moved hW.alike⟩, va_Nw.warmM hW h.2.1, va_Nw.warmM hW h.2.2.1, va_Nw.warmM hW h.2.2.2⟩
theorem Ka.calling {U : State} {a : Array Value} {g : JFrame} {mk : MethodId} (h : Ka U) : Ka (U.calling g mk a) := ⟨⟨h.1.1.moved (u := U) (U := U.calling g mk a) (Vm.Alike.refl U.vm), h.1.2.1.moved (u := U) (U := U.calling g mk a) (Vm.Alike.refl U.vm), h.1.2.2.1.moved (u := U) (U := U.calling g mk a) (Vm.Alike.refl U.vm), h.1.2.2.2.moved (u := U) (U := U.calling g mk a) (Vm.Alike.refl U.vm)⟩, va_Nw.same (u := U) (U := U.calling g mk a) rfl rfl h.2.1, va_Nw.same (u := U) (U := U.calling g mk a) rfl rfl h.2.2.1, va_Nw.same (u := U) (U := U.calling g mk a) rfl rfl h.2.2.2⟩
def kPc (D : va_G) (av : List Value) (Pic : Heap → Prop) : Array Value → State → Prop := va_Pc av (fun U => Pic U.heap ∧ Kn D U ∧ Ka U)
theorem kPre_S {D : va_G} {s : State} {H : Heap} {As : List Value} {Pic : Heap → Prop} (hK : Kn D s) (hKa : Ka s) (hP : Pic H) : PreS s H (kPc D As Pic) As := ⟨fun a U g mk q => by
  obtain ⟨q0, q1, q2, q3⟩ := q
  exact ⟨q0, q1, va_K.moved (u := U) (U := U.calling g mk a) (Vm.Alike.refl U.vm) q2, q3.calling⟩, fun U hU hW => ⟨rfl, by rw [hU]; exact hP, va_K.moved hW.alike hK, hKa.warm hW⟩⟩
theorem spn.push {b n m : Nat} {ws : va_W} {x : va_E} (h : spn b n ws) (hm : m = b + n) : spn b (n + 1) (ws ++ [(m, x)]) := by
  refine h.app (n := n) (m := 1) ⟨rfl, fun k q hk => ?_⟩
  match k, hk with
  | 0, hk => cases hk; exact hm
  | k + 1, hk => simp at hk
section NW
variable {p : Program} {l : Launch} {e : Env} {R : Room} {s : State} {m : MethodId} {args : Array Value} {below : List Frame} {meth : Method} {c : Code} {H : Heap} {locs : List Loc} {cells slots : Nat} {Q : State → Prop}
variable {cc : ByteArray} {pc : Nat} {ls : Array Slot} {rest st0 : List Value} {D : va_G} {A A0 A1 : Nat → Prop} {H0 : Heap} {own C : String} {T : u_T} {N ci idx n0 : Nat} {ws : va_W}
theorem gnew {ty : Nat → FieldType} {fs : List Value} (hx : p.tables.exec = Jvm.exec) (hb : c.code = cc) (hts : ∀ w ∈ AW, w.before args s = true) (hin : ∀ w ∈ u_ws C T N, w ∈ AW) (hty : ∀ k, k < N → parseFieldDescriptor (T k).2.2.1 = some (ty k)) (hown : s.vm.findClass own = some m.cls) (hcl : Cond.classLink own idx C ∈ AW) (hinst : Cond.instantiable C N ∈ AW) (hini : Cond.initialized C ∈ AW)
    (hK : Kn D s) (hP : va_P D vwCl ws H) (hS : va_S A H0 H locs) (hsz : H.size = n0) (hc : vwCl[ci]? = some (C, T, N)) (hfs : ∀ j, j < N → defaultValue (ty j) = vp_V fs j) (hcells : cells + 1 ≤ R.cells) (hslots : slots + N ≤ R.slots) (hdg : decode cc pc = .ok (.new idx, 3))
    (kk : ∀ H1 : Heap, va_P D vwCl (ws ++ [(n0, .inr (ci, fs))]) H1 → H1.size = n0 + 1 → (∀ q : Nat, q < H.size → H1[q]? = H[q]?) → va_S A H0 H1 locs → W p l e R s m args below meth c H1 locs (cells + 1) (slots + N) Q (F0 m (pc + 3) ls (.ref n0 :: rest))) : W p l e R s m args below meth c H locs cells slots Q (F0 m pc ls rest) := by
  have hKn := hK.1 ci _ hc
  refine W.newcK hx hb hown (hts _ hcl) (hts _ hinst) (hts _ hini) rfl hdg hcells hslots hKn.2.1 hsz fun H1 kC hkC e1 z1 o1 => ?_
  have hk : ∀ (k : Nat) (x : Nat × va_E), ws[k]? = some x → H1[x.1]? = H[x.1]? := fun k x hx => o1 x.1 (by have := (hP k x hx).lt; omega)
  refine kk H1 ((hP.kept hk).app (fun k x hx => ?_)) z1 (fun q hq => o1 q (by omega)) ⟨Nat.le_trans hS.1 (by omega), fun x h1 h2 => (o1 x (by have := hS.1; omega)).trans (hS.2.1 x h1 h2), hS.2.2⟩
  have hz : k < 1 := (List.getElem?_eq_some_iff.mp hx).1
  rw [show k = 0 by omega] at hx
  cases hx
  exact ⟨_, hc, (u_born ty hts hin hKn hkC e1 hty).to hfs⟩
theorem gnewI {n : Int32} (hx : p.tables.exec = Jvm.exec) (hb : c.code = cc) (hts : ∀ w ∈ AW, w.before args s = true) (hK : Kn D s) (hP : va_P D vwCl ws H) (hS : va_S A H0 H locs) (hsz : H.size = n0) (hn : ¬ n < 0) (hN : n.toNatClampNeg = N) (hbytes : N * 4 ≤ 536870912) (hcells : cells + 1 ≤ R.cells) (hslots : slots + N ≤ R.slots) (hdg : decode cc pc = .ok (.newarray .int, 2))
    (kk : ∀ H1 : Heap, va_P D vwCl (ws ++ [(n0, .inl (D.1 100, N, .inl (fun _ => 0)))]) H1 → H1.size = n0 + 1 → (∀ q : Nat, q < H.size → H1[q]? = H[q]?) → va_S A H0 H1 locs → W p l e R s m args below meth c H1 locs (cells + 1) (slots + N) Q (F0 m (pc + 2) ls (.ref n0 :: rest))) : W p l e R s m args below meth c H locs cells slots Q (F0 m pc ls (.int n :: rest)) := by
  refine va_newaK hx hb (atype := .int) (hts _ qA_int) rfl hdg rfl hn hN hbytes hcells hslots hsz fun H1 cA e1 z1 o1 hAr hNm => ?_
  have hcA : cA = D.1 100 := Option.some.inj (hNm.symm.trans (hK.2 0 _ rfl).2)
  subst hcA
  have hk : ∀ (k : Nat) (x : Nat × va_E), ws[k]? = some x → H1[x.1]? = H[x.1]? := fun k x hx => o1 x.1 (by have := (hP k x hx).lt; omega)
  refine kk H1 ((hP.kept hk).app (fun k x hx => ?_)) z1 (fun q hq => o1 q (by omega)) ⟨Nat.le_trans hS.1 (by omega), fun x h1 h2 => (o1 x (by have := hS.1; omega)).trans (hS.2.1 x h1 h2), hS.2.2⟩
  have hz : k < 1 := (List.getElem?_eq_some_iff.mp hx).1
  rw [show k = 0 by omega] at hx
  cases hx
  exact e1
theorem gnewQ (t0 : Nat) {cA0 : ClassId} {n : Int32} (hx : p.tables.exec = Jvm.exec) (hb : c.code = cc) (hts : ∀ w ∈ AW, w.before args s = true) (hown : s.vm.findClass own = some m.cls) (hcl : Cond.classLink own idx C ∈ AW) (hao : va_AO C s) (ht0 : (tysL D)[t0]? = some (cA0, .object C)) (hK : Kn D s) (hP : va_P D vwCl ws H) (hS : va_S A H0 H locs) (hsz : H.size = n0) (hn : ¬ n < 0) (hN : n.toNatClampNeg = N) (hbytes : N * 4 ≤ 536870912) (hcells : cells + 1 ≤ R.cells) (hslots : slots + N ≤ R.slots) (hdg : decode cc pc = .ok (.anewarray idx, 3))
    (kk : ∀ H1 : Heap, va_P D vwCl (ws ++ [(n0, .inl (cA0, N, .inr (.inr (.inr (.inr (fun _ => none))))))]) H1 → H1.size = n0 + 1 → (∀ q : Nat, q < H.size → H1[q]? = H[q]?) → va_S A H0 H1 locs → W p l e R s m args below meth c H1 locs (cells + 1) (slots + N) Q (F0 m (pc + 3) ls (.ref n0 :: rest))) : W p l e R s m args below meth c H locs cells slots Q (F0 m pc ls (.int n :: rest)) := by
  subst hN
  subst hsz
  refine W.anew hx hb hown (hts _ hcl) (va_AO.use hao) rfl hdg rfl hn hbytes hcells hslots fun cA kA comp f1 f2 f3 f4 => ?_
  have hcA : cA = cA0 := by
    obtain ⟨kB, cB, -, -, -, g4⟩ := (hK.2 t0 _ ht0).2
    exact Option.some.inj (f1.symm.trans g4)
  subst hcA
  generalize hH1 : H.push ({ cls := cA, slots := Array.replicate n.toNatClampNeg .null, vm := .none } : Cell) = H1
  have z1 : H1.size = H.size + 1 := by rw [← hH1, Array.size_push]
  have e1 : H1[H.size]? = some (arrV cA n.toNatClampNeg (fun _ => .null)) := by rw [← hH1, Array.getElem?_push_size, ← arrV_new]
  have o1 : ∀ q : Nat, q < H.size → H1[q]? = H[q]? := fun q hq => by rw [← hH1, Array.getElem?_push, if_neg (Nat.ne_of_lt hq)]
  have hk : ∀ (k : Nat) (x : Nat × va_E), ws[k]? = some x → H1[x.1]? = H[x.1]? := fun k x hx => o1 x.1 ((hP k x hx).lt)
  refine kk H1 ((hP.kept hk).app (fun k x hx => ?_)) z1 o1 ⟨Nat.le_trans hS.1 (by omega), fun x h1 h2 => (o1 x (Nat.lt_of_lt_of_le h1 hS.1)).trans (hS.2.1 x h1 h2), hS.2.2⟩
  have hz : k < 1 := (List.getElem?_eq_some_iff.mp hx).1
  rw [show k = 0 by omega] at hx
  cases hx
  show H1[H.size]? = some (vp_cell _ _)
  rw [vp_cell_q]
  exact e1
variable {y : MethodName} {bytes : ByteArray} {maxL nL d mc ms b : Nat} {As : List Value} {Pc : Array Value → State → Prop} {Pic' : Heap → Prop}
/-- a constructor's call -/
theorem gcIv (hx : p.tables.exec = Jvm.exec) (hb : c.code = cc) (hml : c.maxLocals = nL) (hown : s.vm.findClass own = some m.cls) (hts : ∀ w ∈ AW, w.before args s = true) (hls : ls.size = nL) (hM : Met l y (wA y bytes maxL none) (rmX d mc ms) Pc (gQv A1 Pic') mc ms A1)
    (h5 : Cond.code y bytes maxL none ∈ AW) (hini : Cond.initialized y.cls ∈ AW) (hlink : Cond.methodLink own idx y ∈ AW) (hinst : Cond.instanceMethod y ∈ AW) (hname : y.name = "<init>") (hd : y.cls ≠ "java/lang/invoke/MethodHandle" ∧ y.cls ≠ "java/lang/invoke/VarHandle" ∧ (parseMethodDescriptor y.desc).map (fun d => d.parameters.length) = some As.length) (hR : d + 1 ≤ R.frames ∧ 8 + (maxL + 11) + 30 * d ≤ R.locals)
    (hp : PreS s H Pc (.ref b :: As)) (hst : st0 = As.reverse ++ .ref b :: rest) (hw : (rest.map fun v => v.category).sum ≤ 8) (hcs : cells + mc ≤ R.cells ∧ slots + ms ≤ R.slots) (hdg : decode cc pc = .ok (.invokespecial idx, 3)) (hS : va_S A0 H0 H locs) (hA : ∀ q, A1 q → A0 q)
    (kk : ∀ (H1 : Heap) (locs1 : List Loc), Pic' H1 → H.size ≤ H1.size → (∀ q : Nat, q < H.size → ¬ A1 q → H1[q]? = H[q]?) → va_S A0 H0 H1 locs1 → W p l e R s m args below meth c H1 locs1 (cells + mc) (slots + ms) Q (F0 m (pc + 3) ls rest)) : W p l e R s m args below meth c H locs cells slots Q (F0 m pc ls st0) := by
  refine va_callv (va_runI (As := As) (rest := rest) ⟨hx, hb, hml, hown, hts⟩ hM (cwI As.length hts (gA h5) rfl rfl rfl (hts _ hini) (hts _ hlink) (hts _ hinst) hname hd hR) hp rfl rfl hls hst (lv_room hw) hdg hcs) hS (fun q _ h => hA q h) hA (fun u t H1 locs1 ht hvm hxr hB hz hk hS1 => ?_)
  exact kk H1 locs1 (by have h := hB; rw [ht] at h; exact h) hz hk hS1
/-- .. of a nest mate's own -/
theorem gcIn {host : String} (hx : p.tables.exec = Jvm.exec) (hb : c.code = cc) (hml : c.maxLocals = nL) (hown : s.vm.findClass own = some m.cls) (hts : ∀ w ∈ AW, w.before args s = true) (hls : ls.size = nL) (hM : Met l y (wA y bytes maxL none) (rmX d mc ms) Pc (gQv A1 Pic') mc ms A1)
    (h5 : Cond.code y bytes maxL none ∈ AW) (hini : Cond.initialized y.cls ∈ AW) (hlink : va_Nw (.methodLinkNest own idx y host) s) (hinst : Cond.instanceMethod y ∈ AW) (hname : y.name = "<init>") (hd : y.cls ≠ "java/lang/invoke/MethodHandle" ∧ y.cls ≠ "java/lang/invoke/VarHandle" ∧ (parseMethodDescriptor y.desc).map (fun d => d.parameters.length) = some As.length) (hR : d + 1 ≤ R.frames ∧ 8 + (maxL + 11) + 30 * d ≤ R.locals)
    (hp : PreS s H Pc (.ref b :: As)) (hst : st0 = As.reverse ++ .ref b :: rest) (hw : (rest.map fun v => v.category).sum ≤ 8) (hcs : cells + mc ≤ R.cells ∧ slots + ms ≤ R.slots) (hdg : decode cc pc = .ok (.invokespecial idx, 3)) (hS : va_S A0 H0 H locs) (hA : ∀ q, A1 q → A0 q)
    (kk : ∀ (H1 : Heap) (locs1 : List Loc), Pic' H1 → H.size ≤ H1.size → (∀ q : Nat, q < H.size → ¬ A1 q → H1[q]? = H[q]?) → va_S A0 H0 H1 locs1 → W p l e R s m args below meth c H1 locs1 (cells + mc) (slots + ms) Q (F0 m (pc + 3) ls rest)) : W p l e R s m args below meth c H locs cells slots Q (F0 m pc ls st0) := by
  refine va_callv (va_runIN (As := As) (rest := rest) ⟨hx, hb, hml, hown, hts⟩ hM ⟨va_cnB As.length hts (gA h5) rfl rfl rfl hlink (hts _ hini) hd hR, hname, hts _ hinst⟩ hp rfl rfl hls hst (lv_room hw) hdg hcs) hS (fun q _ h => hA q h) hA (fun u t H1 locs1 ht hvm hxr hB hz hk hS1 => ?_)
  exact kk H1 locs1 (by have h := hB; rw [ht] at h; exact h) hz hk hS1
/-- the call of Object's own -/
theorem gobj (hx : p.tables.exec = Jvm.exec) (hb : c.code = cc) (hml : c.maxLocals = nL) (hown : s.vm.findClass own = some m.cls) (hts : ∀ w ∈ AW, w.before args s = true) (hls : ls.size = nL) (hlink : Cond.methodLink own idx objectInit ∈ AW) (hdg : decode cc pc = .ok (.invokespecial idx, 3)) (hR : 1 ≤ R.frames ∧ 30 ≤ R.locals) (hw : (rest.map fun v => v.category).sum ≤ 8)
    (kk : W p l e R s m args below meth c H locs cells slots Q (F0 m (pc + 3) ls rest)) : W p l e R s m args below meth c H locs cells slots Q (F0 m pc ls (.ref b :: rest)) := by
  refine W.objInit hx hb hown (hts _ hlink) (hts _ qI_Object_init) (hts _ qC_Object_init) rfl (by rw [hml]; exact hls) rfl hdg hR.1 ?_ ?_
  · show 2 * 0 + _ + 12 ≤ _
    have := hR.2
    omega
  · exact W.eq (g2 := F0 m (pc + 3) ls rest) rfl kk
end NW
