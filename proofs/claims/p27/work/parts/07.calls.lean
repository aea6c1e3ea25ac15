/-! Words, rooms, the class facts, contracts and calls in one shape. -/
abbrev wA (y : MethodName) (b : ByteArray) (n : Nat) (r : Option FieldType) : List Cond := Cond.code y b n r :: AW
abbrev rmL (d : Nat) : Room := ({ frames := d, cells := 0, slots := 0, locals := 30 * d } : Room)
theorem gA {y : MethodName} {b : ByteArray} {n : Nat} {r : Option FieldType} (h5 : Cond.code y b n r ∈ AW) : GoodIn AW (wA y b n r) := fun w h => (List.mem_cons.mp h).elim (fun e => by rw [e]; exact ⟨h5, good_of_word (AW_good h5)⟩) (fun h => ⟨h, good_of_word (AW_good h)⟩)
theorem gaV {own C : String} {idx : Nat} {y : MethodName} {b : ByteArray} {n : Nat} {r : Option FieldType} (h1 : Cond.methodLink own idx y ∈ AW) (h2 : Cond.instanceMethod y ∈ AW) (h3 : Cond.selects C y y ∈ AW) (h4 : Cond.initialized C ∈ AW) (h5 : Cond.code y b n r ∈ AW) : GoodIn AW (wsV own idx C y (wA y b n r)) := by
  intro w h
  rcases List.mem_append.mp h with h | h
  · simp only [List.mem_cons, List.not_mem_nil, or_false] at h
    rcases h with rfl | rfl | rfl | rfl
    · exact ⟨h1, good_of_word (AW_good h1)⟩
    · exact ⟨h2, good_of_word (AW_good h2)⟩
    · exact ⟨h3, good_of_word (AW_good h3)⟩
    · exact ⟨h4, good_of_word (AW_good h4)⟩
  · exact gA h5 w h
theorem gaS {own : String} {idx : Nat} {y : MethodName} {b : ByteArray} {n : Nat} {r : Option FieldType} (h1 : Cond.methodLink own idx y ∈ AW) (h2 : Cond.static y ∈ AW) (h4 : Cond.initialized y.cls ∈ AW) (h5 : Cond.code y b n r ∈ AW) : GoodIn AW (va_wsS own idx y (wA y b n r)) := by
  intro w h
  rcases List.mem_append.mp h with h | h
  · simp only [List.mem_cons, List.not_mem_nil, or_false] at h
    rcases h with rfl | rfl | rfl
    · exact ⟨h1, good_of_word (AW_good h1)⟩
    · exact ⟨h2, good_of_word (AW_good h2)⟩
    · exact ⟨h4, good_of_word (AW_good h4)⟩
  · exact gA h5 w h
/-- the array classes: their numbers stand in D.1 from 100 on -/
abbrev tysL (D : va_G) : List (ClassId × FieldType) := [(D.1 100, .int), (D.1 101, .object RX3), (D.1 102, .object RX1), (D.1 103, .object RX4), (D.1 104, .object RX0)]
abbrev Kn (D : va_G) (U : State) : Prop := va_K D vwCl (tysL D) U
def gPc (D : va_G) (av : List Value) (Pic : Heap → Prop) : Array Value → State → Prop := va_Pc av (fun U => Pic U.heap ∧ Kn D U)
theorem gPc_blind {D : va_G} {av : List Value} {Pic : Heap → Prop} : FrameBlind (gPc D av Pic) := fun a U g mk q => by
  obtain ⟨q0, q1, q2⟩ := q
  exact ⟨q0, q1, va_K.moved (u := U) (U := U.calling g mk a) (Vm.Alike.refl U.vm) q2⟩
theorem gPre_S {D : va_G} {s : State} {H : Heap} {As : List Value} {Pic : Heap → Prop} (hK : Kn D s) (hP : Pic H) : PreS s H (gPc D As Pic) As := ⟨gPc_blind, fun U hU hW => ⟨rfl, by rw [hU]; exact hP, va_K.moved hW.alike hK⟩⟩
theorem gPre_V {D : va_G} {s : State} {H : Heap} {C : String} {b : Nat} {As : List Value} {Pic : Heap → Prop} (hK : Kn D s) (hP : Pic H) (hr : ∃ cellB : Cell, H[b]? = some cellB ∧ cellB.vm.isStatics = false ∧ s.vm.findClass C = some cellB.cls) : PreV s H C b (gPc D (.ref b :: As) Pic) As := ⟨gPc_blind, hr, fun U hU hW => ⟨rfl, by rw [hU]; exact hP, va_K.moved hW.alike hK⟩⟩
def gQi (A : Nat → Prop) (r : Int32) (Pic : Heap → Prop) : Array Value → State → Outcome → State → Prop := va_Qi (fun (x : Int32) (_ : Unit) => x = r) (fun _ t => Pic t.heap) A
def gQl (A : Nat → Prop) (r : Int64) (Pic : Heap → Prop) : Array Value → State → Outcome → State → Prop := va_Ql (fun (x : Int64) (_ : Unit) => x = r) (fun _ t => Pic t.heap) A
def gQv (A : Nat → Prop) (Pic : Heap → Prop) : Array Value → State → Outcome → State → Prop := va_Qv (fun (_ : Unit) => True) (fun _ t => Pic t.heap) A
theorem gQi_of {A : Nat → Prop} {r x : Int32} {Pic : Heap → Prop} {a : Array Value} {s t : State} {H : Heap} {locs : List Loc} (e : x = r) (hP : Pic H) (hS : va_S A s.heap H locs) (ht : t.heap = H) : gQi A r Pic a s (.returned (some (.int x))) t := ⟨⟨x, (), rfl, e, by show Pic t.heap; rw [ht]; exact hP⟩, hS.F ht⟩
theorem gQl_of {A : Nat → Prop} {r x : Int64} {Pic : Heap → Prop} {a : Array Value} {s t : State} {H : Heap} {locs : List Loc} (e : x = r) (hP : Pic H) (hS : va_S A s.heap H locs) (ht : t.heap = H) : gQl A r Pic a s (.returned (some (.long x))) t := ⟨⟨x, (), rfl, e, by show Pic t.heap; rw [ht]; exact hP⟩, hS.F ht⟩
theorem gQv_of {A : Nat → Prop} {Pic : Heap → Prop} {a : Array Value} {s t : State} {H : Heap} {locs : List Loc} (hP : Pic H) (hS : va_S A s.heap H locs) (ht : t.heap = H) : gQv A Pic a s (.returned none) t := ⟨⟨(), rfl, trivial, by show Pic t.heap; rw [ht]; exact hP⟩, hS.F ht⟩
section GC
variable {p : Program} {l : Launch} {e : Env} {R : Room} {s : State} {m : MethodId} {args : Array Value} {below : List Frame} {meth : Method} {c : Code} {H : Heap} {locs : List Loc} {cells slots : Nat} {Q : State → Prop}
variable {cc : ByteArray} {pc : Nat} {ls : Array Slot} {rest st0 : List Value} {D : va_G} {A0 A1 : Nat → Prop} {H0 : Heap} {own C : String} {idx nL maxL n d b : Nat} {y : MethodName} {bytes : ByteArray} {ret : Option FieldType} {Pic Pic' : Heap → Prop} {As : List Value}
/-- a virtual call of a method that makes nothing, its answer an int -/
theorem gcVi {r : Int32} (hx : p.tables.exec = Jvm.exec) (hb : c.code = cc) (hml : c.maxLocals = nL) (hown : s.vm.findClass own = some m.cls) (hts : ∀ w ∈ AW, w.before args s = true) (hls : ls.size = nL) (hK : Kn D s) (hM : Met l y (wA y bytes maxL ret) (rmL d) (gPc D (.ref b :: As) Pic) (gQi A1 r Pic') 0 0 A1)
    (hg : GoodIn AW (wsV own idx C y (wA y bytes maxL ret))) (hd : y.cls = C ∧ y.cls ≠ "java/lang/invoke/MethodHandle" ∧ y.cls ≠ "java/lang/invoke/VarHandle" ∧ (parseMethodDescriptor y.desc).map (fun d => d.parameters.length) = some As.length) (hR : d + 1 ≤ R.frames ∧ 8 + (maxL + 11) + 30 * d ≤ R.locals)
    (hP : Pic H) (hr : ∃ cellB : Cell, H[b]? = some cellB ∧ cellB.vm.isStatics = false ∧ s.vm.findClass C = some cellB.cls) (hst : st0 = As.reverse ++ .ref b :: rest) (hw : (rest.map fun v => v.category).sum ≤ 8) (hcs : cells ≤ R.cells ∧ slots ≤ R.slots) (hdg : decode cc pc = .ok (.invokevirtual idx, 3)) (hS : va_S A0 H0 H locs) (hA : ∀ q, A1 q → A0 q)
    (kk : ∀ (H1 : Heap) (locs1 : List Loc), Pic' H1 → H.size ≤ H1.size → (∀ q : Nat, q < H.size → ¬ A1 q → H1[q]? = H[q]?) → va_S A0 H0 H1 locs1 → W p l e R s m args below meth c H1 locs1 cells slots Q (F0 m (pc + 3) ls (.int r :: rest))) : W p l e R s m args below meth c H locs cells slots Q (F0 m pc ls st0) := by
  refine va_calli (va_runV (As := As) (rest := rest) ⟨hx, hb, hml, hown, hts⟩ hM (cwV As.length hts hg rfl rfl rfl hd hR) (gPre_V hK hP hr) rfl rfl hls hst (lv_room hw) hdg hcs) hS (fun q _ h => hA q h) hA (fun x u t H1 locs1 ht hvm hxr hB hz hk hS1 => ?_)
  have e1 : x = r := hxr
  subst e1
  exact kk H1 locs1 (by have h := hB; rw [ht] at h; exact h) hz hk hS1
theorem gcVv (hx : p.tables.exec = Jvm.exec) (hb : c.code = cc) (hml : c.maxLocals = nL) (hown : s.vm.findClass own = some m.cls) (hts : ∀ w ∈ AW, w.before args s = true) (hls : ls.size = nL) (hK : Kn D s) (hM : Met l y (wA y bytes maxL ret) (rmL d) (gPc D (.ref b :: As) Pic) (gQv A1 Pic') 0 0 A1)
    (hg : GoodIn AW (wsV own idx C y (wA y bytes maxL ret))) (hd : y.cls = C ∧ y.cls ≠ "java/lang/invoke/MethodHandle" ∧ y.cls ≠ "java/lang/invoke/VarHandle" ∧ (parseMethodDescriptor y.desc).map (fun d => d.parameters.length) = some As.length) (hR : d + 1 ≤ R.frames ∧ 8 + (maxL + 11) + 30 * d ≤ R.locals)
    (hP : Pic H) (hr : ∃ cellB : Cell, H[b]? = some cellB ∧ cellB.vm.isStatics = false ∧ s.vm.findClass C = some cellB.cls) (hst : st0 = As.reverse ++ .ref b :: rest) (hw : (rest.map fun v => v.category).sum ≤ 8) (hcs : cells ≤ R.cells ∧ slots ≤ R.slots) (hdg : decode cc pc = .ok (.invokevirtual idx, 3)) (hS : va_S A0 H0 H locs) (hA : ∀ q, A1 q → A0 q)
    (kk : ∀ (H1 : Heap) (locs1 : List Loc), Pic' H1 → H.size ≤ H1.size → (∀ q : Nat, q < H.size → ¬ A1 q → H1[q]? = H[q]?) → va_S A0 H0 H1 locs1 → W p l e R s m args below meth c H1 locs1 cells slots Q (F0 m (pc + 3) ls rest)) : W p l e R s m args below meth c H locs cells slots Q (F0 m pc ls st0) := by
  refine va_callv (va_runV (As := As) (rest := rest) ⟨hx, hb, hml, hown, hts⟩ hM (cwV As.length hts hg rfl rfl rfl hd hR) (gPre_V hK hP hr) rfl rfl hls hst (lv_room hw) hdg hcs) hS (fun q _ h => hA q h) hA (fun u t H1 locs1 ht hvm hxr hB hz hk hS1 => ?_)
  exact kk H1 locs1 (by have h := hB; rw [ht] at h; exact h) hz hk hS1
theorem gcVl {r : Int64} (hx : p.tables.exec = Jvm.exec) (hb : c.code = cc) (hml : c.maxLocals = nL) (hown : s.vm.findClass own = some m.cls) (hts : ∀ w ∈ AW, w.before args s = true) (hls : ls.size = nL) (hK : Kn D s) (hM : Met l y (wA y bytes maxL ret) (rmL d) (gPc D (.ref b :: As) Pic) (gQl A1 r Pic') 0 0 A1)
    (hg : GoodIn AW (wsV own idx C y (wA y bytes maxL ret))) (hd : y.cls = C ∧ y.cls ≠ "java/lang/invoke/MethodHandle" ∧ y.cls ≠ "java/lang/invoke/VarHandle" ∧ (parseMethodDescriptor y.desc).map (fun d => d.parameters.length) = some As.length) (hR : d + 1 ≤ R.frames ∧ 8 + (maxL + 11) + 30 * d ≤ R.locals)
    (hP : Pic H) (hr : ∃ cellB : Cell, H[b]? = some cellB ∧ cellB.vm.isStatics = false ∧ s.vm.findClass C = some cellB.cls) (hst : st0 = As.reverse ++ .ref b :: rest) (hw : (rest.map fun v => v.category).sum ≤ 8) (hcs : cells ≤ R.cells ∧ slots ≤ R.slots) (hdg : decode cc pc = .ok (.invokevirtual idx, 3)) (hS : va_S A0 H0 H locs) (hA : ∀ q, A1 q → A0 q)
    (kk : ∀ (H1 : Heap) (locs1 : List Loc), Pic' H1 → H.size ≤ H1.size → (∀ q : Nat, q < H.size → ¬ A1 q → H1[q]? = H[q]?) → va_S A0 H0 H1 locs1 → W p l e R s m args below meth c H1 locs1 cells slots Q (F0 m (pc + 3) ls (.long r :: rest))) : W p l e R s m args below meth c H locs cells slots Q (F0 m pc ls st0) := by
  refine va_calll (va_runV (As := As) (rest := rest) ⟨hx, hb, hml, hown, hts⟩ hM (cwV As.length hts hg rfl rfl rfl hd hR) (gPre_V hK hP hr) rfl rfl hls hst (lv_room hw) hdg hcs) hS (fun q _ h => hA q h) hA (fun x u t H1 locs1 ht hvm hxr hB hz hk hS1 => ?_)
  have e1 : x = r := hxr
  subst e1
  exact kk H1 locs1 (by have h := hB; rw [ht] at h; exact h) hz hk hS1
/-- a static call -/
theorem gcSi {r : Int32} (hx : p.tables.exec = Jvm.exec) (hb : c.code = cc) (hml : c.maxLocals = nL) (hown : s.vm.findClass own = some m.cls) (hts : ∀ w ∈ AW, w.before args s = true) (hls : ls.size = nL) (hK : Kn D s) (hM : Met l y (wA y bytes maxL ret) (rmL d) (gPc D As Pic) (gQi A1 r Pic') 0 0 A1)
    (hg : GoodIn AW (va_wsS own idx y (wA y bytes maxL ret))) (hd : y.cls ≠ "java/lang/invoke/MethodHandle" ∧ y.cls ≠ "java/lang/invoke/VarHandle" ∧ (parseMethodDescriptor y.desc).map (fun d => d.parameters.length) = some As.length) (hR : d + 1 ≤ R.frames ∧ 8 + (maxL + 11) + 30 * d ≤ R.locals)
    (hP : Pic H) (hst : st0 = As.reverse ++ rest) (hw : (rest.map fun v => v.category).sum ≤ 8) (hcs : cells ≤ R.cells ∧ slots ≤ R.slots) (hdg : decode cc pc = .ok (.invokestatic idx, 3)) (hS : va_S A0 H0 H locs) (hA : ∀ q, A1 q → A0 q)
    (kk : ∀ (H1 : Heap) (locs1 : List Loc), Pic' H1 → H.size ≤ H1.size → (∀ q : Nat, q < H.size → ¬ A1 q → H1[q]? = H[q]?) → va_S A0 H0 H1 locs1 → W p l e R s m args below meth c H1 locs1 cells slots Q (F0 m (pc + 3) ls (.int r :: rest))) : W p l e R s m args below meth c H locs cells slots Q (F0 m pc ls st0) := by
  refine va_calli (va_runS (As := As) (rest := rest) ⟨hx, hb, hml, hown, hts⟩ hM (va_cwS As.length hts hg rfl rfl rfl hd hR) (gPre_S hK hP) rfl rfl hls hst (lv_room hw) hdg hcs) hS (fun q _ h => hA q h) hA (fun x u t H1 locs1 ht hvm hxr hB hz hk hS1 => ?_)
  have e1 : x = r := hxr
  subst e1
  exact kk H1 locs1 (by have h := hB; rw [ht] at h; exact h) hz hk hS1
theorem gcSl {r : Int64} (hx : p.tables.exec = Jvm.exec) (hb : c.code = cc) (hml : c.maxLocals = nL) (hown : s.vm.findClass own = some m.cls) (hts : ∀ w ∈ AW, w.before args s = true) (hls : ls.size = nL) (hK : Kn D s) (hM : Met l y (wA y bytes maxL ret) (rmL d) (gPc D As Pic) (gQl A1 r Pic') 0 0 A1)
    (hg : GoodIn AW (va_wsS own idx y (wA y bytes maxL ret))) (hd : y.cls ≠ "java/lang/invoke/MethodHandle" ∧ y.cls ≠ "java/lang/invoke/VarHandle" ∧ (parseMethodDescriptor y.desc).map (fun d => d.parameters.length) = some As.length) (hR : d + 1 ≤ R.frames ∧ 8 + (maxL + 11) + 30 * d ≤ R.locals)
    (hP : Pic H) (hst : st0 = As.reverse ++ rest) (hw : (rest.map fun v => v.category).sum ≤ 8) (hcs : cells ≤ R.cells ∧ slots ≤ R.slots) (hdg : decode cc pc = .ok (.invokestatic idx, 3)) (hS : va_S A0 H0 H locs) (hA : ∀ q, A1 q → A0 q)
    (kk : ∀ (H1 : Heap) (locs1 : List Loc), Pic' H1 → H.size ≤ H1.size → (∀ q : Nat, q < H.size → ¬ A1 q → H1[q]? = H[q]?) → va_S A0 H0 H1 locs1 → W p l e R s m args below meth c H1 locs1 cells slots Q (F0 m (pc + 3) ls (.long r :: rest))) : W p l e R s m args below meth c H locs cells slots Q (F0 m pc ls st0) := by
  refine va_calll (va_runS (As := As) (rest := rest) ⟨hx, hb, hml, hown, hts⟩ hM (va_cwS As.length hts hg rfl rfl rfl hd hR) (gPre_S hK hP) rfl rfl hls hst (lv_room hw) hdg hcs) hS (fun q _ h => hA q h) hA (fun x u t H1 locs1 ht hvm hxr hB hz hk hS1 => ?_)
  have e1 : x = r := hxr
  subst e1
  exact kk H1 locs1 (by have h := hB; rw [ht] at h; exact h) hz hk hS1
theorem gcSv (hx : p.tables.exec = Jvm.exec) (hb : c.code = cc) (hml : c.maxLocals = nL) (hown : s.vm.findClass own = some m.cls) (hts : ∀ w ∈ AW, w.before args s = true) (hls : ls.size = nL) (hK : Kn D s) (hM : Met l y (wA y bytes maxL ret) (rmL d) (gPc D As Pic) (gQv A1 Pic') 0 0 A1)
    (hg : GoodIn AW (va_wsS own idx y (wA y bytes maxL ret))) (hd : y.cls ≠ "java/lang/invoke/MethodHandle" ∧ y.cls ≠ "java/lang/invoke/VarHandle" ∧ (parseMethodDescriptor y.desc).map (fun d => d.parameters.length) = some As.length) (hR : d + 1 ≤ R.frames ∧ 8 + (maxL + 11) + 30 * d ≤ R.locals)
    (hP : Pic H) (hst : st0 = As.reverse ++ rest) (hw : (rest.map fun v => v.category).sum ≤ 8) (hcs : cells ≤ R.cells ∧ slots ≤ R.slots) (hdg : decode cc pc = .ok (.invokestatic idx, 3)) (hS : va_S A0 H0 H locs) (hA : ∀ q, A1 q → A0 q)
    (kk : ∀ (H1 : Heap) (locs1 : List Loc), Pic' H1 → H.size ≤ H1.size → (∀ q : Nat, q < H.size → ¬ A1 q → H1[q]? = H[q]?) → va_S A0 H0 H1 locs1 → W p l e R s m args below meth c H1 locs1 cells slots Q (F0 m (pc + 3) ls rest)) : W p l e R s m args below meth c H locs cells slots Q (F0 m pc ls st0) := by
  refine va_callv (va_runS (As := As) (rest := rest) ⟨hx, hb, hml, hown, hts⟩ hM (va_cwS As.length hts hg rfl rfl rfl hd hR) (gPre_S hK hP) rfl rfl hls hst (lv_room hw) hdg hcs) hS (fun q _ h => hA q h) hA (fun u t H1 locs1 ht hvm hxr hB hz hk hS1 => ?_)
  exact kk H1 locs1 (by have h := hB; rw [ht] at h; exact h) hz hk hS1
/-- Math.min, Math.max -/
theorem gmin (hx : p.tables.exec = Jvm.exec) (hb : c.code = cc) (hml : c.maxLocals = nL) (hown : s.vm.findClass own = some m.cls) (hts : ∀ w ∈ AW, w.before args s = true) (hls : ls.size = nL) (hq : Cond.methodLink own idx Lib.Math.min.name ∈ AW) (hR : 1 ≤ R.frames) (hRl : (rest.map fun v => v.category).sum + 13 ≤ R.locals) (hcs : cells ≤ R.cells ∧ slots ≤ R.slots) {u v : Int32} (hdg : decode cc pc = .ok (.invokestatic idx, 3))
    (kk : W p l e R s m args below meth c H locs cells slots Q (F0 m (pc + 3) ls (.int (if v < u then v else u) :: rest))) : W p l e R s m args below meth c H locs cells slots Q (F0 m pc ls (.int v :: .int u :: rest)) :=
  va_mmin hx hb (hml.trans hls.symm) hown (hts _ hq) (hts _ qT_Math_min) (hts _ qK_Math) (hts _ qC_Math_min) hR hRl hcs.1 hcs.2 hdg kk
theorem gmax (hx : p.tables.exec = Jvm.exec) (hb : c.code = cc) (hml : c.maxLocals = nL) (hown : s.vm.findClass own = some m.cls) (hts : ∀ w ∈ AW, w.before args s = true) (hls : ls.size = nL) (hq : Cond.methodLink own idx Lib.Math.max.name ∈ AW) (hR : 1 ≤ R.frames) (hRl : (rest.map fun v => v.category).sum + 13 ≤ R.locals) (hcs : cells ≤ R.cells ∧ slots ≤ R.slots) {u v : Int32} (hdg : decode cc pc = .ok (.invokestatic idx, 3))
    (kk : W p l e R s m args below meth c H locs cells slots Q (F0 m (pc + 3) ls (.int (if u < v then v else u) :: rest))) : W p l e R s m args below meth c H locs cells slots Q (F0 m pc ls (.int v :: .int u :: rest)) :=
  va_mmax hx hb (hml.trans hls.symm) hown (hts _ hq) (hts _ qT_Math_max) (hts _ qK_Math) (hts _ qC_Math_max) hR hRl hcs.1 hcs.2 hdg kk
end GC
