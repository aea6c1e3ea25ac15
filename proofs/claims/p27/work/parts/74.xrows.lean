/-! Exceptions of the class: the facts that a throw wants, contracts that return or throw (a code: 0 returns, 1, 2, 3 an exception), and their calls. -/
def exN : Nat → String
  | 1 => "java/lang/IllegalArgumentException"
  | 2 => "java/lang/IllegalStateException"
  | _ => "java/lang/IndexOutOfBoundsException"
def exC : List String := ["java/lang/RuntimeException", "java/lang/Exception"]
def exS : List (Nat × String) := [(43, "there are 20 streets"), (65, "there are 3 plows"), (84, "the route has 12 places"), (101, "the plow has begun one of both places"), (128, "the store would have more than 100000 kilograms"), (173, "the text has 150 bytes"), (199, "there is no saved state"), (226, "an argument is out of range"), (231, "there is no such number"), (236, "there would be more than 2000 hours")]
def exL (k : Nat) : List Cond := vx_atS RX6 (if k = 1 then 228 else if k = 2 then 45 else 233) (exN k) exC
def exB : List Cond := (exL 1 ++ exL 2 ++ exL 3).filter (fun w => !goodWord w)
def isDC : Cond → Bool
  | .declares _ => true
  | .castable _ _ => true
  | _ => false
theorem isDC_tab {w : Cond} (h : isDC w = true) : w.onTables = true := by
  cases w <;> first | rfl | simp [isDC] at h
theorem isDC_warm {w : Cond} {s U : State} (h : isDC w = true) (hW : s.WarmedH U.vm) (hZ : va_Nw w s) : va_Nw w U := by
  cases w <;> first | exact va_Nw.warmD hW hZ | exact va_Nw.warmC hW hZ | simp [isDC] at h
theorem exB_dc : ∀ w ∈ exB, isDC w = true := List.all_eq_true.mp (by decide +kernel)
theorem exB_in : ∀ w ∈ exB, w ∈ lw_tbl := fun w h => of_decide_eq_true (List.all_eq_true.mp (show exB.all (fun w => decide (w ∈ lw_tbl)) = true by decide +kernel) w h)
theorem exg1 : ∀ w ∈ (exL 1).filter goodWord, w ∈ lw_tbl := fun w h => of_decide_eq_true (List.all_eq_true.mp (show ((exL 1).filter goodWord).all (fun w => decide (w ∈ lw_tbl)) = true by decide +kernel) w h)
theorem exg2 : ∀ w ∈ (exL 2).filter goodWord, w ∈ lw_tbl := fun w h => of_decide_eq_true (List.all_eq_true.mp (show ((exL 2).filter goodWord).all (fun w => decide (w ∈ lw_tbl)) = true by decide +kernel) w h)
theorem exg3 : ∀ w ∈ (exL 3).filter goodWord, w ∈ lw_tbl := fun w h => of_decide_eq_true (List.all_eq_true.mp (show ((exL 3).filter goodWord).all (fun w => decide (w ∈ lw_tbl)) = true by decide +kernel) w h)
theorem exo1 : ∀ w ∈ exL 1, vx_ot w = true := List.all_eq_true.mp (by decide +kernel)
theorem exo2 : ∀ w ∈ exL 2, vx_ot w = true := List.all_eq_true.mp (by decide +kernel)
theorem exo3 : ∀ w ∈ exL 3, vx_ot w = true := List.all_eq_true.mp (by decide +kernel)
/-- what a throw, and a catch, wants to know; what is from r on may have changed -/
def Kx (r : Nat) (U : State) : Prop := vx_Zq Bundle.tN "UNASSIGNED_STACK" Bundle.steD (fun q => r ≤ q) U U.heap ∧ vx_Zq Bundle.tN "SUPPRESSED_SENTINEL" Bundle.listD (fun q => r ≤ q) U U.heap ∧ (∀ q ∈ exS, ∃ a : Nat, vk_R RX6 q.1 q.2 a U) ∧ (∀ w ∈ exB, va_Nw w U) ∧ ∀ i j : Nat, 1 ≤ i → i ≤ 3 → 1 ≤ j → j ≤ 3 → i ≠ j → va_Nc (exN i) (exN j) U
theorem Kx.to {r : Nat} {s U : State} {H : Heap} (h : Kx r s) (hH : U.heap = H) (hW : s.WarmedH U.vm) (hq : ∀ a : Nat, a < s.heap.size → ¬ r ≤ a → H[a]? = s.heap[a]?) : Kx r U := by
  subst hH
  exact ⟨vx_Zq.moved hW.alike (h.1.kept hq), vx_Zq.moved hW.alike (h.2.1.kept hq), fun q hq => (h.2.2.1 q hq).elim fun a ha => ⟨a, vk_R.warm hW ha⟩, fun w hw => isDC_warm (exB_dc w hw) hW (h.2.2.2.1 w hw), fun i j h1 h2 h3 h4 h5 => (h.2.2.2.2 i j h1 h2 h3 h4 h5).moved hW.alike⟩
theorem Kx.calling {r : Nat} {U : State} {a : Array Value} {g : JFrame} {mk : MethodId} (h : Kx r U) : Kx r (U.calling g mk a) :=
  ⟨vx_Zq.moved (u := U) (U := U.calling g mk a) (Vm.Alike.refl U.vm) h.1, vx_Zq.moved (u := U) (U := U.calling g mk a) (Vm.Alike.refl U.vm) h.2.1, fun q hq => (h.2.2.1 q hq).elim fun b hb => ⟨b, vk_R.same (u := U) (U := U.calling g mk a) rfl hb⟩, fun w hw => va_Nw.same (u := U) (U := U.calling g mk a) (isDC_tab (exB_dc w hw)) rfl (h.2.2.2.1 w hw), fun i j h1 h2 h3 h4 h5 => va_Nc.moved (u := U) (U := U.calling g mk a) (Vm.Alike.refl U.vm) (h.2.2.2.2 i j h1 h2 h3 h4 h5)⟩
theorem exAt {args : Array Value} {s : State} {r : Nat} (k : Nat) (hg : ∀ w ∈ (exL k).filter goodWord, w ∈ lw_tbl) (hk : ∀ w ∈ (exL k).filter (fun w => !goodWord w), w ∈ exB) (hts : ∀ w ∈ AW, w.before args s = true) (hX : Kx r s) : ∀ w ∈ exL k, w.before args s = true :=
  vx_hat (B := exB) (fun w h => hts w (AW_in (hg w h) (List.mem_filter.mp h).2)) hk (fun w h => va_Nw.use (isDC_tab (exB_dc w h)) (hX.2.2.2.1 w h))
theorem exk1 : ∀ w ∈ (exL 1).filter (fun w => !goodWord w), w ∈ exB := fun w h => by
  unfold exB; rw [List.filter_append, List.filter_append]
  exact List.mem_append_left _ (List.mem_append_left _ h)
theorem exk2 : ∀ w ∈ (exL 2).filter (fun w => !goodWord w), w ∈ exB := fun w h => by
  unfold exB; rw [List.filter_append, List.filter_append]
  exact List.mem_append_left _ (List.mem_append_right _ h)
theorem exk3 : ∀ w ∈ (exL 3).filter (fun w => !goodWord w), w ∈ exB := fun w h => by
  unfold exB; rw [List.filter_append, List.filter_append]
  exact List.mem_append_right _ h

/-! contracts -/
abbrev rmX (d mc ms : Nat) : Room := ({ frames := d, cells := mc, slots := ms, locals := 30 * d } : Room)
def xPc (D : va_G) (r : Nat) (av : List Value) (Pic : Heap → Prop) : Array Value → State → Prop := va_Pc av (fun U => Pic U.heap ∧ Kn D U ∧ Kx r U)
theorem xPc_blind {D : va_G} {r : Nat} {av : List Value} {Pic : Heap → Prop} : FrameBlind (xPc D r av Pic) := fun a U g mk q => by
  obtain ⟨q0, q1, q2, q3⟩ := q
  exact ⟨q0, q1, va_K.moved (u := U) (U := U.calling g mk a) (Vm.Alike.refl U.vm) q2, q3.calling⟩
theorem xPre_S {D : va_G} {r : Nat} {s : State} {H : Heap} {As : List Value} {Pic : Heap → Prop} {A : Nat → Prop} {locs : List Loc} (hK : Kn D s) (hX : Kx r s) (hP : Pic H) (hS : va_S A s.heap H locs) (hr : ∀ q, A q → r ≤ q) : PreS s H (xPc D r As Pic) As := ⟨xPc_blind, fun U hU hW => ⟨rfl, by rw [hU]; exact hP, va_K.moved hW.alike hK, hX.to hU hW (fun a h1 h2 => hS.2.1 a h1 (fun h3 => h2 (hr a h3)))⟩⟩
theorem xPre_V {D : va_G} {r : Nat} {s : State} {H : Heap} {C : String} {b : Nat} {As : List Value} {Pic : Heap → Prop} {A : Nat → Prop} {locs : List Loc} (hK : Kn D s) (hX : Kx r s) (hP : Pic H) (hS : va_S A s.heap H locs) (hr : ∀ q, A q → r ≤ q) (hb : ∃ cellB : Cell, H[b]? = some cellB ∧ cellB.vm.isStatics = false ∧ s.vm.findClass C = some cellB.cls) : PreV s H C b (xPc D r (.ref b :: As) Pic) As := ⟨xPc_blind, hb, fun U hU hW => ⟨rfl, by rw [hU]; exact hP, va_K.moved hW.alike hK, hX.to hU hW (fun a h1 h2 => hS.2.1 a h1 (fun h3 => h2 (hr a h3)))⟩⟩
def xQi (A : Nat → Prop) (code : Nat) (r : Int32) (Pic : Heap → Prop) : Array Value → State → Outcome → State → Prop := va_Qi (fun (x : Int32) (_ : Unit) => code = 0 ∧ x = r) (fun _ t => Pic t.heap) A
def xQv (A : Nat → Prop) (code : Nat) (Pic : Heap → Prop) : Array Value → State → Outcome → State → Prop := va_Qv (fun (_ : Unit) => code = 0) (fun _ t => Pic t.heap) A
def xX (A : Nat → Prop) (code : Nat) (Pic : Heap → Prop) : String → State → State → Prop := vx_X (fun (_ : Unit) => code ≠ 0) (fun E _ t => E = exN code ∧ Pic t.heap) A
theorem xQi_of {A : Nat → Prop} {code : Nat} {r x : Int32} {Pic : Heap → Prop} {a : Array Value} {s t : State} {H : Heap} {locs : List Loc} (c0 : code = 0) (e : x = r) (hP : Pic H) (hS : va_S A s.heap H locs) (ht : t.heap = H) : xQi A code r Pic a s (.returned (some (.int x))) t := ⟨⟨x, (), rfl, ⟨c0, e⟩, by show Pic t.heap; rw [ht]; exact hP⟩, hS.F ht⟩
theorem xQv_of {A : Nat → Prop} {code : Nat} {Pic : Heap → Prop} {a : Array Value} {s t : State} {H : Heap} {locs : List Loc} (c0 : code = 0) (hP : Pic H) (hS : va_S A s.heap H locs) (ht : t.heap = H) : xQv A code Pic a s (.returned none) t := ⟨⟨(), rfl, c0, by show Pic t.heap; rw [ht]; exact hP⟩, hS.F ht⟩
section XC
variable {p : Program} {l : Launch} {e : Env} {R : Room} {s : State} {m : MethodId} {args : Array Value} {below : List Frame} {meth : Method} {c : Code} {H : Heap} {locs : List Loc} {cells slots : Nat} {Q : State → Prop}
variable {cc : ByteArray} {pc : Nat} {ls : Array Slot} {rest st0 : List Value} {D : va_G} {A0 A1 : Nat → Prop} {own C : String} {idx nL maxL n d b r0 mc ms code : Nat} {y : MethodName} {bytes : ByteArray} {ret : Option FieldType} {Pic Pic' : Heap → Prop} {As : List Value}
/-- a virtual call of a method that returns an int or throws -/
theorem xcVi {r : Int32} (hx : p.tables.exec = Jvm.exec) (hb : c.code = cc) (hml : c.maxLocals = nL) (hown : s.vm.findClass own = some m.cls) (hts : ∀ w ∈ AW, w.before args s = true) (hls : ls.size = nL) (hK : Kn D s) (hKx : Kx r0 s) (hr0 : ∀ q, A0 q → r0 ≤ q) (hM : vx_Met l y (wA y bytes maxL ret) (rmX d mc ms) (xPc D r0 (.ref b :: As) Pic) (xQi A1 code r Pic') (xX A1 code Pic') mc ms A1)
    (hg : GoodIn AW (wsV own idx C y (wA y bytes maxL ret))) (hd : y.cls = C ∧ y.cls ≠ "java/lang/invoke/MethodHandle" ∧ y.cls ≠ "java/lang/invoke/VarHandle" ∧ (parseMethodDescriptor y.desc).map (fun d => d.parameters.length) = some As.length) (hR : d + 1 ≤ R.frames ∧ 8 + (maxL + 11) + 30 * d ≤ R.locals)
    (hP : Pic H) (hr : ∃ cellB : Cell, H[b]? = some cellB ∧ cellB.vm.isStatics = false ∧ s.vm.findClass C = some cellB.cls) (hst : st0 = As.reverse ++ .ref b :: rest) (hw : (rest.map fun v => v.category).sum ≤ 8) (hcs : cells + mc ≤ R.cells ∧ slots + ms ≤ R.slots) (hdg : decode cc pc = .ok (.invokevirtual idx, 3)) (hS : va_S A0 s.heap H locs) (hA : ∀ q, A1 q → A0 q)
    (kx : ∀ (ce : Cell) (q9 : Addr) (H1 : Heap) (locs1 : List Loc), code ≠ 0 → Pic' H1 → H.size ≤ H1.size → (∀ q : Nat, q < H.size → ¬ A1 q → H1[q]? = H[q]?) → va_S A0 s.heap H1 locs1 → H1[q9]? = some ce → ce.vm = .none → s.vm.findClass (exN code) = some ce.cls → vx_W p l e R s m args below meth c H1 locs1 (cells + mc) (slots + ms) Q (F0 m pc ls rest) q9)
    (kk : ∀ (H1 : Heap) (locs1 : List Loc), code = 0 → Pic' H1 → H.size ≤ H1.size → (∀ q : Nat, q < H.size → ¬ A1 q → H1[q]? = H[q]?) → va_S A0 s.heap H1 locs1 → W p l e R s m args below meth c H1 locs1 (cells + mc) (slots + ms) Q (F0 m (pc + 3) ls (.int r :: rest))) : W p l e R s m args below meth c H locs cells slots Q (F0 m pc ls st0) := by
  refine vx_calli (vx_runV (As := As) (rest := rest) ⟨hx, hb, hml, hown, hts⟩ hM (cwV As.length hts hg rfl rfl rfl hd hR) (xPre_V hK hKx hP hS hr0 hr) rfl rfl hls hst (lv_room hw) hdg hcs) hS (fun q _ h => hA q h) hA (fun q _ h => hA q h) (fun E ce q9 u t H1 locs1 ht hvm hpx hBX hz hk hS1 hce hv hcl => ?_) (fun x u t H1 locs1 ht hvm hxr hB hz hk hS1 => ?_)
  · obtain ⟨hE, hP1⟩ := hBX
    subst hE
    exact kx ce q9 H1 locs1 hpx (by rw [ht] at hP1; exact hP1) hz hk hS1 hce hv hcl
  · obtain ⟨c0, e1⟩ := hxr
    subst e1
    exact kk H1 locs1 c0 (by have h := hB; rw [ht] at h; exact h) hz hk hS1
theorem xcVv (hx : p.tables.exec = Jvm.exec) (hb : c.code = cc) (hml : c.maxLocals = nL) (hown : s.vm.findClass own = some m.cls) (hts : ∀ w ∈ AW, w.before args s = true) (hls : ls.size = nL) (hK : Kn D s) (hKx : Kx r0 s) (hr0 : ∀ q, A0 q → r0 ≤ q) (hM : vx_Met l y (wA y bytes maxL ret) (rmX d mc ms) (xPc D r0 (.ref b :: As) Pic) (xQv A1 code Pic') (xX A1 code Pic') mc ms A1)
    (hg : GoodIn AW (wsV own idx C y (wA y bytes maxL ret))) (hd : y.cls = C ∧ y.cls ≠ "java/lang/invoke/MethodHandle" ∧ y.cls ≠ "java/lang/invoke/VarHandle" ∧ (parseMethodDescriptor y.desc).map (fun d => d.parameters.length) = some As.length) (hR : d + 1 ≤ R.frames ∧ 8 + (maxL + 11) + 30 * d ≤ R.locals)
    (hP : Pic H) (hr : ∃ cellB : Cell, H[b]? = some cellB ∧ cellB.vm.isStatics = false ∧ s.vm.findClass C = some cellB.cls) (hst : st0 = As.reverse ++ .ref b :: rest) (hw : (rest.map fun v => v.category).sum ≤ 8) (hcs : cells + mc ≤ R.cells ∧ slots + ms ≤ R.slots) (hdg : decode cc pc = .ok (.invokevirtual idx, 3)) (hS : va_S A0 s.heap H locs) (hA : ∀ q, A1 q → A0 q)
    (kx : ∀ (ce : Cell) (q9 : Addr) (H1 : Heap) (locs1 : List Loc), code ≠ 0 → Pic' H1 → H.size ≤ H1.size → (∀ q : Nat, q < H.size → ¬ A1 q → H1[q]? = H[q]?) → va_S A0 s.heap H1 locs1 → H1[q9]? = some ce → ce.vm = .none → s.vm.findClass (exN code) = some ce.cls → vx_W p l e R s m args below meth c H1 locs1 (cells + mc) (slots + ms) Q (F0 m pc ls rest) q9)
    (kk : ∀ (H1 : Heap) (locs1 : List Loc), code = 0 → Pic' H1 → H.size ≤ H1.size → (∀ q : Nat, q < H.size → ¬ A1 q → H1[q]? = H[q]?) → va_S A0 s.heap H1 locs1 → W p l e R s m args below meth c H1 locs1 (cells + mc) (slots + ms) Q (F0 m (pc + 3) ls rest)) : W p l e R s m args below meth c H locs cells slots Q (F0 m pc ls st0) := by
  refine vx_callv (vx_runV (As := As) (rest := rest) ⟨hx, hb, hml, hown, hts⟩ hM (cwV As.length hts hg rfl rfl rfl hd hR) (xPre_V hK hKx hP hS hr0 hr) rfl rfl hls hst (lv_room hw) hdg hcs) hS (fun q _ h => hA q h) hA (fun q _ h => hA q h) (fun E ce q9 u t H1 locs1 ht hvm hpx hBX hz hk hS1 hce hv hcl => ?_) (fun u t H1 locs1 ht hvm hxr hB hz hk hS1 => ?_)
  · obtain ⟨hE, hP1⟩ := hBX
    subst hE
    exact kx ce q9 H1 locs1 hpx (by rw [ht] at hP1; exact hP1) hz hk hS1 hce hv hcl
  · exact kk H1 locs1 hxr (by have h := hB; rw [ht] at h; exact h) hz hk hS1
/-- a static one -/
theorem xcSv (hx : p.tables.exec = Jvm.exec) (hb : c.code = cc) (hml : c.maxLocals = nL) (hown : s.vm.findClass own = some m.cls) (hts : ∀ w ∈ AW, w.before args s = true) (hls : ls.size = nL) (hK : Kn D s) (hKx : Kx r0 s) (hr0 : ∀ q, A0 q → r0 ≤ q) (hM : vx_Met l y (wA y bytes maxL ret) (rmX d mc ms) (xPc D r0 As Pic) (xQv A1 code Pic') (xX A1 code Pic') mc ms A1)
    (hg : GoodIn AW (va_wsS own idx y (wA y bytes maxL ret))) (hd : y.cls ≠ "java/lang/invoke/MethodHandle" ∧ y.cls ≠ "java/lang/invoke/VarHandle" ∧ (parseMethodDescriptor y.desc).map (fun d => d.parameters.length) = some As.length) (hR : d + 1 ≤ R.frames ∧ 8 + (maxL + 11) + 30 * d ≤ R.locals)
    (hP : Pic H) (hst : st0 = As.reverse ++ rest) (hw : (rest.map fun v => v.category).sum ≤ 8) (hcs : cells + mc ≤ R.cells ∧ slots + ms ≤ R.slots) (hdg : decode cc pc = .ok (.invokestatic idx, 3)) (hS : va_S A0 s.heap H locs) (hA : ∀ q, A1 q → A0 q)
    (kx : ∀ (ce : Cell) (q9 : Addr) (H1 : Heap) (locs1 : List Loc), code ≠ 0 → Pic' H1 → H.size ≤ H1.size → (∀ q : Nat, q < H.size → ¬ A1 q → H1[q]? = H[q]?) → va_S A0 s.heap H1 locs1 → H1[q9]? = some ce → ce.vm = .none → s.vm.findClass (exN code) = some ce.cls → vx_W p l e R s m args below meth c H1 locs1 (cells + mc) (slots + ms) Q (F0 m pc ls rest) q9)
    (kk : ∀ (H1 : Heap) (locs1 : List Loc), code = 0 → Pic' H1 → H.size ≤ H1.size → (∀ q : Nat, q < H.size → ¬ A1 q → H1[q]? = H[q]?) → va_S A0 s.heap H1 locs1 → W p l e R s m args below meth c H1 locs1 (cells + mc) (slots + ms) Q (F0 m (pc + 3) ls rest)) : W p l e R s m args below meth c H locs cells slots Q (F0 m pc ls st0) := by
  refine vx_callv (vx_runS (As := As) (rest := rest) ⟨hx, hb, hml, hown, hts⟩ hM (va_cwS As.length hts hg rfl rfl rfl hd hR) (xPre_S hK hKx hP hS hr0) rfl rfl hls hst (lv_room hw) hdg hcs) hS (fun q _ h => hA q h) hA (fun q _ h => hA q h) (fun E ce q9 u t H1 locs1 ht hvm hpx hBX hz hk hS1 hce hv hcl => ?_) (fun u t H1 locs1 ht hvm hxr hB hz hk hS1 => ?_)
  · obtain ⟨hE, hP1⟩ := hBX
    subst hE
    exact kx ce q9 H1 locs1 hpx (by rw [ht] at hP1; exact hP1) hz hk hS1 hce hv hcl
  · exact kk H1 locs1 hxr (by have h := hB; rw [ht] at h; exact h) hz hk hS1
variable {Qc : Array Value → State → Outcome → State → Prop}
/-- out of a method without handlers: the callee's exception -/
theorem xout {ce : Cell} {q9 : Addr} (hex : ∀ x ∈ c.exceptionTable.toList, False) (hlocks : meth.locks = false) (hS : va_S A0 s.heap H locs) (hc0 : code ≠ 0) (hP : Pic H) (hce : H[q9]? = some ce) (hv : ce.vm = .none) {k : Nat} (hk : k = code) (hcl : s.vm.findClass (exN k) = some ce.cls) (h1 : cells ≤ mc) (h2 : slots ≤ ms) : vx_W p l e R s m args below meth c H locs cells slots (vx_MQ below Qc (xX A0 code Pic) args s mc ms A0) (F0 m pc ls rest) q9 := by
  subst hk
  exact vx_out (fun x h => (hex x h).elim) hlocks hce hv hcl (fun t ht hal => ⟨(), hc0, ⟨rfl, by show Pic t.heap; rw [ht]; exact hP⟩, hS.F ht⟩) hS.2.2 h1 h2
/-- a throw of its own: new X(text) -/
theorem xthr (k : Nat) (hk : 1 ≤ k ∧ k ≤ 3) {ik is : Nat} {text : String} (hg : ∀ w ∈ (exL k).filter goodWord, w ∈ lw_tbl) (hkb : ∀ w ∈ (exL k).filter (fun w => !goodWord w), w ∈ exB) (ho : ∀ w ∈ exL k, vx_ot w = true)
    (hx : p.tables.exec = Jvm.exec) (hb : c.code = cc) (hl0 : l.stackTraces = false) (hml : c.maxLocals = nL) (hown : s.vm.findClass RX6 = some m.cls) (hts : ∀ w ∈ AW, w.before args s = true) (hls : ls.size = nL) (hKx : Kx r0 s) (hr0 : ∀ q, A0 q → r0 ≤ q)
    (hql : Cond.classLink RX6 ik (exN k) ∈ AW) (hqi : Cond.initialized (exN k) ∈ AW) (hs : (is, text) ∈ exS) (hS : va_S A0 s.heap H locs)
    (d0 : decode cc pc = .ok (.new ik, 3)) (d3 : decode cc (pc + 3) = .ok (.dup, 1)) (d4 : decode cc (pc + 4) = .ok (.ldc is, 2)) (d6 : decode cc (pc + 6) = .ok (.invokespecial (if k = 1 then 228 else if k = 2 then 45 else 233), 3)) (d9 : decode cc (pc + 9) = .ok (.athrow, 1))
    (hex : ∀ x ∈ c.exceptionTable.toList, False) (hlocks : meth.locks = false) (hR : 6 ≤ R.frames ∧ 82 ≤ R.locals) (hc1 : cells + 1 ≤ R.cells) (hc2 : slots + 6 ≤ R.slots) (hkc : code = k)
    (hP : ∀ H' : Heap, H.size ≤ H'.size → (∀ q : Nat, q < H.size → H'[q]? = H[q]?) → Pic H') (h1 : cells + 1 ≤ mc) (h2 : slots + 6 ≤ ms) :
    W p l e R s m args below meth c H locs cells slots (vx_MQ below Qc (xX A0 code Pic) args s mc ms A0) (F0 m pc ls []) := by
  subst hkc
  obtain ⟨sa, hstr⟩ := hKx.2.2.1 _ hs
  have hfit : Bundle.fit (exN code) = true := by rcases (show code = 1 ∨ code = 2 ∨ code = 3 by omega) with rfl | rfl | rfl <;> decide +kernel
  refine vx_throwS (names := exC) (cls := exN code) (text := text) (ic := if code = 1 then 228 else if code = 2 then 45 else 233) (A := fun q => r0 ≤ q) hx hb hl0 hown hfit (List.all_eq_true.mp (by decide +kernel)) (hts _ hql) (hts _ hqi) hstr (exAt code hg hkb hts hKx) ?_ hKx.1 hKx.2.1 ⟨hS.1, fun q q1 q2 => hS.2.1 q q1 (fun q3 => q2 (hr0 q q3)), fun z hz => hr0 _ (hS.2.2 z hz)⟩ (by rw [hls, hml]) d0 d3 d4 d6 d9 (fun x h => (hex x h).elim) ?_ ?_ hc1 hc2 hlocks ?_ hS.2.2 h1 h2
  · intro w hw
    rcases List.mem_cons.mp hw with rfl | hw
    · unfold vx_ot; rw [AW_good hql, Bool.or_true]
    · rcases List.mem_cons.mp hw with rfl | hw
      · unfold vx_ot; rw [AW_good hqi, Bool.or_true]
      · exact ho w hw
  · exact Nat.lt_of_lt_of_le (show 2 + 3 < 6 by decide) hR.1
  · exact hR.2
  · intro t hal hz hq
    exact ⟨(), by omega, ⟨rfl, hP t.heap hz hq⟩, Nat.le_trans hS.1 hz, fun q q1 q2 => (hq q (Nat.lt_of_lt_of_le q1 hS.1)).trans (hS.2.1 q q1 q2)⟩
end XC
