/-! Constructors. -/
theorem W.sz {p : Program} {l : Launch} {e : Env} {R : Room} {s : State} {m : MethodId} {args : Array Value} {below : List Frame} {meth : Method} {c : Code} {H : Heap} {locs : List Loc} {cells slots : Nat} {Q : State → Prop} {g : JFrame} (kk : H.size ≤ s.heap.size + cells → W p l e R s m args below meth c H locs cells slots Q g) : W p l e R s m args below meth c H locs cells slots Q g := fun T hT X => kk (by have := X.same.2.2.1; rw [← hT]; exact this) T hT X
theorem spn_nil {b : Nat} : spn b 0 [] := ⟨rfl, fun k q hk => by simp at hk⟩
theorem spn.set {b n k a : Nat} {ws : va_W} {x y : va_E} (h : spn b n ws) (hk : ws[k]? = some (a, x)) : spn b n (ws.set k (a, y)) := by
  refine ⟨by rw [List.length_set]; exact h.1, fun i q hi => ?_⟩
  by_cases e : i = k
  · subst e
    have hl := (List.getElem?_eq_some_iff.mp hk).1
    rw [List.getElem?_set_self hl] at hi
    cases hi
    have h3 := h.2 i (a, x) hk
    exact h3
  · rw [List.getElem?_set_ne (Ne.symm e)] at hi
    exact h.2 i q hi
theorem spn.sz {b n : Nat} {ws : va_W} {D : va_G} {H : Heap} (h : spn b (n + 1) ws) (hP : va_P D vwCl ws H) (hz : H.size ≤ b + (n + 1)) : H.size = b + (n + 1) := by
  have := h.in hP (q := b + n) (by omega) (by omega)
  omega
theorem ctor_join {D : va_G} {ws new : va_W} {z n n0 : Nat} {x : va_E} {H H1 : Heap} (hsp : spn z n ws) (hP : va_P D vwCl (ws ++ [(n0, x)]) H) (h0 : n0 = z + n) (hN : va_P D vwCl new H1) (hq : ∀ q : Nat, q < H.size → ¬ n0 ≤ q → H1[q]? = H[q]?) : va_P D vwCl (ws ++ new) H1 := va_P.app (hsp.kept (va_P_l hP) (fun q h1 h2 => hq q (hsp.in (va_P_l hP) h1 h2) (by omega))) hN
theorem last_get {ws : va_W} {x : Nat × va_E} : (ws ++ [x])[ws.length]? = some x := by simp
def z4 : List Value := [.int 0, .int 0, .int 0, .int 0]
def z8 : List Value := [.int 0, .int 0, .int 0, .int 0, .int 0, .int 0, .int 0, .int 0]
theorem hdv_X3_init : yX3_init.cls = RX3 ∧ yX3_init.cls ≠ "java/lang/invoke/MethodHandle" ∧ yX3_init.cls ≠ "java/lang/invoke/VarHandle" ∧ (parseMethodDescriptor yX3_init.desc).map (fun d => d.parameters.length) = some 0 := by decide +kernel
set_option maxHeartbeats 4000000 in
set_option maxRecDepth 100000 in
theorem c_X3_init (l : Launch) (D : va_G) (q : Nat) (Pic : Heap → Prop) : Met l yX3_init (wA yX3_init cX3_init 1 none) (rmX 1 0 0) (gPc D [.ref q] Pic) (gQv (noA) Pic) 0 0 (noA) := by
  refine Met.ofW (cc := cX3_init) (maxL := 1) (ret := none) (by decide) rfl ?_
  intro p e s m args below meth c s₁ B hml hv
  obtain ⟨hav, hG, hK⟩ := hv
  have hx := B.exec
  have hb := B.bytes
  have hr := B.returns
  have hts0 := atoms_spec (ws := wA yX3_init cX3_init 1 none) B.pre
  have hts : ∀ w ∈ AW, w.before _ s = true := fun w h => hts0 w (List.mem_cons_of_mem _ h)
  have hown : s.vm.findClass RX3 = some m.cls := findClass_of_methodNamed B.named
  have hlocks := B.notSynchronized
  have hS : va_S (noA) s.heap s.heap [] := va_S.rf
  have hin : meth.name = "<init>" := (name_of_methodNamed B.named B.method).1
  have hl := lv_entry ([.ref q]) (n := 1) (Nat.le_of_ble_eq_true rfl)
  refine W.eq (g2 := entryFrame m ([.ref q] : List Value).toArray 1) (by rw [hav]) ?_
  rw [lg_entry_eq]
  generalize (lg_sl ([.ref q]) ++ List.replicate (1 - (lg_sl ([.ref q])).length) Slot.unset).toArray = ls at hl ⊢
  have hl : lv_has ls 1 [(0, .ref q)] := hl
  refine lv_aload_n hx hb dX3_init_0 rfl (lv_at hl 0 rfl) ?_
  refine gobj hx hb hml hown hts hl.1 qM_X3_3 dX3_init_1 ⟨Nat.le_of_ble_eq_true rfl, Nat.le_of_ble_eq_true rfl⟩ (Nat.le_of_ble_eq_true rfl) ?_
  exact W.vret hx hb hr (fun t ht hW => gQv_of hG hS ht) hS.2.2 dX3_init_4

theorem hdv_X4_init : yX4_init.cls = RX4 ∧ yX4_init.cls ≠ "java/lang/invoke/MethodHandle" ∧ yX4_init.cls ≠ "java/lang/invoke/VarHandle" ∧ (parseMethodDescriptor yX4_init.desc).map (fun d => d.parameters.length) = some 3 := by decide +kernel
set_option maxHeartbeats 4000000 in
set_option maxRecDepth 100000 in
theorem c_X4_init (l : Launch) (D : va_G) (q : Nat) (tr li cr : Int32) : Met l yX4_init (wA yX4_init cX4_init 4 none) (rmX 1 0 0) (gPc D [.ref q, .int tr, .int li, .int cr] (fun H => va_P D vwCl [(q, .inr (4, [.int 0, .int 0, .int 0, .int 0]))] H)) (gQv (fun x => q ≤ x) (fun H => va_P D vwCl [(q, .inr (4, [.int tr, .int li, .int cr, .int 0]))] H)) 0 0 (fun x => q ≤ x) := by
  refine Met.ofW (cc := cX4_init) (maxL := 4) (ret := none) (by decide) rfl ?_
  intro p e s m args below meth c s₁ B hml hv
  obtain ⟨hav, hG, hK⟩ := hv
  have hx := B.exec
  have hb := B.bytes
  have hr := B.returns
  have hts0 := atoms_spec (ws := wA yX4_init cX4_init 4 none) B.pre
  have hts : ∀ w ∈ AW, w.before _ s = true := fun w h => hts0 w (List.mem_cons_of_mem _ h)
  have hown : s.vm.findClass RX4 = some m.cls := findClass_of_methodNamed B.named
  have hlocks := B.notSynchronized
  have hS : va_S (fun x => q ≤ x) s.heap s.heap [] := va_S.rf
  have hin : meth.name = "<init>" := (name_of_methodNamed B.named B.method).1
  have hl := lv_entry ([.ref q, .int tr, .int li, .int cr]) (n := 4) (Nat.le_of_ble_eq_true rfl)
  refine W.eq (g2 := entryFrame m ([.ref q, .int tr, .int li, .int cr] : List Value).toArray 4) (by rw [hav]) ?_
  rw [lg_entry_eq]
  generalize (lg_sl ([.ref q, .int tr, .int li, .int cr]) ++ List.replicate (4 - (lg_sl ([.ref q, .int tr, .int li, .int cr])).length) Slot.unset).toArray = ls at hl ⊢
  have hl : lv_has ls 4 [(0, .ref q), (1, .int tr), (2, .int li), (3, .int cr)] := hl
  have hA : ∀ x, q ≤ x → q ≤ x := fun _ h => h
  have hP : va_P D vwCl [(q, .inr (4, [.int 0, .int 0, .int 0, .int 0]))] s.heap := hG
  have hsp : spn q 1 [(q, .inr (4, [.int 0, .int 0, .int 0, .int 0]))] := spn_nil.push rfl
  refine lv_aload_n hx hb dX4_init_0 rfl (lv_at hl 0 rfl) ?_
  refine gobj hx hb hml hown hts hl.1 qM_X4_1 dX4_init_1 ⟨Nat.le_of_ble_eq_true rfl, Nat.le_of_ble_eq_true rfl⟩ (Nat.le_of_ble_eq_true rfl) ?_
  refine lv_aload_n hx hb dX4_init_4 rfl (lv_at hl 0 rfl) ?_
  refine lv_iload_n hx hb dX4_init_5 rfl (lv_at hl 1 rfl) ?_
  refine va_put (ci := 4) (C := RX4) (T := TX4) (N := 4) hx hb hts awsX40 tyX4 tyX4_ok nmX4 hown hK hP (hsp.D (fun q h _ => hA q h)) hS 0 rfl rfl 0 (by decide) (hts _ qF_X4_7) (fun _ h => h) rfl (tyX4_ok 0 (by decide)) rfl rfl (by simp) dX4_init_6 (fun H locs hP _ hS => ?_)
  have hsp : spn q 1 ([(q, .inr (4, [.int tr, .int 0, .int 0, .int 0]))]) := hsp.set (k := 0) (a := q) (y := .inr (4, [.int tr, .int 0, .int 0, .int 0])) rfl
  have hP : va_P D vwCl ([(q, .inr (4, [.int tr, .int 0, .int 0, .int 0]))]) H := hP
  refine lv_aload_n hx hb dX4_init_9 rfl (lv_at hl 0 rfl) ?_
  refine lv_iload_n hx hb dX4_init_10 rfl (lv_at hl 2 rfl) ?_
  refine va_put (ci := 4) (C := RX4) (T := TX4) (N := 4) hx hb hts awsX40 tyX4 tyX4_ok nmX4 hown hK hP (hsp.D (fun q h _ => hA q h)) hS 0 rfl rfl 1 (by decide) (hts _ qF_X4_13) (fun _ h => h) rfl (tyX4_ok 1 (by decide)) rfl rfl (by simp) dX4_init_11 (fun H locs hP _ hS => ?_)
  have hsp : spn q 1 ([(q, .inr (4, [.int tr, .int li, .int 0, .int 0]))]) := hsp.set (k := 0) (a := q) (y := .inr (4, [.int tr, .int li, .int 0, .int 0])) rfl
  have hP : va_P D vwCl ([(q, .inr (4, [.int tr, .int li, .int 0, .int 0]))]) H := hP
  refine lv_aload_n hx hb dX4_init_14 rfl (lv_at hl 0 rfl) ?_
  refine lv_iload_n hx hb dX4_init_15 rfl (lv_at hl 3 rfl) ?_
  refine va_put (ci := 4) (C := RX4) (T := TX4) (N := 4) hx hb hts awsX40 tyX4 tyX4_ok nmX4 hown hK hP (hsp.D (fun q h _ => hA q h)) hS 0 rfl rfl 2 (by decide) (hts _ qF_X4_16) (fun _ h => h) rfl (tyX4_ok 2 (by decide)) rfl rfl (by simp) dX4_init_16 (fun H locs hP _ hS => ?_)
  have hsp : spn q 1 ([(q, .inr (4, [.int tr, .int li, .int cr, .int 0]))]) := hsp.set (k := 0) (a := q) (y := .inr (4, [.int tr, .int li, .int cr, .int 0])) rfl
  have hP : va_P D vwCl ([(q, .inr (4, [.int tr, .int li, .int cr, .int 0]))]) H := hP
  exact W.vret hx hb hr (fun t ht hW => gQv_of hP hS ht) hS.2.2 dX4_init_19

theorem hdv_X1_init : yX1_init.cls = RX1 ∧ yX1_init.cls ≠ "java/lang/invoke/MethodHandle" ∧ yX1_init.cls ≠ "java/lang/invoke/VarHandle" ∧ (parseMethodDescriptor yX1_init.desc).map (fun d => d.parameters.length) = some 0 := by decide +kernel
set_option maxHeartbeats 4000000 in
set_option maxRecDepth 100000 in
theorem c_X1_init (l : Launch) (D : va_G) (q : Nat) : Met l yX1_init (wA yX1_init cX1_init 1 none) (rmX 1 1 12) (gPc D [.ref q] (fun H => H.size = q + 1 ∧ va_P D vwCl [(q, .inr (1, [.int 0, .int 0, .int 0, .null, .int 0, .int 0, .int 0, .int 0, .int 0]))] H)) (gQv (fun x => q ≤ x) (fun H => H.size = q + 2 ∧ va_P D vwCl [(q, .inr (1, [.int 0, .int 0, .int 0, .ref (q + 1), .int 0, .int 0, .int 0, .int 0, .int 0])), (q + 1, .inl (D.1 100, 12, .inl (fun _ => 0)))] H)) 1 12 (fun x => q ≤ x) := by
  refine Met.ofW (cc := cX1_init) (maxL := 1) (ret := none) (by decide) rfl ?_
  intro p e s m args below meth c s₁ B hml hv
  obtain ⟨hav, hG, hK⟩ := hv
  have hx := B.exec
  have hb := B.bytes
  have hr := B.returns
  have hts0 := atoms_spec (ws := wA yX1_init cX1_init 1 none) B.pre
  have hts : ∀ w ∈ AW, w.before _ s = true := fun w h => hts0 w (List.mem_cons_of_mem _ h)
  have hown : s.vm.findClass RX1 = some m.cls := findClass_of_methodNamed B.named
  have hlocks := B.notSynchronized
  have hS : va_S (fun x => q ≤ x) s.heap s.heap [] := va_S.rf
  have hin : meth.name = "<init>" := (name_of_methodNamed B.named B.method).1
  have hl := lv_entry ([.ref q]) (n := 1) (Nat.le_of_ble_eq_true rfl)
  refine W.eq (g2 := entryFrame m ([.ref q] : List Value).toArray 1) (by rw [hav]) ?_
  rw [lg_entry_eq]
  generalize (lg_sl ([.ref q]) ++ List.replicate (1 - (lg_sl ([.ref q])).length) Slot.unset).toArray = ls at hl ⊢
  have hl : lv_has ls 1 [(0, .ref q)] := hl
  have hA : ∀ x, q ≤ x → q ≤ x := fun _ h => h
  have hP : va_P D vwCl [(q, .inr (1, [.int 0, .int 0, .int 0, .null, .int 0, .int 0, .int 0, .int 0, .int 0]))] s.heap := hG.2
  have hsz : s.heap.size = q + 1 := hG.1
  have hz0 : s.heap.size = q + 1 := hG.1
  have hsp : spn q 1 [(q, .inr (1, [.int 0, .int 0, .int 0, .null, .int 0, .int 0, .int 0, .int 0, .int 0]))] := spn_nil.push rfl
  refine lv_aload_n hx hb dX1_init_0 rfl (lv_at hl 0 rfl) ?_
  refine gobj hx hb hml hown hts hl.1 qM_X1_3 dX1_init_1 ⟨Nat.le_of_ble_eq_true rfl, Nat.le_of_ble_eq_true rfl⟩ (Nat.le_of_ble_eq_true rfl) ?_
  refine lv_aload_n hx hb dX1_init_4 rfl (lv_at hl 0 rfl) ?_
  refine lv_bipush (v := 12) hx hb dX1_init_5 (by decide) ?_
  refine gnewI hx hb hts hK hP hS hsz (by decide) (show _ = 12 from rfl) (by decide) (Nat.le_of_ble_eq_true rfl) (Nat.le_of_ble_eq_true rfl) dX1_init_7 (fun H hP hsz _ hS => ?_)
  have hsp : spn q 2 ([(q, .inr (1, [.int 0, .int 0, .int 0, .null, .int 0, .int 0, .int 0, .int 0, .int 0])), (q + 1, .inl (D.1 100, 12, .inl (fun _ => 0)))]) := hsp.push rfl
  have hP : va_P D vwCl ([(q, .inr (1, [.int 0, .int 0, .int 0, .null, .int 0, .int 0, .int 0, .int 0, .int 0])), (q + 1, .inl (D.1 100, 12, .inl (fun _ => 0)))]) H := hP
  have hsz : H.size = q + 2 := hsz
  refine va_putF (ci := 1) (C := RX1) (T := TX1) (N := 9) hx hb hts awsX10 tyX1 tyX1_ok nmX1 hown hK hP (hsp.D (fun q h _ => hA q h)) hS 0 rfl rfl 3 (by decide) (hts _ qF_X1_9) (fun _ h => h) rfl hin rfl (tyX1_ok 3 (by decide)) rfl rfl (by simp) dX1_init_9 (fun H locs hP _ hS => ?_)
  have hsp : spn q 2 ([(q, .inr (1, [.int 0, .int 0, .int 0, .ref (q + 1), .int 0, .int 0, .int 0, .int 0, .int 0])), (q + 1, .inl (D.1 100, 12, .inl (fun _ => 0)))]) := hsp.set (k := 0) (a := q) (y := .inr (1, [.int 0, .int 0, .int 0, .ref (q + 1), .int 0, .int 0, .int 0, .int 0, .int 0])) rfl
  have hP : va_P D vwCl ([(q, .inr (1, [.int 0, .int 0, .int 0, .ref (q + 1), .int 0, .int 0, .int 0, .int 0, .int 0])), (q + 1, .inl (D.1 100, 12, .inl (fun _ => 0)))]) H := hP
  refine W.sz (fun hz9 => ?_)
  have hsz : H.size = q + (1 + 1) := hsp.sz hP (by omega)
  clear hz9
  exact W.vret hx hb hr (fun t ht hW => gQv_of (Pic := fun H => H.size = q + 2 ∧ va_P D vwCl [(q, .inr (1, [.int 0, .int 0, .int 0, .ref (q + 1), .int 0, .int 0, .int 0, .int 0, .int 0])), (q + 1, .inl (D.1 100, 12, .inl (fun _ => 0)))] H) ⟨hsz, hP⟩ hS ht) hS.2.2 dX1_init_12

def fS (b j : Nat) : Nat → Option Nat := fun x => if x < j then some (b + 4 + x) else none
def fPl (b j : Nat) : Nat → Option Nat := fun x => if x < j then some (b + 24 + 2 * x) else none
def fTm (b j : Nat) : Nat → Option Nat := fun x => if x < j then some (b + 30 + x) else none
theorem fS_0 {b : Nat} : fS b 0 = fun _ => none := rfl
theorem fS_up {b j : Nat} : va_up (fS b j) j (some (b + 4 + j)) = fS b (j + 1) := by
  funext x
  unfold va_up fS
  by_cases h : x = j
  · subst h; rw [if_pos rfl, if_pos (by omega)]
  · rw [if_neg h]
    by_cases h2 : x < j
    · rw [if_pos h2, if_pos (by omega)]
    · rw [if_neg h2, if_neg (by omega)]
theorem fPl_up {b j : Nat} : va_up (fPl b j) j (some (b + 24 + 2 * j)) = fPl b (j + 1) := by
  funext x
  unfold va_up fPl
  by_cases h : x = j
  · subst h; rw [if_pos rfl, if_pos (by omega)]
  · rw [if_neg h]
    by_cases h2 : x < j
    · rw [if_pos h2, if_pos (by omega)]
    · rw [if_neg h2, if_neg (by omega)]
theorem fTm_up {b j : Nat} : va_up (fTm b j) j (some (b + 30 + j)) = fTm b (j + 1) := by
  funext x
  unfold va_up fTm
  by_cases h : x = j
  · subst h; rw [if_pos rfl, if_pos (by omega)]
  · rw [if_neg h]
    by_cases h2 : x < j
    · rw [if_pos h2, if_pos (by omega)]
    · rw [if_neg h2, if_neg (by omega)]
def cZ (b : Nat) : List Value := [.ref (b + 1), .int 0, .ref (b + 2), .int 0, .ref (b + 3), .int 0, .int 1000, .int 10, .int 0, .int 1000, .int 0]
def cH (D : va_G) (b j p t : Nat) : va_W := [(b, .inr (0, cZ b)), (b + 1, .inl (D.1 101, 20, .inr (.inr (.inr (.inr (fS b j)))))), (b + 2, .inl (D.1 102, 3, .inr (.inr (.inr (.inr (fPl b p)))))), (b + 3, .inl (D.1 103, 3, .inr (.inr (.inr (.inr (fTm b t))))))]
def tS (b j : Nat) : va_W := (List.range j).map (fun i => (b + 4 + i, .inr (3, z8)))
theorem tS_1 {b j : Nat} : tS b (j + 1) = tS b j ++ [(b + 4 + j, .inr (3, z8))] := by
  unfold tS
  rw [List.range_succ, List.map_append]
  rfl
def pE (D : va_G) (q : Nat) : va_W := [(q, .inr (1, [.int 0, .int 0, .int 0, .ref (q + 1), .int 0, .int 0, .int 0, .int 0, .int 0])), (q + 1, .inl (D.1 100, 12, .inl (fun _ => 0)))]
def tE (q : Nat) (tr li cr : Int32) : va_W := [(q, .inr (4, [.int tr, .int li, .int cr, .int 0]))]
/-- the page of a new contract -/
def P0 : Nat → Int32 := fun x => if x = 3 then 1000 else if x = 4 then 10 else if x = 7 then 1000 else if x = 229 then 20 else if x = 230 then 3 else if x = 231 then 30 else if x = 233 then 40 else if x = 234 then 6 else if x = 235 then 20 else if x = 237 then 60 else if x = 238 then 12 else if x = 239 then 10 else 0
theorem P0_z {x : Nat} (h : 9 ≤ x) (h2 : x < 229) : P0 x = 0 := by
  unfold P0
  simp only [show x ≠ 3 by omega, show x ≠ 4 by omega, show x ≠ 7 by omega, show x ≠ 229 by omega, show x ≠ 230 by omega, show x ≠ 231 by omega, show x ≠ 233 by omega, show x ≠ 234 by omega, show x ≠ 235 by omega, show x ≠ 237 by omega, show x ≠ 238 by omega, show x ≠ 239 by omega, if_false]
theorem arr_conv {D : va_G} {cA : ClassId} {n a : Nat} {f f' : Nat → Option Nat} {H : Heap} (h : ∀ j, j < n → f j = f' j) (hp : va_at D vwCl (a, .inl (cA, n, .inr (.inr (.inr (.inr f))))) H) : va_at D vwCl (a, .inl (cA, n, .inr (.inr (.inr (.inr f'))))) H := by
  show H[a]? = some (vp_cell _ _)
  rw [vp_cell_q]
  have hp : H[a]? = some (vp_cell cA (n, .inr (.inr (.inr (.inr f))))) := hp
  rw [vp_cell_q] at hp
  rw [hp, arrV_c (fun j hj => by rw [h j hj])]
theorem Graph_new {D : va_G} {b : Nat} {H : Heap} (hP : va_P D vwCl (cH D b 20 3 3 ++ (((tS b 20 ++ pE D (b + 24)) ++ pE D (b + 26)) ++ pE D (b + 28) ++ tE (b + 30) 20 3 30 ++ tE (b + 31) 40 6 20 ++ tE (b + 32) 60 12 10)) H) : Graph D b P0 H := by
  have hc := va_P_l hP
  have ht := va_P_r hP
  have t2 := va_P_r ht
  have t1 := va_P_r (va_P_l ht)
  have t0 := va_P_r (va_P_l (va_P_l ht))
  have hp := va_P_l (va_P_l (va_P_l ht))
  have p2 := va_P_r hp
  have p1 := va_P_r (va_P_l hp)
  have p0 := va_P_r (va_P_l (va_P_l hp))
  have hs := va_P_l (va_P_l (va_P_l hp))
  have hr : ∀ q, q < 3 → rF P0 (169 + 20 * q) = fun _ => 0 := fun q hq => by
    funext i
    unfold rF
    split
    · exact P0_z (by omega) (by omega)
    · rfl
  have hp9 : ∀ q r, q < 3 → pF P0 (169 + 20 * q) r = [.int 0, .int 0, .int 0, .ref r, .int 0, .int 0, .int 0, .int 0, .int 0] := fun q r hq => by
    unfold pF
    simp only [P0_z (show 9 ≤ 169 + 20 * q + 0 by omega) (by omega), P0_z (show 9 ≤ 169 + 20 * q + 1 by omega) (by omega), P0_z (show 9 ≤ 169 + 20 * q + 2 by omega) (by omega), P0_z (show 9 ≤ 169 + 20 * q + 3 by omega) (by omega), P0_z (show 9 ≤ 169 + 20 * q + 4 by omega) (by omega), P0_z (show 9 ≤ 169 + 20 * q + 5 by omega) (by omega), P0_z (show 9 ≤ 169 + 20 * q + 6 by omega) (by omega), P0_z (show 9 ≤ 169 + 20 * q + 7 by omega) (by omega)]
  have gp : ∀ q, q < 3 → va_P D vwCl (pE D (b + 24 + 2 * q)) H → va_at D vwCl (b + (24 + 2 * q), gE D b P0 (24 + 2 * q)) H ∧ va_at D vwCl (b + (25 + 2 * q), gE D b P0 (25 + 2 * q)) H := fun q hq h => by
    rw [gE_p hq, gE_r hq, hp9 q _ hq, hr q hq]
    have h0 := h 0 _ rfl
    have h1 := h 1 _ rfl
    refine ⟨?_, ?_⟩
    · have e1 : b + 25 + 2 * q = b + 24 + 2 * q + 1 := by omega
      rw [e1, ← Nat.add_assoc]; exact h0
    · have e1 : b + (25 + 2 * q) = b + 24 + 2 * q + 1 := by omega
      rw [e1]; exact h1
  intro k q hk
  obtain ⟨hk33, rfl⟩ := gL_lt hk
  rcases (show k = 0 ∨ k = 1 ∨ k = 2 ∨ k = 3 ∨ (4 ≤ k ∧ k < 24) ∨ (24 ≤ k ∧ k < 30) ∨ k = 30 ∨ k = 31 ∨ k = 32 by omega) with rfl | rfl | rfl | rfl | h | h | rfl | rfl | rfl
  · exact hc 0 _ rfl
  · exact arr_conv (fun j hj => if_pos hj) (hc 1 _ rfl)
  · exact arr_conv (fun j hj => if_pos hj) (hc 2 _ rfl)
  · exact arr_conv (fun j hj => if_pos hj) (hc 3 _ rfl)
  · obtain ⟨i, hi⟩ : ∃ i, k = 4 + i := ⟨k - 4, by omega⟩
    subst hi
    have h20 : i < 20 := by omega
    have h1 := hs i (b + 4 + i, .inr (3, z8)) (by unfold tS; simp [h20])
    rw [gE_s h20]
    have e : sF P0 (9 + 8 * i) = z8 := by
      unfold sF z8
      simp only [P0_z (show 9 ≤ 9 + 8 * i + 0 by omega) (by omega), P0_z (show 9 ≤ 9 + 8 * i + 1 by omega) (by omega), P0_z (show 9 ≤ 9 + 8 * i + 2 by omega) (by omega), P0_z (show 9 ≤ 9 + 8 * i + 3 by omega) (by omega), P0_z (show 9 ≤ 9 + 8 * i + 4 by omega) (by omega), P0_z (show 9 ≤ 9 + 8 * i + 5 by omega) (by omega), P0_z (show 9 ≤ 9 + 8 * i + 6 by omega) (by omega), P0_z (show 9 ≤ 9 + 8 * i + 7 by omega) (by omega)]
    rw [e, ← Nat.add_assoc]
    exact h1
  · rcases (show k = 24 + 2 * 0 ∨ k = 25 + 2 * 0 ∨ k = 24 + 2 * 1 ∨ k = 25 + 2 * 1 ∨ k = 24 + 2 * 2 ∨ k = 25 + 2 * 2 by omega) with rfl | rfl | rfl | rfl | rfl | rfl
    · exact (gp 0 (by decide) p0).1
    · exact (gp 0 (by decide) p0).2
    · exact (gp 1 (by decide) p1).1
    · exact (gp 1 (by decide) p1).2
    · exact (gp 2 (by decide) p2).1
    · exact (gp 2 (by decide) p2).2
  · exact t0 0 _ rfl
  · exact t1 0 _ rfl
  · exact t2 0 _ rfl
