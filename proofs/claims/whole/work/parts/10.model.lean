/-! The reference's object and its four arrays, five cells from o on: m holds P, spare S, saved V, text T; F k: its int field k (3 savedCount, 5 textLength, 6 code, 7 at, 8 number, 9 .. 11 the item read); h: the hash. -/
def mdF (F : Nat → Int32) (h : Int64) (o : Nat) : List Value := [.ref (o + 1), .ref (o + 2), .ref (o + 3), .int (F 3), .ref (o + 4), .int (F 5), .int (F 6), .int (F 7), .int (F 8), .int (F 9), .int (F 10), .int (F 11), .long h]
def mL (D : va_G) (o : Nat) (P S V T F : Nat → Int32) (h : Int64) : va_W := [(o, .inr (7, mdF F h o)), (o + 1, .inl (D.1 100, 241, .inl P)), (o + 2, .inl (D.1 100, 241, .inl S)), (o + 3, .inl (D.1 100, 964, .inl V)), (o + 4, .inl (D.1 100, 150, .inl T))]
def Md (D : va_G) (o : Nat) (P S V T F : Nat → Int32) (h : Int64) (H : Heap) : Prop := va_P D vwCl (mL D o P S V T F h) H
def inM (o : Nat) : Nat → Prop := fun q => o ≤ q ∧ q < o + 5
theorem mL_D {D : va_G} {o : Nat} {P S V T F : Nat → Int32} {h : Int64} {A : Nat → Prop} (hA : ∀ q, inM o q → A q) : va_D A (mL D o P S V T F h) := by
  have key : ∀ (k : Nat) (q : Nat × va_E), (mL D o P S V T F h)[k]? = some q → k < 5 ∧ q.1 = o + k := by
    intro k q hk
    match k, hk with
    | 0, hk => cases hk; exact ⟨by decide, rfl⟩
    | 1, hk => cases hk; exact ⟨by decide, rfl⟩
    | 2, hk => cases hk; exact ⟨by decide, rfl⟩
    | 3, hk => cases hk; exact ⟨by decide, rfl⟩
    | 4, hk => cases hk; exact ⟨by decide, rfl⟩
    | k + 5, hk => simp [mL] at hk
  refine ⟨fun i j p q hi hj hpq => ?_, fun k q hk => ?_⟩
  · have h1 := (key i p hi).2
    have h2 := (key j q hj).2
    omega
  · obtain ⟨h1, h2⟩ := key k q hk
    rw [h2]
    exact hA _ ⟨Nat.le_add_right _ _, by show o + k < o + 5; omega⟩
theorem Md.kept {D : va_G} {o : Nat} {P S V T F : Nat → Int32} {h : Int64} {H H1 : Heap} (hM : Md D o P S V T F h H) (hq : ∀ q, inM o q → H1[q]? = H[q]?) : Md D o P S V T F h H1 := va_P.kept hM (fun k q hk => hq _ ((mL_D (A := inM o) (fun _ h => h)).2 k q hk))
theorem Md.lt {D : va_G} {o : Nat} {P S V T F : Nat → Int32} {h : Int64} {H : Heap} (hM : Md D o P S V T F h H) {q : Nat} (hq : inM o q) : q < H.size := by
  obtain ⟨h1, h2⟩ := hq
  rcases (show q = o ∨ q = o + 1 ∨ q = o + 2 ∨ q = o + 3 ∨ q = o + 4 by omega) with rfl | rfl | rfl | rfl | rfl
  · exact (hM 0 _ rfl).lt
  · exact (hM 1 _ rfl).lt
  · exact (hM 2 _ rfl).lt
  · exact (hM 3 _ rfl).lt
  · exact (hM 4 _ rfl).lt
theorem mdF_set {F : Nat → Int32} {h : Int64} {o k : Nat} {v : Int32} (hk : k = 3 ∨ k = 5 ∨ k = 6 ∨ k = 7 ∨ k = 8 ∨ k = 9 ∨ k = 10 ∨ k = 11) : (mdF F h o).set k (.int v) = mdF (upd F k v) h o := by
  rcases hk with rfl | rfl | rfl | rfl | rfl | rfl | rfl | rfl <;> simp [mdF, upd]
theorem mdF_get {F : Nat → Int32} {h : Int64} {o k : Nat} (hk : k = 3 ∨ k = 5 ∨ k = 6 ∨ k = 7 ∨ k = 8 ∨ k = 9 ∨ k = 10 ∨ k = 11) : (mdF F h o)[k]? = some (.int (F k)) := by
  rcases hk with rfl | rfl | rfl | rfl | rfl | rfl | rfl | rfl <;> rfl
section MR
variable {p : Program} {l : Launch} {e : Env} {R : Room} {s : State} {m : MethodId} {args : Array Value} {below : List Frame} {meth : Method} {c : Code} {H : Heap} {locs : List Loc} {cells slots : Nat} {Q : State → Prop}
variable {cc : ByteArray} {pc : Nat} {ls : Array Slot} {rest : List Value} {D : va_G} {A : Nat → Prop} {o : Nat} {P S V T F : Nat → Int32} {h : Int64} {H0 : Heap} {own : String} {idx : Nat}
theorem Md.recv (hK : Kn D s) (hG : Md D o P S V T F h H) : ∃ cellB : Cell, H[o]? = some cellB ∧ cellB.vm.isStatics = false ∧ s.vm.findClass RX7 = some cellB.cls := va_recv hK hG (ci := 7) (q0 := 0) rfl rfl
theorem getM (k : Nat) (hx : p.tables.exec = Jvm.exec) (hb : c.code = cc) (hts : ∀ w ∈ AW, w.before args s = true) (hown : s.vm.findClass own = some m.cls) (hK : Kn D s) (hG : Md D o P S V T F h H) (hk : k = 3 ∨ k = 5 ∨ k = 6 ∨ k = 7 ∨ k = 8 ∨ k = 9 ∨ k = 10 ∨ k = 11) (hq : Cond.fieldLink own idx RX7 (TX7 k).2.1 (TX7 k).2.2.1 ∈ AW) (hc : TX7 k = (RX7, (TX7 k).2.1, (TX7 k).2.2.1, (TX7 k).2.2.2)) (hdg : decode cc pc = .ok (.getfield idx, 3))
    (kk : W p l e R s m args below meth c H locs cells slots Q (F0 m (pc + 3) ls (.int (F k) :: rest))) : W p l e R s m args below meth c H locs cells slots Q (F0 m pc ls (.ref o :: rest)) :=
  va_get (ci := 7) (C := RX7) (T := TX7) (N := 13) hx hb hts awsX70 hown hK hG 0 rfl rfl k (by omega) (hts _ hq) (fun x h => by rw [hc] at h; exact h) (mdF_get hk) hdg kk
theorem putM (k : Nat) {v : Int32} (hx : p.tables.exec = Jvm.exec) (hb : c.code = cc) (hts : ∀ w ∈ AW, w.before args s = true) (hown : s.vm.findClass own = some m.cls) (hK : Kn D s) (hG : Md D o P S V T F h H) (hS : va_S A H0 H locs) (hA : ∀ q, inM o q → A q) (hk : k = 3 ∨ k = 5 ∨ k = 6 ∨ k = 7 ∨ k = 8 ∨ k = 9 ∨ k = 10 ∨ k = 11) (hq : Cond.fieldLink own idx RX7 (TX7 k).2.1 (TX7 k).2.2.1 ∈ AW) (hc : TX7 k = (RX7, (TX7 k).2.1, "I", false)) (hdg : decode cc pc = .ok (.putfield idx, 3))
    (kk : ∀ (H1 : Heap) (locs1 : List Loc), Md D o P S V T (upd F k v) h H1 → va_S A H0 H1 locs1 → W p l e R s m args below meth c H1 locs1 cells slots Q (F0 m (pc + 3) ls rest)) : W p l e R s m args below meth c H locs cells slots Q (F0 m pc ls (.int v :: .ref o :: rest)) :=
  va_put (ci := 7) (C := RX7) (T := TX7) (N := 13) hx hb hts awsX70 tyX7 tyX7_ok nmX7 hown hK hG (mL_D hA) hS 0 rfl rfl k (by omega) (hts _ hq) (fun x h => by rw [hc] at h ⊢; exact h) (by rw [hc]) (ty := .int) (by rw [hc]; exact pfd_I) rfl rfl (by simp [mdF]; omega) hdg (fun H1 locs1 hP _ hS1 => kk H1 locs1 (by rw [mdF_set hk] at hP; exact hP) hS1)
theorem getMh (hx : p.tables.exec = Jvm.exec) (hb : c.code = cc) (hts : ∀ w ∈ AW, w.before args s = true) (hown : s.vm.findClass own = some m.cls) (hK : Kn D s) (hG : Md D o P S V T F h H) (hq : Cond.fieldLink own idx RX7 "hash" "J" ∈ AW) (hdg : decode cc pc = .ok (.getfield idx, 3))
    (kk : W p l e R s m args below meth c H locs cells slots Q (F0 m (pc + 3) ls (.long h :: rest))) : W p l e R s m args below meth c H locs cells slots Q (F0 m pc ls (.ref o :: rest)) :=
  va_get (ci := 7) (C := RX7) (T := TX7) (N := 13) hx hb hts awsX70 hown hK hG 0 rfl rfl 12 (by decide) (hts _ hq) (fun x h => h) rfl hdg kk
theorem putMh {v : Int64} (hx : p.tables.exec = Jvm.exec) (hb : c.code = cc) (hts : ∀ w ∈ AW, w.before args s = true) (hown : s.vm.findClass own = some m.cls) (hK : Kn D s) (hG : Md D o P S V T F h H) (hS : va_S A H0 H locs) (hA : ∀ q, inM o q → A q) (hq : Cond.fieldLink own idx RX7 "hash" "J" ∈ AW) (hdg : decode cc pc = .ok (.putfield idx, 3))
    (kk : ∀ (H1 : Heap) (locs1 : List Loc), Md D o P S V T F v H1 → va_S A H0 H1 locs1 → W p l e R s m args below meth c H1 locs1 cells slots Q (F0 m (pc + 3) ls rest)) : W p l e R s m args below meth c H locs cells slots Q (F0 m pc ls (.long v :: .ref o :: rest)) :=
  va_put (ci := 7) (C := RX7) (T := TX7) (N := 13) hx hb hts awsX70 tyX7 tyX7_ok nmX7 hown hK hG (mL_D hA) hS 0 rfl rfl 12 (by decide) (hts _ hq) (fun x h => h) rfl (ty := .long) (by decide +kernel) rfl rfl (by simp [mdF]) hdg (fun H1 locs1 hP _ hS1 => kk H1 locs1 hP hS1)

theorem getMm (hx : p.tables.exec = Jvm.exec) (hb : c.code = cc) (hts : ∀ w ∈ AW, w.before args s = true) (hown : s.vm.findClass own = some m.cls) (hK : Kn D s) (hG : Md D o P S V T F h H) (hq : Cond.fieldLink own idx RX7 "m" "[I" ∈ AW) (hdg : decode cc pc = .ok (.getfield idx, 3))
    (kk : W p l e R s m args below meth c H locs cells slots Q (F0 m (pc + 3) ls (.ref (o + 1) :: rest))) : W p l e R s m args below meth c H locs cells slots Q (F0 m pc ls (.ref o :: rest)) :=
  va_get (ci := 7) (C := RX7) (T := TX7) (N := 13) hx hb hts awsX70 hown hK hG 0 rfl rfl 0 (by decide) (hts _ hq) (fun x h => h) rfl hdg kk

theorem getMs (hx : p.tables.exec = Jvm.exec) (hb : c.code = cc) (hts : ∀ w ∈ AW, w.before args s = true) (hown : s.vm.findClass own = some m.cls) (hK : Kn D s) (hG : Md D o P S V T F h H) (hq : Cond.fieldLink own idx RX7 "spare" "[I" ∈ AW) (hdg : decode cc pc = .ok (.getfield idx, 3))
    (kk : W p l e R s m args below meth c H locs cells slots Q (F0 m (pc + 3) ls (.ref (o + 2) :: rest))) : W p l e R s m args below meth c H locs cells slots Q (F0 m pc ls (.ref o :: rest)) :=
  va_get (ci := 7) (C := RX7) (T := TX7) (N := 13) hx hb hts awsX70 hown hK hG 0 rfl rfl 1 (by decide) (hts _ hq) (fun x h => h) rfl hdg kk

theorem getMv (hx : p.tables.exec = Jvm.exec) (hb : c.code = cc) (hts : ∀ w ∈ AW, w.before args s = true) (hown : s.vm.findClass own = some m.cls) (hK : Kn D s) (hG : Md D o P S V T F h H) (hq : Cond.fieldLink own idx RX7 "saved" "[I" ∈ AW) (hdg : decode cc pc = .ok (.getfield idx, 3))
    (kk : W p l e R s m args below meth c H locs cells slots Q (F0 m (pc + 3) ls (.ref (o + 3) :: rest))) : W p l e R s m args below meth c H locs cells slots Q (F0 m pc ls (.ref o :: rest)) :=
  va_get (ci := 7) (C := RX7) (T := TX7) (N := 13) hx hb hts awsX70 hown hK hG 0 rfl rfl 2 (by decide) (hts _ hq) (fun x h => h) rfl hdg kk

theorem getMt (hx : p.tables.exec = Jvm.exec) (hb : c.code = cc) (hts : ∀ w ∈ AW, w.before args s = true) (hown : s.vm.findClass own = some m.cls) (hK : Kn D s) (hG : Md D o P S V T F h H) (hq : Cond.fieldLink own idx RX7 "text" "[I" ∈ AW) (hdg : decode cc pc = .ok (.getfield idx, 3))
    (kk : W p l e R s m args below meth c H locs cells slots Q (F0 m (pc + 3) ls (.ref (o + 4) :: rest))) : W p l e R s m args below meth c H locs cells slots Q (F0 m pc ls (.ref o :: rest)) :=
  va_get (ci := 7) (C := RX7) (T := TX7) (N := 13) hx hb hts awsX70 hown hK hG 0 rfl rfl 4 (by decide) (hts _ hq) (fun x h => h) rfl hdg kk

theorem aldMm {k : Nat} (hx : p.tables.exec = Jvm.exec) (hb : c.code = cc) (hK : Kn D s) (hG : Md D o P S V T F h H) (hk : k < 241) (hdg : decode cc pc = .ok (.iaload, 1))
    (kk : W p l e R s m args below meth c H locs cells slots Q (F0 m (pc + 1) ls (.int (P k) :: rest))) : W p l e R s m args below meth c H locs cells slots Q (F0 m pc ls (.int (nI k) :: .ref (o + 1) :: rest)) :=
  va_iald hx hb hK hG 1 0 rfl rfl (vp_in_nI hk (by decide)) hdg (by rw [nI_clamp (by omega)]; exact kk)
theorem astMm {k : Nat} {v : Int32} (hx : p.tables.exec = Jvm.exec) (hb : c.code = cc) (hK : Kn D s) (hG : Md D o P S V T F h H) (hS : va_S A H0 H locs) (hA : ∀ q, inM o q → A q) (hk : k < 241) (hdg : decode cc pc = .ok (.iastore, 1))
    (kk : ∀ (H1 : Heap) (locs1 : List Loc), Md D o (upd P k v) S V T F h H1 → va_S A H0 H1 locs1 → W p l e R s m args below meth c H1 locs1 cells slots Q (F0 m (pc + 1) ls rest)) : W p l e R s m args below meth c H locs cells slots Q (F0 m pc ls (.int v :: .int (nI k) :: .ref (o + 1) :: rest)) :=
  va_iast hx hb hK hG (mL_D hA) hS 1 0 rfl rfl (vp_in_nI hk (by decide)) hdg (fun H1 locs1 hP _ hS1 => kk H1 locs1 (by rw [nI_clamp (by omega)] at hP; exact hP) hS1)

theorem aldMs {k : Nat} (hx : p.tables.exec = Jvm.exec) (hb : c.code = cc) (hK : Kn D s) (hG : Md D o P S V T F h H) (hk : k < 241) (hdg : decode cc pc = .ok (.iaload, 1))
    (kk : W p l e R s m args below meth c H locs cells slots Q (F0 m (pc + 1) ls (.int (S k) :: rest))) : W p l e R s m args below meth c H locs cells slots Q (F0 m pc ls (.int (nI k) :: .ref (o + 2) :: rest)) :=
  va_iald hx hb hK hG 2 0 rfl rfl (vp_in_nI hk (by decide)) hdg (by rw [nI_clamp (by omega)]; exact kk)
theorem astMs {k : Nat} {v : Int32} (hx : p.tables.exec = Jvm.exec) (hb : c.code = cc) (hK : Kn D s) (hG : Md D o P S V T F h H) (hS : va_S A H0 H locs) (hA : ∀ q, inM o q → A q) (hk : k < 241) (hdg : decode cc pc = .ok (.iastore, 1))
    (kk : ∀ (H1 : Heap) (locs1 : List Loc), Md D o P (upd S k v) V T F h H1 → va_S A H0 H1 locs1 → W p l e R s m args below meth c H1 locs1 cells slots Q (F0 m (pc + 1) ls rest)) : W p l e R s m args below meth c H locs cells slots Q (F0 m pc ls (.int v :: .int (nI k) :: .ref (o + 2) :: rest)) :=
  va_iast hx hb hK hG (mL_D hA) hS 2 0 rfl rfl (vp_in_nI hk (by decide)) hdg (fun H1 locs1 hP _ hS1 => kk H1 locs1 (by rw [nI_clamp (by omega)] at hP; exact hP) hS1)

theorem aldMv {k : Nat} (hx : p.tables.exec = Jvm.exec) (hb : c.code = cc) (hK : Kn D s) (hG : Md D o P S V T F h H) (hk : k < 964) (hdg : decode cc pc = .ok (.iaload, 1))
    (kk : W p l e R s m args below meth c H locs cells slots Q (F0 m (pc + 1) ls (.int (V k) :: rest))) : W p l e R s m args below meth c H locs cells slots Q (F0 m pc ls (.int (nI k) :: .ref (o + 3) :: rest)) :=
  va_iald hx hb hK hG 3 0 rfl rfl (vp_in_nI hk (by decide)) hdg (by rw [nI_clamp (by omega)]; exact kk)
theorem astMv {k : Nat} {v : Int32} (hx : p.tables.exec = Jvm.exec) (hb : c.code = cc) (hK : Kn D s) (hG : Md D o P S V T F h H) (hS : va_S A H0 H locs) (hA : ∀ q, inM o q → A q) (hk : k < 964) (hdg : decode cc pc = .ok (.iastore, 1))
    (kk : ∀ (H1 : Heap) (locs1 : List Loc), Md D o P S (upd V k v) T F h H1 → va_S A H0 H1 locs1 → W p l e R s m args below meth c H1 locs1 cells slots Q (F0 m (pc + 1) ls rest)) : W p l e R s m args below meth c H locs cells slots Q (F0 m pc ls (.int v :: .int (nI k) :: .ref (o + 3) :: rest)) :=
  va_iast hx hb hK hG (mL_D hA) hS 3 0 rfl rfl (vp_in_nI hk (by decide)) hdg (fun H1 locs1 hP _ hS1 => kk H1 locs1 (by rw [nI_clamp (by omega)] at hP; exact hP) hS1)

theorem aldMt {k : Nat} (hx : p.tables.exec = Jvm.exec) (hb : c.code = cc) (hK : Kn D s) (hG : Md D o P S V T F h H) (hk : k < 150) (hdg : decode cc pc = .ok (.iaload, 1))
    (kk : W p l e R s m args below meth c H locs cells slots Q (F0 m (pc + 1) ls (.int (T k) :: rest))) : W p l e R s m args below meth c H locs cells slots Q (F0 m pc ls (.int (nI k) :: .ref (o + 4) :: rest)) :=
  va_iald hx hb hK hG 4 0 rfl rfl (vp_in_nI hk (by decide)) hdg (by rw [nI_clamp (by omega)]; exact kk)
theorem astMt {k : Nat} {v : Int32} (hx : p.tables.exec = Jvm.exec) (hb : c.code = cc) (hK : Kn D s) (hG : Md D o P S V T F h H) (hS : va_S A H0 H locs) (hA : ∀ q, inM o q → A q) (hk : k < 150) (hdg : decode cc pc = .ok (.iastore, 1))
    (kk : ∀ (H1 : Heap) (locs1 : List Loc), Md D o P S V (upd T k v) F h H1 → va_S A H0 H1 locs1 → W p l e R s m args below meth c H1 locs1 cells slots Q (F0 m (pc + 1) ls rest)) : W p l e R s m args below meth c H locs cells slots Q (F0 m pc ls (.int v :: .int (nI k) :: .ref (o + 4) :: rest)) :=
  va_iast hx hb hK hG (mL_D hA) hS 4 0 rfl rfl (vp_in_nI hk (by decide)) hdg (fun H1 locs1 hP _ hS1 => kk H1 locs1 (by rw [nI_clamp (by omega)] at hP; exact hP) hS1)

/-! numbers that are indices -/
theorem iaddN {a b : Nat} (hx : p.tables.exec = Jvm.exec) (hb : c.code = cc) (hdg : decode cc pc = .ok (.iadd, 1)) (kk : W p l e R s m args below meth c H locs cells slots Q (F0 m (pc + 1) ls (.int (nI (a + b)) :: rest))) : W p l e R s m args below meth c H locs cells slots Q (F0 m pc ls (.int (nI b) :: .int (nI a) :: rest)) :=
  lv_iadd hx hb hdg (by rw [nI_add]; exact kk)
theorem imulN {a b : Nat} (hx : p.tables.exec = Jvm.exec) (hb : c.code = cc) (hdg : decode cc pc = .ok (.imul, 1)) (kk : W p l e R s m args below meth c H locs cells slots Q (F0 m (pc + 1) ls (.int (nI (a * b)) :: rest))) : W p l e R s m args below meth c H locs cells slots Q (F0 m pc ls (.int (nI b) :: .int (nI a) :: rest)) :=
  lv_imul hx hb hdg (by rw [pk_mul]; exact kk)
theorem isubN {a b : Nat} (hle : b ≤ a) (hx : p.tables.exec = Jvm.exec) (hb : c.code = cc) (hdg : decode cc pc = .ok (.isub, 1)) (kk : W p l e R s m args below meth c H locs cells slots Q (F0 m (pc + 1) ls (.int (nI (a - b)) :: rest))) : W p l e R s m args below meth c H locs cells slots Q (F0 m pc ls (.int (nI b) :: .int (nI a) :: rest)) :=
  lv_isub hx hb hdg (by rw [pk_sub hle]; exact kk)
theorem topN {x : Int32} {n : Nat} (hn : x = nI n) (kk : W p l e R s m args below meth c H locs cells slots Q (F0 m pc ls (.int (nI n) :: rest))) : W p l e R s m args below meth c H locs cells slots Q (F0 m pc ls (.int x :: rest)) := by
  rw [hn]; exact kk
theorem topE {x y : Int32} (hn : x = y) (kk : W p l e R s m args below meth c H locs cells slots Q (F0 m pc ls (.int y :: rest))) : W p l e R s m args below meth c H locs cells slots Q (F0 m pc ls (.int x :: rest)) := by
  rw [hn]; exact kk
end MR
/-- nothing that was there is written -/
def noA : Nat → Prop := fun _ => False
/-- a street's priority, as a number; that it is one of three -/
def pr (P : Nat → Int32) (i : Nat) : Nat := (P (9 + 8 * i + 1)).toNatClampNeg
def okR (P : Nat → Int32) (i : Nat) : Prop := P (9 + 8 * i + 1) = nI (pr P i) ∧ pr P i < 3
/-- streets, plows, as numbers -/
def ns (P : Nat → Int32) : Nat := (P 1).toNatClampNeg
def np (P : Nat → Int32) : Nat := (P 2).toNatClampNeg
def okN (P : Nat → Int32) : Prop := P 1 = nI (ns P) ∧ ns P ≤ 20 ∧ P 2 = nI (np P) ∧ np P ≤ 3
/-- a plow's places, its place, the street at a place -/
def nc (P : Nat → Int32) (q : Nat) : Nat := (P (169 + 20 * q + 3)).toNatClampNeg
def pa (P : Nat → Int32) (q : Nat) : Nat := (P (169 + 20 * q + 4)).toNatClampNeg
def rt (P : Nat → Int32) (q j : Nat) : Nat := (P (169 + 20 * q + 8 + j)).toNatClampNeg
/-- a plow with a route can work -/
def okW (P : Nat → Int32) (q : Nat) : Prop := P (169 + 20 * q + 3) = nI (nc P q) ∧ nc P q ≤ 12 ∧ P (169 + 20 * q + 4) = nI (pa P q) ∧ pa P q < nc P q ∧ ∀ j, j < nc P q → P (169 + 20 * q + 8 + j) = nI (rt P q j) ∧ rt P q j < 20 ∧ okR P (rt P q j)
