/-! The weather text's object and its four arrays, five cells from t on: bytes Y, temperatures X, snows U, hours Z; F k its int field k (1 length, 5 itemCount, 6 at, 7 error). -/
def txF (F : Nat → Int32) (t : Nat) : List Value := [.ref (t + 1), .int (F 1), .ref (t + 2), .ref (t + 3), .ref (t + 4), .int (F 5), .int (F 6), .int (F 7)]
def xL (D : va_G) (t : Nat) (Y X U Z F : Nat → Int32) : va_W := [(t, .inr (5, txF F t)), (t + 1, .inl (D.1 100, 150, .inl Y)), (t + 2, .inl (D.1 100, 38, .inl X)), (t + 3, .inl (D.1 100, 38, .inl U)), (t + 4, .inl (D.1 100, 38, .inl Z))]
def Tx (D : va_G) (t : Nat) (Y X U Z F : Nat → Int32) (H : Heap) : Prop := va_P D vwCl (xL D t Y X U Z F) H
def inT (t : Nat) : Nat → Prop := fun q => t ≤ q ∧ q < t + 5
theorem xL_D {D : va_G} {t : Nat} {Y X U Z F : Nat → Int32} {A : Nat → Prop} (hA : ∀ q, inT t q → A q) : va_D A (xL D t Y X U Z F) := by
  have key : ∀ (k : Nat) (q : Nat × va_E), (xL D t Y X U Z F)[k]? = some q → k < 5 ∧ q.1 = t + k := by
    intro k q hk
    match k, hk with
    | 0, hk => cases hk; exact ⟨by decide, rfl⟩
    | 1, hk => cases hk; exact ⟨by decide, rfl⟩
    | 2, hk => cases hk; exact ⟨by decide, rfl⟩
    | 3, hk => cases hk; exact ⟨by decide, rfl⟩
    | 4, hk => cases hk; exact ⟨by decide, rfl⟩
    | k + 5, hk => simp [xL] at hk
  refine ⟨fun i j p q hi hj hpq => ?_, fun k q hk => ?_⟩
  · have h1 := (key i p hi).2
    have h2 := (key j q hj).2
    omega
  · obtain ⟨h1, h2⟩ := key k q hk
    rw [h2]
    exact hA _ ⟨Nat.le_add_right _ _, by show t + k < t + 5; omega⟩
theorem Tx.kept {D : va_G} {t : Nat} {Y X U Z F : Nat → Int32} {H H1 : Heap} (hM : Tx D t Y X U Z F H) (hq : ∀ q, inT t q → H1[q]? = H[q]?) : Tx D t Y X U Z F H1 := va_P.kept hM (fun k q hk => hq _ ((xL_D (A := inT t) (fun _ h => h)).2 k q hk))
theorem Tx.lt {D : va_G} {t : Nat} {Y X U Z F : Nat → Int32} {H : Heap} (hM : Tx D t Y X U Z F H) {q : Nat} (hq : inT t q) : q < H.size := by
  obtain ⟨h1, h2⟩ := hq
  rcases (show q = t ∨ q = t + 1 ∨ q = t + 2 ∨ q = t + 3 ∨ q = t + 4 by omega) with rfl | rfl | rfl | rfl | rfl
  · exact (hM 0 _ rfl).lt
  · exact (hM 1 _ rfl).lt
  · exact (hM 2 _ rfl).lt
  · exact (hM 3 _ rfl).lt
  · exact (hM 4 _ rfl).lt
theorem txF_set {F : Nat → Int32} {t k : Nat} {v : Int32} (hk : k = 1 ∨ k = 5 ∨ k = 6 ∨ k = 7) : (txF F t).set k (.int v) = txF (upd F k v) t := by
  rcases hk with rfl | rfl | rfl | rfl <;> simp [txF, upd]
theorem txF_get {F : Nat → Int32} {t k : Nat} (hk : k = 1 ∨ k = 5 ∨ k = 6 ∨ k = 7) : (txF F t)[k]? = some (.int (F k)) := by
  rcases hk with rfl | rfl | rfl | rfl <;> rfl
section XR
variable {p : Program} {l : Launch} {e : Env} {R : Room} {s : State} {m : MethodId} {args : Array Value} {below : List Frame} {meth : Method} {c : Code} {H : Heap} {locs : List Loc} {cells slots : Nat} {Q : State → Prop}
variable {cc : ByteArray} {pc : Nat} {ls : Array Slot} {rest : List Value} {D : va_G} {A : Nat → Prop} {t : Nat} {Y X U Z F : Nat → Int32} {H0 : Heap} {own : String} {idx : Nat}
theorem Tx.recv (hK : Kn D s) (hG : Tx D t Y X U Z F H) : ∃ cellB : Cell, H[t]? = some cellB ∧ cellB.vm.isStatics = false ∧ s.vm.findClass RX5 = some cellB.cls := va_recv hK hG (ci := 5) (q0 := 0) rfl rfl
theorem getX (k : Nat) (hx : p.tables.exec = Jvm.exec) (hb : c.code = cc) (hts : ∀ w ∈ AW, w.before args s = true) (hown : s.vm.findClass own = some m.cls) (hK : Kn D s) (hG : Tx D t Y X U Z F H) (hk : k = 1 ∨ k = 5 ∨ k = 6 ∨ k = 7) (hq : Cond.fieldLink own idx RX5 (TX5 k).2.1 (TX5 k).2.2.1 ∈ AW) (hc : TX5 k = (RX5, (TX5 k).2.1, (TX5 k).2.2.1, (TX5 k).2.2.2)) (hdg : decode cc pc = .ok (.getfield idx, 3))
    (kk : W p l e R s m args below meth c H locs cells slots Q (F0 m (pc + 3) ls (.int (F k) :: rest))) : W p l e R s m args below meth c H locs cells slots Q (F0 m pc ls (.ref t :: rest)) :=
  va_get (ci := 5) (C := RX5) (T := TX5) (N := 8) hx hb hts awsX50 hown hK hG 0 rfl rfl k (by omega) (hts _ hq) (fun x h => by rw [hc] at h; exact h) (txF_get hk) hdg kk
theorem putX (k : Nat) {v : Int32} (hx : p.tables.exec = Jvm.exec) (hb : c.code = cc) (hts : ∀ w ∈ AW, w.before args s = true) (hown : s.vm.findClass own = some m.cls) (hK : Kn D s) (hG : Tx D t Y X U Z F H) (hS : va_S A H0 H locs) (hA : ∀ q, inT t q → A q) (hk : k = 1 ∨ k = 5 ∨ k = 6 ∨ k = 7) (hq : Cond.fieldLink own idx RX5 (TX5 k).2.1 (TX5 k).2.2.1 ∈ AW) (hc : TX5 k = (RX5, (TX5 k).2.1, "I", false)) (hdg : decode cc pc = .ok (.putfield idx, 3))
    (kk : ∀ (H1 : Heap) (locs1 : List Loc), Tx D t Y X U Z (upd F k v) H1 → va_S A H0 H1 locs1 → W p l e R s m args below meth c H1 locs1 cells slots Q (F0 m (pc + 3) ls rest)) : W p l e R s m args below meth c H locs cells slots Q (F0 m pc ls (.int v :: .ref t :: rest)) :=
  va_put (ci := 5) (C := RX5) (T := TX5) (N := 8) hx hb hts awsX50 tyX5 tyX5_ok nmX5 hown hK hG (xL_D hA) hS 0 rfl rfl k (by omega) (hts _ hq) (fun x h => by rw [hc] at h ⊢; exact h) (by rw [hc]) (ty := .int) (by rw [hc]; exact pfd_I) rfl rfl (by simp [txF]; omega) hdg (fun H1 locs1 hP _ hS1 => kk H1 locs1 (by rw [txF_set hk] at hP; exact hP) hS1)
theorem getXb (hx : p.tables.exec = Jvm.exec) (hb : c.code = cc) (hts : ∀ w ∈ AW, w.before args s = true) (hown : s.vm.findClass own = some m.cls) (hK : Kn D s) (hG : Tx D t Y X U Z F H) (hq : Cond.fieldLink own idx RX5 "bytes" "[I" ∈ AW) (hdg : decode cc pc = .ok (.getfield idx, 3))
    (kk : W p l e R s m args below meth c H locs cells slots Q (F0 m (pc + 3) ls (.ref (t + 1) :: rest))) : W p l e R s m args below meth c H locs cells slots Q (F0 m pc ls (.ref t :: rest)) :=
  va_get (ci := 5) (C := RX5) (T := TX5) (N := 8) hx hb hts awsX50 hown hK hG 0 rfl rfl 0 (by decide) (hts _ hq) (fun x h => h) rfl hdg kk
theorem aldXb {k : Nat} (hx : p.tables.exec = Jvm.exec) (hb : c.code = cc) (hK : Kn D s) (hG : Tx D t Y X U Z F H) (hk : k < 150) (hdg : decode cc pc = .ok (.iaload, 1))
    (kk : W p l e R s m args below meth c H locs cells slots Q (F0 m (pc + 1) ls (.int (Y k) :: rest))) : W p l e R s m args below meth c H locs cells slots Q (F0 m pc ls (.int (nI k) :: .ref (t + 1) :: rest)) :=
  va_iald hx hb hK hG 1 0 rfl rfl (vp_in_nI hk (by decide)) hdg (by rw [nI_clamp (by omega)]; exact kk)
theorem astXb {k : Nat} {v : Int32} (hx : p.tables.exec = Jvm.exec) (hb : c.code = cc) (hK : Kn D s) (hG : Tx D t Y X U Z F H) (hS : va_S A H0 H locs) (hA : ∀ q, inT t q → A q) (hk : k < 150) (hdg : decode cc pc = .ok (.iastore, 1))
    (kk : ∀ (H1 : Heap) (locs1 : List Loc), Tx D t (upd Y k v) X U Z F H1 → va_S A H0 H1 locs1 → W p l e R s m args below meth c H1 locs1 cells slots Q (F0 m (pc + 1) ls rest)) : W p l e R s m args below meth c H locs cells slots Q (F0 m pc ls (.int v :: .int (nI k) :: .ref (t + 1) :: rest)) :=
  va_iast hx hb hK hG (xL_D hA) hS 1 0 rfl rfl (vp_in_nI hk (by decide)) hdg (fun H1 locs1 hP _ hS1 => kk H1 locs1 (by rw [nI_clamp (by omega)] at hP; exact hP) hS1)
theorem getXt (hx : p.tables.exec = Jvm.exec) (hb : c.code = cc) (hts : ∀ w ∈ AW, w.before args s = true) (hown : s.vm.findClass own = some m.cls) (hK : Kn D s) (hG : Tx D t Y X U Z F H) (hq : Cond.fieldLink own idx RX5 "temperatures" "[I" ∈ AW) (hdg : decode cc pc = .ok (.getfield idx, 3))
    (kk : W p l e R s m args below meth c H locs cells slots Q (F0 m (pc + 3) ls (.ref (t + 2) :: rest))) : W p l e R s m args below meth c H locs cells slots Q (F0 m pc ls (.ref t :: rest)) :=
  va_get (ci := 5) (C := RX5) (T := TX5) (N := 8) hx hb hts awsX50 hown hK hG 0 rfl rfl 2 (by decide) (hts _ hq) (fun x h => h) rfl hdg kk
theorem aldXt {k : Nat} (hx : p.tables.exec = Jvm.exec) (hb : c.code = cc) (hK : Kn D s) (hG : Tx D t Y X U Z F H) (hk : k < 38) (hdg : decode cc pc = .ok (.iaload, 1))
    (kk : W p l e R s m args below meth c H locs cells slots Q (F0 m (pc + 1) ls (.int (X k) :: rest))) : W p l e R s m args below meth c H locs cells slots Q (F0 m pc ls (.int (nI k) :: .ref (t + 2) :: rest)) :=
  va_iald hx hb hK hG 2 0 rfl rfl (vp_in_nI hk (by decide)) hdg (by rw [nI_clamp (by omega)]; exact kk)
theorem astXt {k : Nat} {v : Int32} (hx : p.tables.exec = Jvm.exec) (hb : c.code = cc) (hK : Kn D s) (hG : Tx D t Y X U Z F H) (hS : va_S A H0 H locs) (hA : ∀ q, inT t q → A q) (hk : k < 38) (hdg : decode cc pc = .ok (.iastore, 1))
    (kk : ∀ (H1 : Heap) (locs1 : List Loc), Tx D t Y (upd X k v) U Z F H1 → va_S A H0 H1 locs1 → W p l e R s m args below meth c H1 locs1 cells slots Q (F0 m (pc + 1) ls rest)) : W p l e R s m args below meth c H locs cells slots Q (F0 m pc ls (.int v :: .int (nI k) :: .ref (t + 2) :: rest)) :=
  va_iast hx hb hK hG (xL_D hA) hS 2 0 rfl rfl (vp_in_nI hk (by decide)) hdg (fun H1 locs1 hP _ hS1 => kk H1 locs1 (by rw [nI_clamp (by omega)] at hP; exact hP) hS1)
theorem getXs (hx : p.tables.exec = Jvm.exec) (hb : c.code = cc) (hts : ∀ w ∈ AW, w.before args s = true) (hown : s.vm.findClass own = some m.cls) (hK : Kn D s) (hG : Tx D t Y X U Z F H) (hq : Cond.fieldLink own idx RX5 "snows" "[I" ∈ AW) (hdg : decode cc pc = .ok (.getfield idx, 3))
    (kk : W p l e R s m args below meth c H locs cells slots Q (F0 m (pc + 3) ls (.ref (t + 3) :: rest))) : W p l e R s m args below meth c H locs cells slots Q (F0 m pc ls (.ref t :: rest)) :=
  va_get (ci := 5) (C := RX5) (T := TX5) (N := 8) hx hb hts awsX50 hown hK hG 0 rfl rfl 3 (by decide) (hts _ hq) (fun x h => h) rfl hdg kk
theorem aldXs {k : Nat} (hx : p.tables.exec = Jvm.exec) (hb : c.code = cc) (hK : Kn D s) (hG : Tx D t Y X U Z F H) (hk : k < 38) (hdg : decode cc pc = .ok (.iaload, 1))
    (kk : W p l e R s m args below meth c H locs cells slots Q (F0 m (pc + 1) ls (.int (U k) :: rest))) : W p l e R s m args below meth c H locs cells slots Q (F0 m pc ls (.int (nI k) :: .ref (t + 3) :: rest)) :=
  va_iald hx hb hK hG 3 0 rfl rfl (vp_in_nI hk (by decide)) hdg (by rw [nI_clamp (by omega)]; exact kk)
theorem astXs {k : Nat} {v : Int32} (hx : p.tables.exec = Jvm.exec) (hb : c.code = cc) (hK : Kn D s) (hG : Tx D t Y X U Z F H) (hS : va_S A H0 H locs) (hA : ∀ q, inT t q → A q) (hk : k < 38) (hdg : decode cc pc = .ok (.iastore, 1))
    (kk : ∀ (H1 : Heap) (locs1 : List Loc), Tx D t Y X (upd U k v) Z F H1 → va_S A H0 H1 locs1 → W p l e R s m args below meth c H1 locs1 cells slots Q (F0 m (pc + 1) ls rest)) : W p l e R s m args below meth c H locs cells slots Q (F0 m pc ls (.int v :: .int (nI k) :: .ref (t + 3) :: rest)) :=
  va_iast hx hb hK hG (xL_D hA) hS 3 0 rfl rfl (vp_in_nI hk (by decide)) hdg (fun H1 locs1 hP _ hS1 => kk H1 locs1 (by rw [nI_clamp (by omega)] at hP; exact hP) hS1)
theorem getXh (hx : p.tables.exec = Jvm.exec) (hb : c.code = cc) (hts : ∀ w ∈ AW, w.before args s = true) (hown : s.vm.findClass own = some m.cls) (hK : Kn D s) (hG : Tx D t Y X U Z F H) (hq : Cond.fieldLink own idx RX5 "hours" "[I" ∈ AW) (hdg : decode cc pc = .ok (.getfield idx, 3))
    (kk : W p l e R s m args below meth c H locs cells slots Q (F0 m (pc + 3) ls (.ref (t + 4) :: rest))) : W p l e R s m args below meth c H locs cells slots Q (F0 m pc ls (.ref t :: rest)) :=
  va_get (ci := 5) (C := RX5) (T := TX5) (N := 8) hx hb hts awsX50 hown hK hG 0 rfl rfl 4 (by decide) (hts _ hq) (fun x h => h) rfl hdg kk
theorem aldXh {k : Nat} (hx : p.tables.exec = Jvm.exec) (hb : c.code = cc) (hK : Kn D s) (hG : Tx D t Y X U Z F H) (hk : k < 38) (hdg : decode cc pc = .ok (.iaload, 1))
    (kk : W p l e R s m args below meth c H locs cells slots Q (F0 m (pc + 1) ls (.int (Z k) :: rest))) : W p l e R s m args below meth c H locs cells slots Q (F0 m pc ls (.int (nI k) :: .ref (t + 4) :: rest)) :=
  va_iald hx hb hK hG 4 0 rfl rfl (vp_in_nI hk (by decide)) hdg (by rw [nI_clamp (by omega)]; exact kk)
theorem astXh {k : Nat} {v : Int32} (hx : p.tables.exec = Jvm.exec) (hb : c.code = cc) (hK : Kn D s) (hG : Tx D t Y X U Z F H) (hS : va_S A H0 H locs) (hA : ∀ q, inT t q → A q) (hk : k < 38) (hdg : decode cc pc = .ok (.iastore, 1))
    (kk : ∀ (H1 : Heap) (locs1 : List Loc), Tx D t Y X U (upd Z k v) F H1 → va_S A H0 H1 locs1 → W p l e R s m args below meth c H1 locs1 cells slots Q (F0 m (pc + 1) ls rest)) : W p l e R s m args below meth c H locs cells slots Q (F0 m pc ls (.int v :: .int (nI k) :: .ref (t + 4) :: rest)) :=
  va_iast hx hb hK hG (xL_D hA) hS 4 0 rfl rfl (vp_in_nI hk (by decide)) hdg (fun H1 locs1 hP _ hS1 => kk H1 locs1 (by rw [nI_clamp (by omega)] at hP; exact hP) hS1)
end XR
