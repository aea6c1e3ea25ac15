/-! The class's whole world, 206 cells from r on: SnowRounds, its contract (page C), its trial (E), the saved states (slot i: L i, n of them held), the text. -/
theorem va_P_l {D : va_G} {cl : List vw_C} {a b : va_W} {H : Heap} (h : va_P D cl (a ++ b) H) : va_P D cl a H := fun k q hk => h k q (by rw [List.getElem?_append_left (List.getElem?_eq_some_iff.mp hk).1]; exact hk)
theorem va_P_r {D : va_G} {cl : List vw_C} {a b : va_W} {H : Heap} (h : va_P D cl (a ++ b) H) : va_P D cl b H := fun k q hk => h (a.length + k) q (by rw [List.getElem?_append_right (Nat.le_add_right _ _), Nat.add_sub_cancel_left]; exact hk)
/-- a stretch of cells -/
def spn (b n : Nat) (ws : va_W) : Prop := ws.length = n ∧ ∀ (k : Nat) (q : Nat × va_E), ws[k]? = some q → q.1 = b + k
theorem spn.app {b n m : Nat} {w1 w2 : va_W} (h1 : spn b n w1) (h2 : spn (b + n) m w2) : spn b (n + m) (w1 ++ w2) := by
  refine ⟨by rw [List.length_append, h1.1, h2.1], fun k q hk => ?_⟩
  by_cases h : k < w1.length
  · rw [List.getElem?_append_left h] at hk
    exact h1.2 k q hk
  · rw [List.getElem?_append_right (by omega)] at hk
    have := h2.2 _ q hk
    have := h1.1
    omega
theorem spn.lt {b n k : Nat} {ws : va_W} {q : Nat × va_E} (h : spn b n ws) (hk : ws[k]? = some q) : k < n := by
  have := (List.getElem?_eq_some_iff.mp hk).1
  have := h.1
  omega
theorem spn.D {b n : Nat} {ws : va_W} {A : Nat → Prop} (h : spn b n ws) (hA : ∀ q, b ≤ q → q < b + n → A q) : va_D A ws := by
  refine ⟨fun i j p q hi hj e => ?_, fun k q hk => ?_⟩
  · have := h.2 i p hi
    have := h.2 j q hj
    omega
  · have h1 := h.2 k q hk
    have h2 := h.lt hk
    exact hA _ (by omega) (by omega)
theorem spn.in {b n q : Nat} {ws : va_W} {D : va_G} {cl : List vw_C} {H : Heap} (h : spn b n ws) (hP : va_P D cl ws H) (h1 : b ≤ q) (h2 : q < b + n) : q < H.size := by
  have hl : q - b < ws.length := by rw [h.1]; omega
  have hk := List.getElem?_eq_getElem hl
  have h3 := (hP _ _ hk).lt
  have h4 := h.2 _ _ hk
  omega
theorem spn.kept {b n : Nat} {ws : va_W} {D : va_G} {cl : List vw_C} {H H1 : Heap} (h : spn b n ws) (hP : va_P D cl ws H) (hq : ∀ q, b ≤ q → q < b + n → H1[q]? = H[q]?) : va_P D cl ws H1 := va_P.kept hP (fun k q hk => by
  have h1 := h.2 k q hk
  have h2 := h.lt hk
  exact hq _ (by omega) (by omega))
theorem gL_spn {D : va_G} {b : Nat} {P : Nat → Int32} : spn b 33 (gL D b P) := ⟨by simp [gL], fun k q hk => by
  obtain ⟨-, rfl⟩ := gL_lt hk
  rfl⟩
theorem xL_spn {D : va_G} {t : Nat} {Y X U Z F : Nat → Int32} : spn t 5 (xL D t Y X U Z F) := by
  refine ⟨rfl, fun k q hk => ?_⟩
  match k, hk with
  | 0, hk => cases hk; rfl
  | 1, hk => cases hk; rfl
  | 2, hk => cases hk; rfl
  | 3, hk => cases hk; rfl
  | 4, hk => cases hk; rfl
  | k + 5, hk => simp [xL] at hk
def vA (v : Nat) (g : Nat → Nat) : Nat → Option Nat := fun i => if i < 4 then some (v + 2 + 33 * g i) else none
/-- the saved states: slot i stands at place g i -/
def vH (D : va_G) (v : Nat) (g : Nat → Nat) (n : Nat) : va_W := [(v, .inr (2, [.ref (v + 1), .int (nI n)])), (v + 1, .inl (D.1 104, 4, .inr (.inr (.inr (.inr (vA v g))))))]
def vL (D : va_G) (v : Nat) (g : Nat → Nat) (N : Nat → Nat → Int32) (n : Nat) : va_W := vH D v g n ++ (gL D (v + 2) (N 0) ++ (gL D (v + 35) (N 1) ++ (gL D (v + 68) (N 2) ++ gL D (v + 101) (N 3))))
theorem vH_spn {D : va_G} {v n : Nat} {g : Nat → Nat} : spn v 2 (vH D v g n) := by
  refine ⟨rfl, fun k q hk => ?_⟩
  match k, hk with
  | 0, hk => cases hk; rfl
  | 1, hk => cases hk; rfl
  | k + 2, hk => simp [vH] at hk
theorem vL_spn {D : va_G} {v n : Nat} {g : Nat → Nat} {N : Nat → Nat → Int32} : spn v 134 (vL D v g N n) := vH_spn.app (n := 2) (m := 132) (spn.app (n := 33) (m := 99) gL_spn (spn.app (n := 33) (m := 66) gL_spn (spn.app (n := 33) (m := 33) gL_spn gL_spn)))
def sT (r : Nat) : va_W := [(r, .inr (6, [.ref (r + 1), .ref (r + 34), .ref (r + 67), .ref (r + 201)]))]
theorem sT_spn {r : Nat} : spn r 1 (sT r) := by
  refine ⟨rfl, fun k q hk => ?_⟩
  match k, hk with
  | 0, hk => cases hk; rfl
  | k + 1, hk => simp [sT] at hk
def sL (D : va_G) (r : Nat) (C E : Nat → Int32) (g : Nat → Nat) (N : Nat → Nat → Int32) (n : Nat) (Y X U Z F : Nat → Int32) : va_W := sT r ++ (gL D (r + 1) C ++ (gL D (r + 34) E ++ (vL D (r + 67) g N n ++ xL D (r + 201) Y X U Z F)))
theorem sL_spn {D : va_G} {r n : Nat} {C E : Nat → Int32} {g : Nat → Nat} {N : Nat → Nat → Int32} {Y X U Z F : Nat → Int32} : spn r 206 (sL D r C E g N n Y X U Z F) := sT_spn.app (n := 1) (m := 205) (spn.app (n := 33) (m := 172) gL_spn (spn.app (n := 33) (m := 139) gL_spn (spn.app (n := 134) (m := 5) vL_spn xL_spn)))
def inS (r : Nat) : Nat → Prop := fun q => r ≤ q ∧ q < r + 206
def Prm (g : Nat → Nat) : Prop := (∀ i, i < 4 → g i < 4) ∧ ∀ i j, i < 4 → j < 4 → g i = g j → i = j
def Sn (D : va_G) (r : Nat) (C E : Nat → Int32) (L : Nat → Nat → Int32) (n : Nat) (Y X U Z F : Nat → Int32) (H : Heap) : Prop := ∃ (g : Nat → Nat) (N : Nat → Nat → Int32), Prm g ∧ (∀ i, i < 4 → N (g i) = L i) ∧ va_P D vwCl (sL D r C E g N n Y X U Z F) H
section SW
variable {p : Program} {l : Launch} {e : Env} {R : Room} {s : State} {m : MethodId} {args : Array Value} {below : List Frame} {meth : Method} {c : Code} {H : Heap} {locs : List Loc} {cells slots : Nat} {Q : State → Prop}
variable {cc : ByteArray} {pc : Nat} {ls : Array Slot} {rest : List Value} {D : va_G} {A : Nat → Prop} {r : Nat} {C E : Nat → Int32} {L : Nat → Nat → Int32} {n : Nat} {Y X U Z F : Nat → Int32} {H0 : Heap} {own : String} {idx : Nat}
theorem Sn.d (hA : ∀ q, inS r q → A q) {g : Nat → Nat} {N : Nat → Nat → Int32} : va_D A (sL D r C E g N n Y X U Z F) := sL_spn.D (fun q h1 h2 => hA q ⟨h1, h2⟩)
theorem Sn.kept {H1 : Heap} (h : Sn D r C E L n Y X U Z F H) (hq : ∀ q, inS r q → H1[q]? = H[q]?) : Sn D r C E L n Y X U Z F H1 := by
  obtain ⟨g, N, hg, hN, hP⟩ := h
  exact ⟨g, N, hg, hN, sL_spn.kept hP (fun q h1 h2 => hq q ⟨h1, h2⟩)⟩
theorem Sn.lt (h : Sn D r C E L n Y X U Z F H) {q : Nat} (hq : inS r q) : q < H.size := by
  obtain ⟨g, N, hg, hN, hP⟩ := h
  exact sL_spn.in hP hq.1 hq.2
theorem Sn.keep (h : Sn D r C E L n Y X U Z F H) {H1 : Heap} (hz : H.size ≤ H1.size) (hq : ∀ q : Nat, q < H.size → H1[q]? = H[q]?) : Sn D r C E L n Y X U Z F H1 := h.kept (fun q h1 => hq q (h.lt h1))
theorem Sn.t (h : Sn D r C E L n Y X U Z F H) : va_P D vwCl (sT r) H := by
  obtain ⟨g, N, hg, hN, hP⟩ := h
  exact va_P_l hP
theorem Sn.gc (h : Sn D r C E L n Y X U Z F H) : Graph D (r + 1) C H := by
  obtain ⟨g, N, hg, hN, hP⟩ := h
  exact va_P_l (va_P_r hP)
theorem Sn.ge (h : Sn D r C E L n Y X U Z F H) : Graph D (r + 34) E H := by
  obtain ⟨g, N, hg, hN, hP⟩ := h
  exact va_P_l (va_P_r (va_P_r hP))
theorem Sn.x (h : Sn D r C E L n Y X U Z F H) : Tx D (r + 201) Y X U Z F H := by
  obtain ⟨g, N, hg, hN, hP⟩ := h
  exact va_P_r (va_P_r (va_P_r (va_P_r hP)))
theorem Sn.mk {g : Nat → Nat} {N : Nat → Nat → Int32} (hg : Prm g) (hN : ∀ i, i < 4 → N (g i) = L i) (h0 : va_P D vwCl (sT r) H) (h1 : Graph D (r + 1) C H) (h2 : Graph D (r + 34) E H) (h3 : va_P D vwCl (vL D (r + 67) g N n) H) (h4 : Tx D (r + 201) Y X U Z F H) : Sn D r C E L n Y X U Z F H := ⟨g, N, hg, hN, h0.app (va_P.app h1 (va_P.app h2 (va_P.app h3 h4)))⟩
theorem Sn.setC {C' : Nat → Int32} {H1 : Heap} (h : Sn D r C E L n Y X U Z F H) (hc : Graph D (r + 1) C' H1) (hq : ∀ q : Nat, q < H.size → ¬ inG (r + 1) q → H1[q]? = H[q]?) : Sn D r C' E L n Y X U Z F H1 := by
  have hlt : ∀ q, inS r q → q < H.size := fun q h1 => h.lt h1
  obtain ⟨g, N, hg, hN, hP⟩ := h
  have hk : ∀ q, inS r q → ¬ inG (r + 1) q → H1[q]? = H[q]? := fun q h1 h2 => hq q (hlt q h1) h2
  refine Sn.mk hg hN (sT_spn.kept (va_P_l hP) (fun q h1 h2 => hk q ?_ ?_)) hc (gL_spn.kept (va_P_l (va_P_r (va_P_r hP))) (fun q h1 h2 => hk q ?_ ?_)) (vL_spn.kept (va_P_l (va_P_r (va_P_r (va_P_r hP)))) (fun q h1 h2 => hk q ?_ ?_)) (xL_spn.kept (va_P_r (va_P_r (va_P_r (va_P_r hP)))) (fun q h1 h2 => hk q ?_ ?_)) <;> first | (unfold inS; omega) | (unfold inG; omega)
theorem Sn.setE {E' : Nat → Int32} {H1 : Heap} (h : Sn D r C E L n Y X U Z F H) (hc : Graph D (r + 34) E' H1) (hq : ∀ q : Nat, q < H.size → ¬ inG (r + 34) q → H1[q]? = H[q]?) : Sn D r C E' L n Y X U Z F H1 := by
  have hlt : ∀ q, inS r q → q < H.size := fun q h1 => h.lt h1
  obtain ⟨g, N, hg, hN, hP⟩ := h
  have hk : ∀ q, inS r q → ¬ inG (r + 34) q → H1[q]? = H[q]? := fun q h1 h2 => hq q (hlt q h1) h2
  refine Sn.mk hg hN (sT_spn.kept (va_P_l hP) (fun q h1 h2 => hk q ?_ ?_)) (gL_spn.kept (va_P_l (va_P_r hP)) (fun q h1 h2 => hk q ?_ ?_)) hc (vL_spn.kept (va_P_l (va_P_r (va_P_r (va_P_r hP)))) (fun q h1 h2 => hk q ?_ ?_)) (xL_spn.kept (va_P_r (va_P_r (va_P_r (va_P_r hP)))) (fun q h1 h2 => hk q ?_ ?_)) <;> first | (unfold inS; omega) | (unfold inG; omega)
theorem Sn.setX {Y' X' U' Z' F' : Nat → Int32} {H1 : Heap} (h : Sn D r C E L n Y X U Z F H) (hc : Tx D (r + 201) Y' X' U' Z' F' H1) (hq : ∀ q : Nat, q < H.size → ¬ inT (r + 201) q → H1[q]? = H[q]?) : Sn D r C E L n Y' X' U' Z' F' H1 := by
  have hlt : ∀ q, inS r q → q < H.size := fun q h1 => h.lt h1
  obtain ⟨g, N, hg, hN, hP⟩ := h
  have hk : ∀ q, inS r q → ¬ inT (r + 201) q → H1[q]? = H[q]? := fun q h1 h2 => hq q (hlt q h1) h2
  refine Sn.mk hg hN (sT_spn.kept (va_P_l hP) (fun q h1 h2 => hk q ?_ ?_)) (gL_spn.kept (va_P_l (va_P_r hP)) (fun q h1 h2 => hk q ?_ ?_)) (gL_spn.kept (va_P_l (va_P_r (va_P_r hP))) (fun q h1 h2 => hk q ?_ ?_)) (vL_spn.kept (va_P_l (va_P_r (va_P_r (va_P_r hP)))) (fun q h1 h2 => hk q ?_ ?_)) hc <;> first | (unfold inS; omega) | (unfold inT; omega)
theorem Sn.recv (hK : Kn D s) (hG : Sn D r C E L n Y X U Z F H) : ∃ cellB : Cell, H[r]? = some cellB ∧ cellB.vm.isStatics = false ∧ s.vm.findClass RX6 = some cellB.cls := va_recv hK hG.t (ci := 6) (q0 := 0) rfl rfl
theorem Sn.recvV (hK : Kn D s) (hG : Sn D r C E L n Y X U Z F H) : ∃ cellB : Cell, H[r + 67]? = some cellB ∧ cellB.vm.isStatics = false ∧ s.vm.findClass RX2 = some cellB.cls := by
  obtain ⟨g, N, hg, hN, hP⟩ := hG
  exact va_recv hK (va_P_l (va_P_l (va_P_r (va_P_r (va_P_r hP))))) (ci := 2) (q0 := 0) rfl rfl
theorem getQc (hx : p.tables.exec = Jvm.exec) (hb : c.code = cc) (hts : ∀ w ∈ AW, w.before args s = true) (hown : s.vm.findClass own = some m.cls) (hK : Kn D s) (hG : Sn D r C E L n Y X U Z F H) (hq : Cond.fieldLink own idx RX6 "contract" "LSnowRounds$Contract;" ∈ AW) (hdg : decode cc pc = .ok (.getfield idx, 3))
    (kk : W p l e R s m args below meth c H locs cells slots Q (F0 m (pc + 3) ls (.ref (r + 1) :: rest))) : W p l e R s m args below meth c H locs cells slots Q (F0 m pc ls (.ref r :: rest)) :=
  va_get (ci := 6) (C := RX6) (T := TX6) (N := 4) hx hb hts awsX60 hown hK hG.t 0 rfl rfl 0 (by decide) (hts _ hq) (fun x h => h) rfl hdg kk
theorem getQe (hx : p.tables.exec = Jvm.exec) (hb : c.code = cc) (hts : ∀ w ∈ AW, w.before args s = true) (hown : s.vm.findClass own = some m.cls) (hK : Kn D s) (hG : Sn D r C E L n Y X U Z F H) (hq : Cond.fieldLink own idx RX6 "trial" "LSnowRounds$Contract;" ∈ AW) (hdg : decode cc pc = .ok (.getfield idx, 3))
    (kk : W p l e R s m args below meth c H locs cells slots Q (F0 m (pc + 3) ls (.ref (r + 34) :: rest))) : W p l e R s m args below meth c H locs cells slots Q (F0 m pc ls (.ref r :: rest)) :=
  va_get (ci := 6) (C := RX6) (T := TX6) (N := 4) hx hb hts awsX60 hown hK hG.t 0 rfl rfl 1 (by decide) (hts _ hq) (fun x h => h) rfl hdg kk
theorem getQv (hx : p.tables.exec = Jvm.exec) (hb : c.code = cc) (hts : ∀ w ∈ AW, w.before args s = true) (hown : s.vm.findClass own = some m.cls) (hK : Kn D s) (hG : Sn D r C E L n Y X U Z F H) (hq : Cond.fieldLink own idx RX6 "savedStates" "LSnowRounds$SavedStates;" ∈ AW) (hdg : decode cc pc = .ok (.getfield idx, 3))
    (kk : W p l e R s m args below meth c H locs cells slots Q (F0 m (pc + 3) ls (.ref (r + 67) :: rest))) : W p l e R s m args below meth c H locs cells slots Q (F0 m pc ls (.ref r :: rest)) :=
  va_get (ci := 6) (C := RX6) (T := TX6) (N := 4) hx hb hts awsX60 hown hK hG.t 0 rfl rfl 2 (by decide) (hts _ hq) (fun x h => h) rfl hdg kk
theorem getQx (hx : p.tables.exec = Jvm.exec) (hb : c.code = cc) (hts : ∀ w ∈ AW, w.before args s = true) (hown : s.vm.findClass own = some m.cls) (hK : Kn D s) (hG : Sn D r C E L n Y X U Z F H) (hq : Cond.fieldLink own idx RX6 "text" "LSnowRounds$WeatherText;" ∈ AW) (hdg : decode cc pc = .ok (.getfield idx, 3))
    (kk : W p l e R s m args below meth c H locs cells slots Q (F0 m (pc + 3) ls (.ref (r + 201) :: rest))) : W p l e R s m args below meth c H locs cells slots Q (F0 m pc ls (.ref r :: rest)) :=
  va_get (ci := 6) (C := RX6) (T := TX6) (N := 4) hx hb hts awsX60 hown hK hG.t 0 rfl rfl 3 (by decide) (hts _ hq) (fun x h => h) rfl hdg kk
theorem getVn (hx : p.tables.exec = Jvm.exec) (hb : c.code = cc) (hts : ∀ w ∈ AW, w.before args s = true) (hown : s.vm.findClass own = some m.cls) (hK : Kn D s) (hG : Sn D r C E L n Y X U Z F H) (hq : Cond.fieldLink own idx RX2 "count" "I" ∈ AW) (hdg : decode cc pc = .ok (.getfield idx, 3))
    (kk : W p l e R s m args below meth c H locs cells slots Q (F0 m (pc + 3) ls (.int (nI n) :: rest))) : W p l e R s m args below meth c H locs cells slots Q (F0 m pc ls (.ref (r + 67) :: rest)) := by
  obtain ⟨g, N, hg, hN, hP⟩ := hG
  exact va_get (ci := 2) (C := RX2) (T := TX2) (N := 2) hx hb hts awsX20 hown hK (va_P_l (va_P_l (va_P_r (va_P_r (va_P_r hP))))) 0 rfl rfl 1 (by decide) (hts _ hq) (fun x h => h) rfl hdg kk
theorem sL_c {g : Nat → Nat} {N : Nat → Nat → Int32} {k : Nat} {q : Nat × va_E} (h : (gL D (r + 1) C)[k]? = some q) : (sL D r C E g N n Y X U Z F)[1 + k]? = some q := by
  unfold sL
  rw [List.getElem?_append_right (by rw [sT_spn.1]; omega), sT_spn.1, Nat.add_sub_cancel_left, List.getElem?_append_left (List.getElem?_eq_some_iff.mp h).1]
  exact h
theorem sL_cs {C' : Nat → Int32} {g : Nat → Nat} {N : Nat → Nat → Int32} {k : Nat} {q : Nat × va_E} (hk : k < 33) (h : (gL D (r + 1) C).set k q = gL D (r + 1) C') : (sL D r C E g N n Y X U Z F).set (1 + k) q = sL D r C' E g N n Y X U Z F := by
  unfold sL
  rw [List.set_append_right _ _ (by rw [sT_spn.1]; omega), sT_spn.1, Nat.add_sub_cancel_left, List.set_append_left _ _ (by rw [gL_spn.1]; exact hk), h]
theorem sL_e {g : Nat → Nat} {N : Nat → Nat → Int32} {k : Nat} {q : Nat × va_E} (h : (gL D (r + 34) E)[k]? = some q) : (sL D r C E g N n Y X U Z F)[34 + k]? = some q := by
  unfold sL
  rw [List.getElem?_append_right (by rw [sT_spn.1]; omega), sT_spn.1, show 34 + k - 1 = 33 + k by omega, List.getElem?_append_right (by rw [gL_spn.1]; omega), gL_spn.1, Nat.add_sub_cancel_left, List.getElem?_append_left (List.getElem?_eq_some_iff.mp h).1]
  exact h
theorem sL_es {E' : Nat → Int32} {g : Nat → Nat} {N : Nat → Nat → Int32} {k : Nat} {q : Nat × va_E} (hk : k < 33) (h : (gL D (r + 34) E).set k q = gL D (r + 34) E') : (sL D r C E g N n Y X U Z F).set (34 + k) q = sL D r C E' g N n Y X U Z F := by
  unfold sL
  rw [List.set_append_right _ _ (by rw [sT_spn.1]; omega), sT_spn.1, show 34 + k - 1 = 33 + k by omega, List.set_append_right _ _ (by rw [gL_spn.1]; omega), gL_spn.1, Nat.add_sub_cancel_left, List.set_append_left _ _ (by rw [gL_spn.1]; exact hk), h]
theorem sL_x {g : Nat → Nat} {N : Nat → Nat → Int32} {k : Nat} {q : Nat × va_E} (h : (xL D (r + 201) Y X U Z F)[k]? = some q) : (sL D r C E g N n Y X U Z F)[201 + k]? = some q := by
  unfold sL
  rw [List.getElem?_append_right (by rw [sT_spn.1]; omega), sT_spn.1, show 201 + k - 1 = 33 + (33 + (134 + k)) by omega, List.getElem?_append_right (by rw [gL_spn.1]; omega), gL_spn.1, Nat.add_sub_cancel_left, List.getElem?_append_right (by rw [gL_spn.1]; omega), gL_spn.1, Nat.add_sub_cancel_left, List.getElem?_append_right (by rw [vL_spn.1]; omega), vL_spn.1, Nat.add_sub_cancel_left]
  exact h
theorem sL_xs {Y' F' : Nat → Int32} {g : Nat → Nat} {N : Nat → Nat → Int32} {k : Nat} {q : Nat × va_E} (h : (xL D (r + 201) Y X U Z F).set k q = xL D (r + 201) Y' X U Z F') : (sL D r C E g N n Y X U Z F).set (201 + k) q = sL D r C E g N n Y' X U Z F' := by
  unfold sL
  rw [List.set_append_right _ _ (by rw [sT_spn.1]; omega), sT_spn.1, show 201 + k - 1 = 33 + (33 + (134 + k)) by omega, List.set_append_right _ _ (by rw [gL_spn.1]; omega), gL_spn.1, Nat.add_sub_cancel_left, List.set_append_right _ _ (by rw [gL_spn.1]; omega), gL_spn.1, Nat.add_sub_cancel_left, List.set_append_right _ _ (by rw [vL_spn.1]; omega), vL_spn.1, Nat.add_sub_cancel_left, h]
theorem qputCc (k j : Nat) {v : Int32} (hj : cI k = j) (hx : p.tables.exec = Jvm.exec) (hb : c.code = cc) (hts : ∀ w ∈ AW, w.before args s = true) (hown : s.vm.findClass own = some m.cls) (hK : Kn D s) (hG : Sn D r C E L n Y X U Z F H) (hS : va_S A H0 H locs) (hA : ∀ q, inS r q → A q) (hk : k < 11) (h0 : k ≠ 0) (h2 : k ≠ 2) (h4 : k ≠ 4) (hq : Cond.fieldLink own idx RX0 (TX0 k).2.1 (TX0 k).2.2.1 ∈ AW) (hc : TX0 k = (RX0, (TX0 k).2.1, "I", false)) (hdg : decode cc pc = .ok (.putfield idx, 3))
    (kk : ∀ (H1 : Heap) (locs1 : List Loc), Sn D r (upd C j v) E L n Y X U Z F H1 → va_S A H0 H1 locs1 → W p l e R s m args below meth c H1 locs1 cells slots Q (F0 m (pc + 3) ls rest)) : W p l e R s m args below meth c H locs cells slots Q (F0 m pc ls (.int v :: .ref (r + 1) :: rest)) := by
  subst hj
  obtain ⟨g, N, hg, hN, hP⟩ := hG
  exact va_put (ci := 0) (C := RX0) (T := TX0) (N := 11) hx hb hts awsX00 tyX0 tyX0_ok nmX0 hown hK hP (Sn.d hA) hS (1 + 0) (sL_c gL_0) rfl k hk (hts _ hq) (fun x h => by rw [hc] at h ⊢; exact h) (by rw [hc]) (ty := .int) (by rw [hc]; exact pfd_I) rfl rfl (by simp [cF]; omega) hdg (fun H1 locs1 hP _ hS1 => kk H1 locs1 ⟨g, N, hg, hN, by rw [sL_cs (by decide) (gL_uc hk h0 h2 h4)] at hP; exact hP⟩ hS1)
theorem qputPc (k j : Nat) {i : Nat} {v : Int32} (hj : pI k = j) (hx : p.tables.exec = Jvm.exec) (hb : c.code = cc) (hts : ∀ w ∈ AW, w.before args s = true) (hown : s.vm.findClass own = some m.cls) (hK : Kn D s) (hG : Sn D r C E L n Y X U Z F H) (hS : va_S A H0 H locs) (hA : ∀ q, inS r q → A q) (hi : i < 3) (hk : k < 9) (h3 : k ≠ 3) (hq : Cond.fieldLink own idx RX1 (TX1 k).2.1 (TX1 k).2.2.1 ∈ AW) (hc : TX1 k = (RX1, (TX1 k).2.1, "I", false)) (hdg : decode cc pc = .ok (.putfield idx, 3))
    (kk : ∀ (H1 : Heap) (locs1 : List Loc), Sn D r (upd C (169 + 20 * i + j) v) E L n Y X U Z F H1 → va_S A H0 H1 locs1 → W p l e R s m args below meth c H1 locs1 cells slots Q (F0 m (pc + 3) ls rest)) : W p l e R s m args below meth c H locs cells slots Q (F0 m pc ls (.int v :: .ref (r + 1 + 24 + 2 * i) :: rest)) := by
  subst hj
  obtain ⟨g, N, hg, hN, hP⟩ := hG
  exact va_put (ci := 1) (C := RX1) (T := TX1) (N := 9) hx hb hts awsX10 tyX1 tyX1_ok nmX1 hown hK hP (Sn.d hA) hS (1 + (24 + 2 * i)) (sL_c (gL_p hi)) rfl k hk (hts _ hq) (fun x h => by rw [hc] at h ⊢; exact h) (by rw [hc]) (ty := .int) (by rw [hc]; exact pfd_I) rfl rfl (by simp [pF]; omega) hdg (fun H1 locs1 hP _ hS1 => kk H1 locs1 ⟨g, N, hg, hN, by rw [sL_cs (by omega) (gL_up hi hk h3)] at hP; exact hP⟩ hS1)
theorem qputTc (k : Nat) {i : Nat} {v : Int32} (hx : p.tables.exec = Jvm.exec) (hb : c.code = cc) (hts : ∀ w ∈ AW, w.before args s = true) (hown : s.vm.findClass own = some m.cls) (hK : Kn D s) (hG : Sn D r C E L n Y X U Z F H) (hS : va_S A H0 H locs) (hA : ∀ q, inS r q → A q) (hi : i < 3) (hk : k < 4) (hq : Cond.fieldLink own idx RX4 (TX4 k).2.1 (TX4 k).2.2.1 ∈ AW) (hc : TX4 k = (RX4, (TX4 k).2.1, "I", false)) (hdg : decode cc pc = .ok (.putfield idx, 3))
    (kk : ∀ (H1 : Heap) (locs1 : List Loc), Sn D r (upd C (229 + 4 * i + k) v) E L n Y X U Z F H1 → va_S A H0 H1 locs1 → W p l e R s m args below meth c H1 locs1 cells slots Q (F0 m (pc + 3) ls rest)) : W p l e R s m args below meth c H locs cells slots Q (F0 m pc ls (.int v :: .ref (r + 1 + 30 + i) :: rest)) := by
  obtain ⟨g, N, hg, hN, hP⟩ := hG
  exact va_put (ci := 4) (C := RX4) (T := TX4) (N := 4) hx hb hts awsX40 tyX4 tyX4_ok nmX4 hown hK hP (Sn.d hA) hS (1 + (30 + i)) (sL_c (gL_t hi)) rfl k hk (hts _ hq) (fun x h => by rw [hc] at h ⊢; exact h) (by rw [hc]) (ty := .int) (by rw [hc]; exact pfd_I) rfl rfl (by simp [tF]; omega) hdg (fun H1 locs1 hP _ hS1 => kk H1 locs1 ⟨g, N, hg, hN, by rw [sL_cs (by omega) (gL_ut hi hk)] at hP; exact hP⟩ hS1)
theorem qastRc {i k : Nat} {v : Int32} (hx : p.tables.exec = Jvm.exec) (hb : c.code = cc) (hK : Kn D s) (hG : Sn D r C E L n Y X U Z F H) (hS : va_S A H0 H locs) (hA : ∀ q, inS r q → A q) (hi : i < 3) (hk : k < 12) (hdg : decode cc pc = .ok (.iastore, 1))
    (kk : ∀ (H1 : Heap) (locs1 : List Loc), Sn D r (upd C (169 + 20 * i + 8 + k) v) E L n Y X U Z F H1 → va_S A H0 H1 locs1 → W p l e R s m args below meth c H1 locs1 cells slots Q (F0 m (pc + 1) ls rest)) : W p l e R s m args below meth c H locs cells slots Q (F0 m pc ls (.int v :: .int (nI k) :: .ref (r + 1 + 25 + 2 * i) :: rest)) := by
  obtain ⟨g, N, hg, hN, hP⟩ := hG
  exact va_iast hx hb hK hP (Sn.d hA) hS (1 + (25 + 2 * i)) 0 (sL_c (gL_r hi)) rfl (vp_in_nI hk (by decide)) hdg (fun H1 locs1 hP _ hS1 => kk H1 locs1 ⟨g, N, hg, hN, by rw [nI_clamp (by omega), sL_cs (by omega) (gL_ur hi hk)] at hP; exact hP⟩ hS1)
theorem qputPe (k j : Nat) {i : Nat} {v : Int32} (hj : pI k = j) (hx : p.tables.exec = Jvm.exec) (hb : c.code = cc) (hts : ∀ w ∈ AW, w.before args s = true) (hown : s.vm.findClass own = some m.cls) (hK : Kn D s) (hG : Sn D r C E L n Y X U Z F H) (hS : va_S A H0 H locs) (hA : ∀ q, inS r q → A q) (hi : i < 3) (hk : k < 9) (h3 : k ≠ 3) (hq : Cond.fieldLink own idx RX1 (TX1 k).2.1 (TX1 k).2.2.1 ∈ AW) (hc : TX1 k = (RX1, (TX1 k).2.1, "I", false)) (hdg : decode cc pc = .ok (.putfield idx, 3))
    (kk : ∀ (H1 : Heap) (locs1 : List Loc), Sn D r C (upd E (169 + 20 * i + j) v) L n Y X U Z F H1 → va_S A H0 H1 locs1 → W p l e R s m args below meth c H1 locs1 cells slots Q (F0 m (pc + 3) ls rest)) : W p l e R s m args below meth c H locs cells slots Q (F0 m pc ls (.int v :: .ref (r + 34 + 24 + 2 * i) :: rest)) := by
  subst hj
  obtain ⟨g, N, hg, hN, hP⟩ := hG
  exact va_put (ci := 1) (C := RX1) (T := TX1) (N := 9) hx hb hts awsX10 tyX1 tyX1_ok nmX1 hown hK hP (Sn.d hA) hS (34 + (24 + 2 * i)) (sL_e (gL_p hi)) rfl k hk (hts _ hq) (fun x h => by rw [hc] at h ⊢; exact h) (by rw [hc]) (ty := .int) (by rw [hc]; exact pfd_I) rfl rfl (by simp [pF]; omega) hdg (fun H1 locs1 hP _ hS1 => kk H1 locs1 ⟨g, N, hg, hN, by rw [sL_es (by omega) (gL_up hi hk h3)] at hP; exact hP⟩ hS1)
theorem qputX (k : Nat) {v : Int32} (hx : p.tables.exec = Jvm.exec) (hb : c.code = cc) (hts : ∀ w ∈ AW, w.before args s = true) (hown : s.vm.findClass own = some m.cls) (hK : Kn D s) (hG : Sn D r C E L n Y X U Z F H) (hS : va_S A H0 H locs) (hA : ∀ q, inS r q → A q) (hk : k = 1 ∨ k = 5 ∨ k = 6 ∨ k = 7) (hq : Cond.fieldLink own idx RX5 (TX5 k).2.1 (TX5 k).2.2.1 ∈ AW) (hc : TX5 k = (RX5, (TX5 k).2.1, "I", false)) (hdg : decode cc pc = .ok (.putfield idx, 3))
    (kk : ∀ (H1 : Heap) (locs1 : List Loc), Sn D r C E L n Y X U Z (upd F k v) H1 → va_S A H0 H1 locs1 → W p l e R s m args below meth c H1 locs1 cells slots Q (F0 m (pc + 3) ls rest)) : W p l e R s m args below meth c H locs cells slots Q (F0 m pc ls (.int v :: .ref (r + 201) :: rest)) := by
  obtain ⟨g, N, hg, hN, hP⟩ := hG
  exact va_put (ci := 5) (C := RX5) (T := TX5) (N := 8) hx hb hts awsX50 tyX5 tyX5_ok nmX5 hown hK hP (Sn.d hA) hS (201 + 0) (sL_x rfl) rfl k (by omega) (hts _ hq) (fun x h => by rw [hc] at h ⊢; exact h) (by rw [hc]) (ty := .int) (by rw [hc]; exact pfd_I) rfl rfl (by simp [txF]; omega) hdg (fun H1 locs1 hP _ hS1 => kk H1 locs1 ⟨g, N, hg, hN, by rw [txF_set hk, sL_xs (Y' := Y) (F' := upd F k v) rfl] at hP; exact hP⟩ hS1)
theorem qastY {k : Nat} {v : Int32} (hx : p.tables.exec = Jvm.exec) (hb : c.code = cc) (hK : Kn D s) (hG : Sn D r C E L n Y X U Z F H) (hS : va_S A H0 H locs) (hA : ∀ q, inS r q → A q) (hk : k < 150) (hdg : decode cc pc = .ok (.iastore, 1))
    (kk : ∀ (H1 : Heap) (locs1 : List Loc), Sn D r C E L n (upd Y k v) X U Z F H1 → va_S A H0 H1 locs1 → W p l e R s m args below meth c H1 locs1 cells slots Q (F0 m (pc + 1) ls rest)) : W p l e R s m args below meth c H locs cells slots Q (F0 m pc ls (.int v :: .int (nI k) :: .ref (r + 201 + 1) :: rest)) := by
  obtain ⟨g, N, hg, hN, hP⟩ := hG
  exact va_iast hx hb hK hP (Sn.d hA) hS (201 + 1) 0 (sL_x rfl) rfl (vp_in_nI hk (by decide)) hdg (fun H1 locs1 hP _ hS1 => kk H1 locs1 ⟨g, N, hg, hN, by rw [nI_clamp (by omega), sL_xs (Y' := upd Y k v) (F' := F) rfl] at hP; exact hP⟩ hS1)
theorem sL_v {g : Nat → Nat} {N : Nat → Nat → Int32} {k : Nat} {q : Nat × va_E} (h : (vH D (r + 67) g n)[k]? = some q) : (sL D r C E g N n Y X U Z F)[67 + k]? = some q := by
  unfold sL
  have hv : (vL D (r + 67) g N n)[k]? = some q := by
    unfold vL
    rw [List.getElem?_append_left (List.getElem?_eq_some_iff.mp h).1]
    exact h
  rw [List.getElem?_append_right (by rw [sT_spn.1]; omega), sT_spn.1, show 67 + k - 1 = 33 + (33 + k) by omega, List.getElem?_append_right (by rw [gL_spn.1]; omega), gL_spn.1, Nat.add_sub_cancel_left, List.getElem?_append_right (by rw [gL_spn.1]; omega), gL_spn.1, Nat.add_sub_cancel_left, List.getElem?_append_left (List.getElem?_eq_some_iff.mp hv).1]
  exact hv
theorem sL_vs {g g' : Nat → Nat} {n' : Nat} {N : Nat → Nat → Int32} {k : Nat} {q : Nat × va_E} (hk : k < 2) (h : (vH D (r + 67) g n).set k q = vH D (r + 67) g' n') : (sL D r C E g N n Y X U Z F).set (67 + k) q = sL D r C E g' N n' Y X U Z F := by
  unfold sL
  rw [List.set_append_right _ _ (by rw [sT_spn.1]; omega), sT_spn.1, show 67 + k - 1 = 33 + (33 + k) by omega, List.set_append_right _ _ (by rw [gL_spn.1]; omega), gL_spn.1, Nat.add_sub_cancel_left, List.set_append_right _ _ (by rw [gL_spn.1]; omega), gL_spn.1, Nat.add_sub_cancel_left, List.set_append_left _ _ (by rw [vL_spn.1]; omega)]
  unfold vL
  rw [List.set_append_left _ _ (by rw [vH_spn.1]; exact hk), h]
theorem putVn {n1 : Nat} (hx : p.tables.exec = Jvm.exec) (hb : c.code = cc) (hts : ∀ w ∈ AW, w.before args s = true) (hown : s.vm.findClass own = some m.cls) (hK : Kn D s) (hG : Sn D r C E L n Y X U Z F H) (hS : va_S A H0 H locs) (hA : ∀ q, inS r q → A q) (hq : Cond.fieldLink own idx RX2 "count" "I" ∈ AW) (hdg : decode cc pc = .ok (.putfield idx, 3))
    (kk : ∀ (H1 : Heap) (locs1 : List Loc), Sn D r C E L n1 Y X U Z F H1 → va_S A H0 H1 locs1 → W p l e R s m args below meth c H1 locs1 cells slots Q (F0 m (pc + 3) ls rest)) : W p l e R s m args below meth c H locs cells slots Q (F0 m pc ls (.int (nI n1) :: .ref (r + 67) :: rest)) := by
  obtain ⟨g, N, hg, hN, hP⟩ := hG
  exact va_put (ci := 2) (C := RX2) (T := TX2) (N := 2) hx hb hts awsX20 tyX2 tyX2_ok nmX2 hown hK hP (Sn.d hA) hS (67 + 0) (sL_v rfl) rfl 1 (by decide) (hts _ hq) (fun x h => h) rfl (ty := .int) pfd_I rfl rfl (by simp) hdg (fun H1 locs1 hP _ hS1 => kk H1 locs1 ⟨g, N, hg, hN, by rw [sL_vs (g' := g) (n' := n1) (by decide) rfl] at hP; exact hP⟩ hS1)
end SW
