/-! The saved states: slots, dropOldest, save, restore. -/
def upg (g : Nat → Nat) (i j : Nat) : Nat → Nat := fun x => if x = i then j else g x
theorem va_P_swap {D : va_G} {cl : List vw_C} {ws : va_W} {H : Heap} {k a : Nat} {e e' : va_E} (h : va_P D cl (ws.set k (a, e)) H) (he : va_at D cl (a, e) H → va_at D cl (a, e') H) : va_P D cl (ws.set k (a, e')) H := by
  intro i q hi
  by_cases hk : i = k
  · subst hk
    by_cases hl : i < ws.length
    · have h1 := h i (a, e) (by rw [List.getElem?_set_self hl])
      rw [List.getElem?_set_self hl] at hi
      cases hi
      exact he h1
    · rw [List.getElem?_eq_none (by rw [List.length_set]; omega)] at hi
      cases hi
  · rw [List.getElem?_set_ne (Ne.symm hk)] at hi
    exact h i q (by rw [List.getElem?_set_ne (Ne.symm hk)]; exact hi)
theorem arrV_c {cA : ClassId} {n : Nat} {f f' : Nat → Value} (h : ∀ j, j < n → f j = f' j) : arrV cA n f = arrV cA n f' := by
  unfold arrV
  congr 1
  apply Array.ext (by simp)
  intro i h1 h2
  simp at h1
  simp [h i (by omega)]
theorem vA_up {v : Nat} {g : Nat → Nat} {i j : Nat} (hi : i < 4) : va_up (vA v g) i (some (v + 2 + 33 * j)) = vA v (upg g i j) := by
  funext x
  unfold va_up vA upg
  by_cases h : x = i
  · subst h
    rw [if_pos rfl, if_pos hi, if_pos rfl]
  · rw [if_neg h, if_neg h]
section SV
variable {p : Program} {l : Launch} {e : Env} {R : Room} {s : State} {m : MethodId} {args : Array Value} {below : List Frame} {meth : Method} {c : Code} {H : Heap} {locs : List Loc} {cells slots : Nat} {Q : State → Prop}
variable {cc : ByteArray} {pc : Nat} {ls : Array Slot} {rest : List Value} {D : va_G} {A : Nat → Prop} {r : Nat} {C E : Nat → Int32} {g : Nat → Nat} {N : Nat → Nat → Int32} {n : Nat} {Y X U Z F : Nat → Int32} {H0 : Heap} {own : String} {idx : Nat}
theorem sL_g {j : Nat} (hj : j < 4) : (sL D r C E g N n Y X U Z F)[69 + 33 * j]? = some (r + 67 + 2 + 33 * j, .inr (0, cF (N j) (r + 67 + 2 + 33 * j))) := by
  unfold sL
  have hv : (vL D (r + 67) g N n)[2 + 33 * j]? = some (r + 67 + 2 + 33 * j, .inr (0, cF (N j) (r + 67 + 2 + 33 * j))) := by
    unfold vL
    rw [List.getElem?_append_right (by rw [vH_spn.1]; omega), vH_spn.1, Nat.add_sub_cancel_left]
    rcases (show j = 0 ∨ j = 1 ∨ j = 2 ∨ j = 3 by omega) with rfl | rfl | rfl | rfl
    · rw [List.getElem?_append_left (by rw [gL_spn.1]; omega)]; exact gL_0
    · rw [List.getElem?_append_right (by rw [gL_spn.1]; omega), gL_spn.1, List.getElem?_append_left (by rw [gL_spn.1]; omega)]; exact gL_0
    · rw [List.getElem?_append_right (by rw [gL_spn.1]; omega), gL_spn.1, List.getElem?_append_right (by rw [gL_spn.1]; omega), gL_spn.1, List.getElem?_append_left (by rw [gL_spn.1]; omega)]; exact gL_0
    · rw [List.getElem?_append_right (by rw [gL_spn.1]; omega), gL_spn.1, List.getElem?_append_right (by rw [gL_spn.1]; omega), gL_spn.1, List.getElem?_append_right (by rw [gL_spn.1]; omega), gL_spn.1]; exact gL_0
  rw [List.getElem?_append_right (by rw [sT_spn.1]; omega), sT_spn.1, show 69 + 33 * j - 1 = 33 + (33 + (2 + 33 * j)) by omega, List.getElem?_append_right (by rw [gL_spn.1]; omega), gL_spn.1, Nat.add_sub_cancel_left, List.getElem?_append_right (by rw [gL_spn.1]; omega), gL_spn.1, Nat.add_sub_cancel_left, List.getElem?_append_left (List.getElem?_eq_some_iff.mp hv).1]
  exact hv
theorem getVs (hx : p.tables.exec = Jvm.exec) (hb : c.code = cc) (hts : ∀ w ∈ AW, w.before args s = true) (hown : s.vm.findClass own = some m.cls) (hK : Kn D s) (hP : va_P D vwCl (sL D r C E g N n Y X U Z F) H) (hq : Cond.fieldLink own idx RX2 "saved" "[LSnowRounds$Contract;" ∈ AW) (hdg : decode cc pc = .ok (.getfield idx, 3))
    (kk : W p l e R s m args below meth c H locs cells slots Q (F0 m (pc + 3) ls (.ref (r + 67 + 1) :: rest))) : W p l e R s m args below meth c H locs cells slots Q (F0 m pc ls (.ref (r + 67) :: rest)) :=
  va_get (ci := 2) (C := RX2) (T := TX2) (N := 2) hx hb hts awsX20 hown hK hP (67 + 0) (sL_v rfl) rfl 0 (by decide) (hts _ hq) (fun x h => h) rfl hdg kk
theorem aldV {i : Nat} (hx : p.tables.exec = Jvm.exec) (hb : c.code = cc) (hK : Kn D s) (hP : va_P D vwCl (sL D r C E g N n Y X U Z F) H) (hi : i < 4) (hdg : decode cc pc = .ok (.aaload, 1))
    (kk : W p l e R s m args below meth c H locs cells slots Q (F0 m (pc + 1) ls (.ref (r + 67 + 2 + 33 * g i) :: rest))) : W p l e R s m args below meth c H locs cells slots Q (F0 m pc ls (.int (nI i) :: .ref (r + 67 + 1) :: rest)) :=
  va_aldq hx hb hK hP (67 + 1) 4 (sL_v rfl) rfl (vp_in_nI hi (by decide)) hdg (by rw [nI_clamp (by omega), show vA (r + 67) g i = some (r + 67 + 2 + 33 * g i) from if_pos hi]; exact kk)
theorem astV {i j : Nat} (hx : p.tables.exec = Jvm.exec) (hb : c.code = cc) (hK : Kn D s) (hP : va_P D vwCl (sL D r C E g N n Y X U Z F) H) (hS : va_S A H0 H locs) (hA : ∀ q, inS r q → A q) (hi : i < 4) (hj : j < 4) (hdg : decode cc pc = .ok (.aastore, 1))
    (kk : ∀ (H1 : Heap) (locs1 : List Loc), va_P D vwCl (sL D r C E (upg g i j) N n Y X U Z F) H1 → va_S A H0 H1 locs1 → W p l e R s m args below meth c H1 locs1 cells slots Q (F0 m (pc + 1) ls rest)) : W p l e R s m args below meth c H locs cells slots Q (F0 m pc ls (.ref (r + 67 + 2 + 33 * j) :: .int (nI i) :: .ref (r + 67 + 1) :: rest)) :=
  va_astq hx hb hK hP (Sn.d hA) hS (67 + 1) 4 (69 + 33 * j) 0 (sL_v rfl) rfl (sL_g hj) rfl (vp_in_nI hi (by decide)) hdg (fun H1 locs1 hP _ hS1 => kk H1 locs1 (by rw [nI_clamp (by omega), vA_up hi, sL_vs (g' := upg g i j) (n' := n) (by decide) rfl] at hP; exact hP) hS1)
theorem putVr {n1 : Nat} (hx : p.tables.exec = Jvm.exec) (hb : c.code = cc) (hts : ∀ w ∈ AW, w.before args s = true) (hown : s.vm.findClass own = some m.cls) (hK : Kn D s) (hP : va_P D vwCl (sL D r C E g N n Y X U Z F) H) (hS : va_S A H0 H locs) (hA : ∀ q, inS r q → A q) (hq : Cond.fieldLink own idx RX2 "count" "I" ∈ AW) (hdg : decode cc pc = .ok (.putfield idx, 3))
    (kk : ∀ (H1 : Heap) (locs1 : List Loc), va_P D vwCl (sL D r C E g N n1 Y X U Z F) H1 → va_S A H0 H1 locs1 → W p l e R s m args below meth c H1 locs1 cells slots Q (F0 m (pc + 3) ls rest)) : W p l e R s m args below meth c H locs cells slots Q (F0 m pc ls (.int (nI n1) :: .ref (r + 67) :: rest)) :=
  va_put (ci := 2) (C := RX2) (T := TX2) (N := 2) hx hb hts awsX20 tyX2 tyX2_ok nmX2 hown hK hP (Sn.d hA) hS (67 + 0) (sL_v rfl) rfl 1 (by decide) (hts _ hq) (fun x h => h) rfl (ty := .int) pfd_I rfl rfl (by simp) hdg (fun H1 locs1 hP _ hS1 => kk H1 locs1 (by rw [sL_vs (g' := g) (n' := n1) (by decide) rfl] at hP; exact hP) hS1)
theorem sL_gN {j : Nat} (hj : j < 4) (hP : va_P D vwCl (sL D r C E g N n Y X U Z F) H) : Graph D (r + 67 + 2 + 33 * j) (N j) H := by
  have hv := va_P_r (va_P_l (va_P_r (va_P_r (va_P_r hP))))
  rcases (show j = 0 ∨ j = 1 ∨ j = 2 ∨ j = 3 by omega) with rfl | rfl | rfl | rfl
  · exact va_P_l hv
  · exact va_P_l (va_P_r hv)
  · exact va_P_l (va_P_r (va_P_r hv))
  · exact va_P_r (va_P_r (va_P_r hv))
def upN (N : Nat → Nat → Int32) (j : Nat) (P : Nat → Int32) : Nat → Nat → Int32 := fun x => if x = j then P else N x
theorem sL_gS {j : Nat} {P : Nat → Int32} {H1 : Heap} (hj : j < 4) (hP : va_P D vwCl (sL D r C E g N n Y X U Z F) H) (hc : Graph D (r + 67 + 2 + 33 * j) P H1) (hq : ∀ q : Nat, q < H.size → ¬ inG (r + 67 + 2 + 33 * j) q → H1[q]? = H[q]?) : va_P D vwCl (sL D r C E g (upN N j P) n Y X U Z F) H1 := by
  have hk : ∀ q, inS r q → ¬ inG (r + 67 + 2 + 33 * j) q → H1[q]? = H[q]? := fun q h1 h2 => hq q (sL_spn.in hP h1.1 h1.2) h2
  have hg : ∀ i, i < 4 → Graph D (r + 67 + 2 + 33 * i) (upN N j P i) H1 := by
    intro i hi
    by_cases h : i = j
    · subst h
      unfold upN
      rw [if_pos rfl]
      exact hc
    · unfold upN
      rw [if_neg h]
      exact gL_spn.kept (sL_gN hi hP) (fun q h1 h2 => hk q (by unfold inS; omega) (by unfold inG; omega))
  refine va_P.app (sT_spn.kept (va_P_l hP) (fun q h1 h2 => hk q ?_ ?_)) (va_P.app (gL_spn.kept (va_P_l (va_P_r hP)) (fun q h1 h2 => hk q ?_ ?_)) (va_P.app (gL_spn.kept (va_P_l (va_P_r (va_P_r hP))) (fun q h1 h2 => hk q ?_ ?_)) (va_P.app (va_P.app (vH_spn.kept (va_P_l (va_P_l (va_P_r (va_P_r (va_P_r hP))))) (fun q h1 h2 => hk q ?_ ?_)) (va_P.app (hg 0 (by omega)) (va_P.app (hg 1 (by omega)) (va_P.app (hg 2 (by omega)) (hg 3 (by omega)))))) (xL_spn.kept (va_P_r (va_P_r (va_P_r (va_P_r hP)))) (fun q h1 h2 => hk q ?_ ?_))))) <;> first | (unfold inS; omega) | (unfold inG; omega)
end SV
/-- the saved states, one slot down -/
def rotL (L : Nat → Nat → Int32) : Nat → Nat → Int32 := fun i => if i = 3 then L 0 else L (i + 1)
theorem hdv_X2_dropOldest : yX2_dropOldest.cls = RX2 ∧ yX2_dropOldest.cls ≠ "java/lang/invoke/MethodHandle" ∧ yX2_dropOldest.cls ≠ "java/lang/invoke/VarHandle" ∧ (parseMethodDescriptor yX2_dropOldest.desc).map (fun d => d.parameters.length) = some 0 := by decide +kernel
set_option maxHeartbeats 4000000 in
set_option maxRecDepth 100000 in
theorem c_X2_dropOldest (l : Launch) (D : va_G) (r : Nat) (C E : Nat → Int32) (L : Nat → Nat → Int32) (n : Nat) (Y X U Z F : Nat → Int32) : Met l yX2_dropOldest (wA yX2_dropOldest cX2_dropOldest 3 none) (rmL 0) (gPc D [.ref (r + 67)] (fun H => Sn D r C E L n Y X U Z F H)) (gQv (inS r) (fun H => Sn D r C E (rotL L) 3 Y X U Z F H)) 0 0 (inS r) := by
  refine Met.ofW (cc := cX2_dropOldest) (maxL := 3) (ret := none) (by decide) rfl ?_
  intro p e s m args below meth c s₁ B hml hv
  obtain ⟨hav, hG, hK⟩ := hv
  have hx := B.exec
  have hb := B.bytes
  have hr := B.returns
  have hts0 := atoms_spec (ws := wA yX2_dropOldest cX2_dropOldest 3 none) B.pre
  have hts : ∀ w ∈ AW, w.before _ s = true := fun w h => hts0 w (List.mem_cons_of_mem _ h)
  have hown : s.vm.findClass RX2 = some m.cls := findClass_of_methodNamed B.named
  have hlocks := B.notSynchronized
  have hA : ∀ q, inS r q → inS r q := fun _ h => h
  have hS : va_S (inS r) s.heap s.heap [] := va_S.rf
  have hG : Sn D r C E L n Y X U Z F s.heap := hG
  have hl := lv_entry ([.ref (r + 67)]) (n := 3) (Nat.le_of_ble_eq_true rfl)
  refine W.eq (g2 := entryFrame m ([.ref (r + 67)] : List Value).toArray 3) (by rw [hav]) ?_
  rw [lg_entry_eq]
  generalize (lg_sl ([.ref (r + 67)]) ++ List.replicate (3 - (lg_sl ([.ref (r + 67)])).length) Slot.unset).toArray = ls at hl ⊢
  have hl : lv_has ls 3 [(0, .ref (r + 67))] := hl
  obtain ⟨g, N, hg, hN, hP⟩ := hG
  refine lv_aload_n hx hb dX2_dropOldest_0 rfl (lv_at hl 0 rfl) ?_
  refine getVs hx hb hts hown hK hP qF_X2_11 dX2_dropOldest_1 ?_
  refine lv_iconst (v := 0) hx hb dX2_dropOldest_4 (by decide) ?_
  refine aldV (i := 0) hx hb hK hP (by decide) dX2_dropOldest_5 ?_
  refine lv_astore_n (lv' := [(1, .ref (r + 67 + 2 + 33 * g 0)), (0, .ref (r + 67))]) hx hb dX2_dropOldest_6 rfl hl (by decide) rfl (fun ls hl => ?_)
  refine lv_iconst (v := 1) hx hb dX2_dropOldest_7 (by decide) ?_
  refine lv_istore_n (lv' := [(2, .int (nI 1)), (1, .ref (r + 67 + 2 + 33 * g 0)), (0, .ref (r + 67))]) hx hb dX2_dropOldest_8 rfl hl (by decide) rfl (fun ls hl => ?_)
  refine lv_iload_n hx hb dX2_dropOldest_9 rfl (lv_at hl 0 rfl) ?_
  refine lv_iconst (v := 4) hx hb dX2_dropOldest_10 (by decide) ?_
  refine lv_icmp_ge (tgt := 34) hx hb dX2_dropOldest_11 (by decide) (fun c9 => absurd c9 (by decide)) (fun c9 => ?_)
  clear c9
  refine lv_aload_n hx hb dX2_dropOldest_14 rfl (lv_at hl 2 rfl) ?_
  refine getVs hx hb hts hown hK hP qF_X2_11 dX2_dropOldest_15 ?_
  refine lv_iload_n hx hb dX2_dropOldest_18 rfl (lv_at hl 0 rfl) ?_
  refine lv_iconst (v := 1) hx hb dX2_dropOldest_19 (by decide) ?_
  refine isubN (a := 1) (b := 1) (by decide) hx hb dX2_dropOldest_20 ?_
  refine lv_aload_n hx hb dX2_dropOldest_21 rfl (lv_at hl 2 rfl) ?_
  refine getVs hx hb hts hown hK hP qF_X2_11 dX2_dropOldest_22 ?_
  refine lv_iload_n hx hb dX2_dropOldest_25 rfl (lv_at hl 0 rfl) ?_
  refine aldV (i := 1) hx hb hK hP (by decide) dX2_dropOldest_26 ?_
  have hj1 : g 1 < 4 := by first | exact hg.1 1 (by decide) | (unfold upg; simpa using hg.1 1 (by decide))
  refine astV (i := 0) (j := g 1) hx hb hK hP hS hA (by decide) hj1 dX2_dropOldest_27 (fun H locs hP hS => ?_)
  refine lv_iinc (v := nI 2) (lv' := [(2, .int (nI 2)), (1, .ref (r + 67 + 2 + 33 * g 0)), (0, .ref (r + 67))]) hx hb dX2_dropOldest_28 hl (k := 0) rfl (nI_add 1 1) (by decide) rfl (fun ls hl => ?_)
  refine lv_goto (tgt := 9) hx hb dX2_dropOldest_31 (by decide) ?_
  refine lv_iload_n hx hb dX2_dropOldest_9 rfl (lv_at hl 0 rfl) ?_
  refine lv_iconst (v := 4) hx hb dX2_dropOldest_10 (by decide) ?_
  refine lv_icmp_ge (tgt := 34) hx hb dX2_dropOldest_11 (by decide) (fun c9 => absurd c9 (by decide)) (fun c9 => ?_)
  clear c9
  refine lv_aload_n hx hb dX2_dropOldest_14 rfl (lv_at hl 2 rfl) ?_
  refine getVs hx hb hts hown hK hP qF_X2_11 dX2_dropOldest_15 ?_
  refine lv_iload_n hx hb dX2_dropOldest_18 rfl (lv_at hl 0 rfl) ?_
  refine lv_iconst (v := 1) hx hb dX2_dropOldest_19 (by decide) ?_
  refine isubN (a := 2) (b := 1) (by decide) hx hb dX2_dropOldest_20 ?_
  refine lv_aload_n hx hb dX2_dropOldest_21 rfl (lv_at hl 2 rfl) ?_
  refine getVs hx hb hts hown hK hP qF_X2_11 dX2_dropOldest_22 ?_
  refine lv_iload_n hx hb dX2_dropOldest_25 rfl (lv_at hl 0 rfl) ?_
  refine aldV (i := 2) hx hb hK hP (by decide) dX2_dropOldest_26 ?_
  have hj2 : (upg g 0 (g 1)) 2 < 4 := by first | exact hg.1 2 (by decide) | (unfold upg; simpa using hg.1 2 (by decide))
  refine astV (i := 1) (j := (upg g 0 (g 1)) 2) hx hb hK hP hS hA (by decide) hj2 dX2_dropOldest_27 (fun H locs hP hS => ?_)
  refine lv_iinc (v := nI 3) (lv' := [(2, .int (nI 3)), (1, .ref (r + 67 + 2 + 33 * g 0)), (0, .ref (r + 67))]) hx hb dX2_dropOldest_28 hl (k := 0) rfl (nI_add 2 1) (by decide) rfl (fun ls hl => ?_)
  refine lv_goto (tgt := 9) hx hb dX2_dropOldest_31 (by decide) ?_
  refine lv_iload_n hx hb dX2_dropOldest_9 rfl (lv_at hl 0 rfl) ?_
  refine lv_iconst (v := 4) hx hb dX2_dropOldest_10 (by decide) ?_
  refine lv_icmp_ge (tgt := 34) hx hb dX2_dropOldest_11 (by decide) (fun c9 => absurd c9 (by decide)) (fun c9 => ?_)
  clear c9
  refine lv_aload_n hx hb dX2_dropOldest_14 rfl (lv_at hl 2 rfl) ?_
  refine getVs hx hb hts hown hK hP qF_X2_11 dX2_dropOldest_15 ?_
  refine lv_iload_n hx hb dX2_dropOldest_18 rfl (lv_at hl 0 rfl) ?_
  refine lv_iconst (v := 1) hx hb dX2_dropOldest_19 (by decide) ?_
  refine isubN (a := 3) (b := 1) (by decide) hx hb dX2_dropOldest_20 ?_
  refine lv_aload_n hx hb dX2_dropOldest_21 rfl (lv_at hl 2 rfl) ?_
  refine getVs hx hb hts hown hK hP qF_X2_11 dX2_dropOldest_22 ?_
  refine lv_iload_n hx hb dX2_dropOldest_25 rfl (lv_at hl 0 rfl) ?_
  refine aldV (i := 3) hx hb hK hP (by decide) dX2_dropOldest_26 ?_
  have hj3 : (upg (upg g 0 (g 1)) 1 ((upg g 0 (g 1)) 2)) 3 < 4 := by first | exact hg.1 3 (by decide) | (unfold upg; simpa using hg.1 3 (by decide))
  refine astV (i := 2) (j := (upg (upg g 0 (g 1)) 1 ((upg g 0 (g 1)) 2)) 3) hx hb hK hP hS hA (by decide) hj3 dX2_dropOldest_27 (fun H locs hP hS => ?_)
  refine lv_iinc (v := nI 4) (lv' := [(2, .int (nI 4)), (1, .ref (r + 67 + 2 + 33 * g 0)), (0, .ref (r + 67))]) hx hb dX2_dropOldest_28 hl (k := 0) rfl (nI_add 3 1) (by decide) rfl (fun ls hl => ?_)
  refine lv_goto (tgt := 9) hx hb dX2_dropOldest_31 (by decide) ?_
  refine lv_iload_n hx hb dX2_dropOldest_9 rfl (lv_at hl 0 rfl) ?_
  refine lv_iconst (v := 4) hx hb dX2_dropOldest_10 (by decide) ?_
  refine lv_icmp_ge (tgt := 34) hx hb dX2_dropOldest_11 (by decide) (fun c9 => ?_) (fun c9 => absurd (by decide) c9)
  clear c9
  refine lv_aload_n hx hb dX2_dropOldest_34 rfl (lv_at hl 2 rfl) ?_
  refine getVs hx hb hts hown hK hP qF_X2_11 dX2_dropOldest_35 ?_
  refine lv_iconst (v := 3) hx hb dX2_dropOldest_38 (by decide) ?_
  refine lv_aload_n hx hb dX2_dropOldest_39 rfl (lv_at hl 1 rfl) ?_
  refine astV (i := 3) (j := g 0) hx hb hK hP hS hA (by decide) (hg.1 0 (by decide)) dX2_dropOldest_40 (fun H locs hP hS => ?_)
  refine lv_aload_n hx hb dX2_dropOldest_41 rfl (lv_at hl 2 rfl) ?_
  refine lv_iconst (v := 3) hx hb dX2_dropOldest_42 (by decide) ?_
  refine putVr (n1 := 3) hx hb hts hown hK hP hS hA qF_X2_18 dX2_dropOldest_43 (fun H locs hP hS => ?_)
  have hG9 : Sn D r C E (rotL L) 3 Y X U Z F H := by
    have e0 : (upg (upg (upg (upg g 0 (g 1)) 1 ((upg g 0 (g 1)) 2)) 2 ((upg (upg g 0 (g 1)) 1 ((upg g 0 (g 1)) 2)) 3)) 3 (g 0)) 0 = g 1 := by simp [upg]
    have e1 : (upg (upg (upg (upg g 0 (g 1)) 1 ((upg g 0 (g 1)) 2)) 2 ((upg (upg g 0 (g 1)) 1 ((upg g 0 (g 1)) 2)) 3)) 3 (g 0)) 1 = g 2 := by simp [upg]
    have e2 : (upg (upg (upg (upg g 0 (g 1)) 1 ((upg g 0 (g 1)) 2)) 2 ((upg (upg g 0 (g 1)) 1 ((upg g 0 (g 1)) 2)) 3)) 3 (g 0)) 2 = g 3 := by simp [upg]
    have e3 : (upg (upg (upg (upg g 0 (g 1)) 1 ((upg g 0 (g 1)) 2)) 2 ((upg (upg g 0 (g 1)) 1 ((upg g 0 (g 1)) 2)) 3)) 3 (g 0)) 3 = g 0 := by simp [upg]
    generalize (upg (upg (upg (upg g 0 (g 1)) 1 ((upg g 0 (g 1)) 2)) 2 ((upg (upg g 0 (g 1)) 1 ((upg g 0 (g 1)) 2)) 3)) 3 (g 0)) = g9 at hP e0 e1 e2 e3
    refine ⟨g9, N, ⟨fun i hi => ?_, fun i j hi hj h => ?_⟩, fun i hi => ?_, hP⟩
    · rcases (show i = 0 ∨ i = 1 ∨ i = 2 ∨ i = 3 by omega) with rfl | rfl | rfl | rfl
      · rw [e0]; exact hg.1 1 (by decide)
      · rw [e1]; exact hg.1 2 (by decide)
      · rw [e2]; exact hg.1 3 (by decide)
      · rw [e3]; exact hg.1 0 (by decide)
    · have key : ∀ a b : Nat, a < 4 → b < 4 → g a = g b → a = b := hg.2
      rcases (show i = 0 ∨ i = 1 ∨ i = 2 ∨ i = 3 by omega) with rfl | rfl | rfl | rfl <;> rcases (show j = 0 ∨ j = 1 ∨ j = 2 ∨ j = 3 by omega) with rfl | rfl | rfl | rfl <;> simp only [e0, e1, e2, e3] at h <;> first | rfl | exact absurd (key _ _ (by decide) (by decide) h) (by decide)
    · rcases (show i = 0 ∨ i = 1 ∨ i = 2 ∨ i = 3 by omega) with rfl | rfl | rfl | rfl
      · rw [e0]; exact hN 1 (by decide)
      · rw [e1]; exact hN 2 (by decide)
      · rw [e2]; exact hN 3 (by decide)
      · rw [e3]; exact hN 0 (by decide)
  exact W.vret hx hb hr (fun t ht hW => gQv_of hG9 hS ht) hS.2.2 dX2_dropOldest_46

/-- what save makes of the slots -/
def svN (n : Nat) : Nat := if n < 4 then n else 3
def svL (L : Nat → Nat → Int32) (n : Nat) (C : Nat → Int32) : Nat → Nat → Int32 := upN (if n < 4 then L else rotL L) (svN n) (fP_X0_copyFrom ((if n < 4 then L else rotL L) (svN n)) C)
theorem hdv_X2_save : yX2_save.cls = RX2 ∧ yX2_save.cls ≠ "java/lang/invoke/MethodHandle" ∧ yX2_save.cls ≠ "java/lang/invoke/VarHandle" ∧ (parseMethodDescriptor yX2_save.desc).map (fun d => d.parameters.length) = some 1 := by decide +kernel
set_option maxHeartbeats 4000000 in
set_option maxRecDepth 100000 in
theorem c_X2_save (l : Launch) (D : va_G) (r : Nat) (C E : Nat → Int32) (L : Nat → Nat → Int32) (n : Nat) (Y X U Z F : Nat → Int32) (hn4 : n ≤ 4) (ho : okN C) : Met l yX2_save (wA yX2_save cX2_save 2 none) (rmL 3) (gPc D [.ref (r + 67), .ref (r + 1)] (fun H => Sn D r C E L n Y X U Z F H)) (gQv (inS r) (fun H => Sn D r C E (svL L n C) (svN n + 1) Y X U Z F H)) 0 0 (inS r) := by
  refine Met.ofW (cc := cX2_save) (maxL := 2) (ret := none) (by decide) rfl ?_
  intro p e s m args below meth c s₁ B hml hv
  obtain ⟨hav, hG, hK⟩ := hv
  have hx := B.exec
  have hb := B.bytes
  have hr := B.returns
  have hts0 := atoms_spec (ws := wA yX2_save cX2_save 2 none) B.pre
  have hts : ∀ w ∈ AW, w.before _ s = true := fun w h => hts0 w (List.mem_cons_of_mem _ h)
  have hown : s.vm.findClass RX2 = some m.cls := findClass_of_methodNamed B.named
  have hlocks := B.notSynchronized
  have hA : ∀ q, inS r q → inS r q := fun _ h => h
  have hS : va_S (inS r) s.heap s.heap [] := va_S.rf
  have hG : Sn D r C E L n Y X U Z F s.heap := hG
  have hl := lv_entry ([.ref (r + 67), .ref (r + 1)]) (n := 2) (Nat.le_of_ble_eq_true rfl)
  refine W.eq (g2 := entryFrame m ([.ref (r + 67), .ref (r + 1)] : List Value).toArray 2) (by rw [hav]) ?_
  rw [lg_entry_eq]
  generalize (lg_sl ([.ref (r + 67), .ref (r + 1)]) ++ List.replicate (2 - (lg_sl ([.ref (r + 67), .ref (r + 1)])).length) Slot.unset).toArray = ls at hl ⊢
  have hl : lv_has ls 2 [(0, .ref (r + 67)), (1, .ref (r + 1))] := hl
  refine lv_aload_n hx hb dX2_save_0 rfl (lv_at hl 0 rfl) ?_
  refine getVn hx hb hts hown hK hG qF_X2_18 dX2_save_1 ?_
  refine lv_iconst (v := 4) hx hb dX2_save_4 (by decide) ?_
  have hmid : ∀ (H : Heap) (locs : List Loc), Sn D r C E (if n < 4 then L else rotL L) (svN n) Y X U Z F H → va_S (inS r) s.heap H locs → W p l e (headSpec (wA yX2_save cX2_save 2 none) (rmL 3)).room s m args below meth c H locs 0 0 (MQ below (gQv (inS r) (fun H => Sn D r C E (svL L n C) (svN n + 1) Y X U Z F H)) args s 0 0 (inS r)) (F0 m 12 ls []) := by
    intro H locs hG hS
    have hn4 : svN n < 4 := by unfold svN; split <;> omega
    refine lv_aload_n hx hb dX2_save_12 rfl (lv_at hl 0 rfl) ?_
    obtain ⟨g, N, hg, hN, hP⟩ := hG
    refine getVs hx hb hts hown hK hP qF_X2_11 dX2_save_13 ?_
    refine lv_aload_n hx hb dX2_save_16 rfl (lv_at hl 0 rfl) ?_
    refine getVn hx hb hts hown hK (L := (if n < 4 then L else rotL L)) ⟨g, N, hg, hN, hP⟩ qF_X2_18 dX2_save_17 ?_
    refine aldV (i := svN n) hx hb hK hP hn4 dX2_save_20 ?_
    refine lv_aload_n hx hb dX2_save_21 rfl (lv_at hl 1 rfl) ?_
    have hgj := hg.1 _ hn4
    have hT : Two D (r + 67 + 2 + 33 * g (svN n)) (r + 1) ((if n < 4 then L else rotL L) (svN n)) C H := ⟨by rw [← hN _ hn4]; exact sL_gN hgj hP, va_P_l (va_P_r hP)⟩
    refine gcVv (As := [.ref (r + 1)]) (rest := []) hx hb hml hown hts hl.1 hK (c_X0_copyFrom l D (r + 67 + 2 + 33 * g (svN n)) (r + 1) ((if n < 4 then L else rotL L) (svN n)) C (by unfold apart; omega) ho) (gaV qM_X2_25 qI_X0_copyFrom qS_X0_copyFrom qK_X0 qC_X0_copyFrom) hdv_X0_copyFrom ⟨Nat.le_of_ble_eq_true rfl, Nat.le_of_ble_eq_true rfl⟩ hT (hT.1.recvC hK) rfl (Nat.le_of_ble_eq_true rfl) ⟨Nat.zero_le _, Nat.zero_le _⟩ dX2_save_22 hS (fun q hq => by unfold inG at hq; unfold inS; omega) (fun H locs hT1 hz hq hS => ?_)
    have hP := sL_gS hgj hP hT1.1 hq
    have hG : Sn D r C E (svL L n C) (svN n) Y X U Z F H := by
      refine ⟨g, _, hg, fun i hi => ?_, hP⟩
      unfold svL upN
      by_cases h : i = svN n
      · subst h; rw [if_pos rfl, if_pos rfl]
      · rw [if_neg (fun h1 => h (hg.2 _ _ hi hn4 h1)), if_neg h]; exact hN i hi
    refine lv_aload_n hx hb dX2_save_25 rfl (lv_at hl 0 rfl) ?_
    refine lv_dup hx hb dX2_save_26 rfl ?_
    refine getVn hx hb hts hown hK hG qF_X2_18 dX2_save_27 ?_
    refine lv_iconst (v := 1) hx hb dX2_save_30 (by decide) ?_
    refine iaddN (a := svN n) (b := 1) hx hb dX2_save_31 ?_
    refine putVn (n1 := svN n + 1) hx hb hts hown hK hG hS hA qF_X2_18 dX2_save_32 (fun H locs hG hS => ?_)
    exact W.vret hx hb hr (fun t ht hW => gQv_of hG hS ht) hS.2.2 dX2_save_35
  refine lv_icmp_lt (tgt := 12) hx hb dX2_save_5 (by decide) (fun c5 => ?_) (fun c5 => ?_)
  · have c5 : n < 4 := (nI_ltI (a := n) (b := 4) (by omega) (by omega)).mp c5
    exact hmid _ _ (by rw [if_pos c5]; unfold svN; rw [if_pos c5]; exact hG) hS
  · have c5 : ¬ n < 4 := fun h => c5 ((nI_ltI (a := n) (b := 4) (by omega) (by omega)).mpr h)
    refine lv_aload_n hx hb dX2_save_8 rfl (lv_at hl 0 rfl) ?_
    refine gcVv (As := []) (rest := []) hx hb hml hown hts hl.1 hK (c_X2_dropOldest l D r C E L n Y X U Z F) (gaV qM_X2_22 qI_X2_dropOldest qS_X2_dropOldest qK_X2 qC_X2_dropOldest) hdv_X2_dropOldest ⟨Nat.le_of_ble_eq_true rfl, Nat.le_of_ble_eq_true rfl⟩ hG (hG.recvV hK) rfl (Nat.le_of_ble_eq_true rfl) ⟨Nat.zero_le _, Nat.zero_le _⟩ dX2_save_9 hS hA (fun H locs hG _ _ hS => ?_)
    exact hmid _ _ (by rw [if_neg c5]; unfold svN; rw [if_neg c5]; exact hG) hS

theorem hdv_X2_restore : yX2_restore.cls = RX2 ∧ yX2_restore.cls ≠ "java/lang/invoke/MethodHandle" ∧ yX2_restore.cls ≠ "java/lang/invoke/VarHandle" ∧ (parseMethodDescriptor yX2_restore.desc).map (fun d => d.parameters.length) = some 1 := by decide +kernel
set_option maxHeartbeats 4000000 in
set_option maxRecDepth 100000 in
theorem c_X2_restore (l : Launch) (D : va_G) (r : Nat) (C E : Nat → Int32) (L : Nat → Nat → Int32) (n : Nat) (Y X U Z F : Nat → Int32) (hn1 : 1 ≤ n) (hn4 : n ≤ 4) (ho : okN (L (n - 1))) : Met l yX2_restore (wA yX2_restore cX2_restore 2 none) (rmL 3) (gPc D [.ref (r + 67), .ref (r + 1)] (fun H => Sn D r C E L n Y X U Z F H)) (gQv (inS r) (fun H => Sn D r (fP_X0_copyFrom C (L (n - 1))) E L (n - 1) Y X U Z F H)) 0 0 (inS r) := by
  refine Met.ofW (cc := cX2_restore) (maxL := 2) (ret := none) (by decide) rfl ?_
  intro p e s m args below meth c s₁ B hml hv
  obtain ⟨hav, hG, hK⟩ := hv
  have hx := B.exec
  have hb := B.bytes
  have hr := B.returns
  have hts0 := atoms_spec (ws := wA yX2_restore cX2_restore 2 none) B.pre
  have hts : ∀ w ∈ AW, w.before _ s = true := fun w h => hts0 w (List.mem_cons_of_mem _ h)
  have hown : s.vm.findClass RX2 = some m.cls := findClass_of_methodNamed B.named
  have hlocks := B.notSynchronized
  have hA : ∀ q, inS r q → inS r q := fun _ h => h
  have hS : va_S (inS r) s.heap s.heap [] := va_S.rf
  have hG : Sn D r C E L n Y X U Z F s.heap := hG
  have hl := lv_entry ([.ref (r + 67), .ref (r + 1)]) (n := 2) (Nat.le_of_ble_eq_true rfl)
  refine W.eq (g2 := entryFrame m ([.ref (r + 67), .ref (r + 1)] : List Value).toArray 2) (by rw [hav]) ?_
  rw [lg_entry_eq]
  generalize (lg_sl ([.ref (r + 67), .ref (r + 1)]) ++ List.replicate (2 - (lg_sl ([.ref (r + 67), .ref (r + 1)])).length) Slot.unset).toArray = ls at hl ⊢
  have hl : lv_has ls 2 [(0, .ref (r + 67)), (1, .ref (r + 1))] := hl
  refine lv_aload_n hx hb dX2_restore_0 rfl (lv_at hl 0 rfl) ?_
  refine lv_dup hx hb dX2_restore_1 rfl ?_
  refine getVn hx hb hts hown hK hG qF_X2_18 dX2_restore_2 ?_
  refine lv_iconst (v := 1) hx hb dX2_restore_5 (by decide) ?_
  refine isubN (a := n) (b := 1) hn1 hx hb dX2_restore_6 ?_
  refine putVn (n1 := n - 1) hx hb hts hown hK hG hS hA qF_X2_18 dX2_restore_7 (fun H locs hG hS => ?_)
  refine lv_aload_n hx hb dX2_restore_10 rfl (lv_at hl 1 rfl) ?_
  refine lv_aload_n hx hb dX2_restore_11 rfl (lv_at hl 0 rfl) ?_
  obtain ⟨g, N, hg, hN, hP⟩ := id hG
  refine getVs hx hb hts hown hK hP qF_X2_11 dX2_restore_12 ?_
  refine lv_aload_n hx hb dX2_restore_15 rfl (lv_at hl 0 rfl) ?_
  refine getVn hx hb hts hown hK hG qF_X2_18 dX2_restore_16 ?_
  have hn4 : n - 1 < 4 := by omega
  have hgj := hg.1 _ hn4
  refine aldV (i := n - 1) hx hb hK hP hn4 dX2_restore_19 ?_
  have hT : Two D (r + 1) (r + 67 + 2 + 33 * g (n - 1)) C (L (n - 1)) H := ⟨hG.gc, by rw [← hN _ hn4]; exact sL_gN hgj hP⟩
  refine gcVv (As := [.ref (r + 67 + 2 + 33 * g (n - 1))]) (rest := []) hx hb hml hown hts hl.1 hK (c_X0_copyFrom l D (r + 1) (r + 67 + 2 + 33 * g (n - 1)) C (L (n - 1)) (by unfold apart; omega) ho) (gaV qM_X2_25 qI_X0_copyFrom qS_X0_copyFrom qK_X0 qC_X0_copyFrom) hdv_X0_copyFrom ⟨Nat.le_of_ble_eq_true rfl, Nat.le_of_ble_eq_true rfl⟩ hT (hT.1.recvC hK) rfl (Nat.le_of_ble_eq_true rfl) ⟨Nat.zero_le _, Nat.zero_le _⟩ dX2_restore_20 hS (fun q hq => by unfold inG at hq; unfold inS; omega) (fun H locs hT1 hz hq hS => ?_)
  exact W.vret hx hb hr (fun t ht hW => gQv_of (hG.setC hT1.1 hq) hS ht) hS.2.2 dX2_restore_23
