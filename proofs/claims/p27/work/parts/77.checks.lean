theorem hds_X6_checkArgument : yX6_checkArgument.cls ≠ "java/lang/invoke/MethodHandle" ∧ yX6_checkArgument.cls ≠ "java/lang/invoke/VarHandle" ∧ (parseMethodDescriptor yX6_checkArgument.desc).map (fun d => d.parameters.length) = some 3 := by decide +kernel
def fE_X6_checkArgument  (gv : Int32) (lo : Int32) (hi : Int32) : Nat :=
  if gv < lo then
    1
  else
    if gv ≤ hi then
      0
    else
      1
set_option maxHeartbeats 4000000 in
set_option maxRecDepth 100000 in
theorem c_X6_checkArgument (l : Launch) (hl0 : l.stackTraces = false) (D : va_G) (r : Nat) (C J : Nat → Int32) (G : Nat → Nat → Int32) (n : Nat) (Y X U Z F : Nat → Int32) (gv : Int32) (lo : Int32) (hi : Int32) : vx_Met l yX6_checkArgument (wA yX6_checkArgument cX6_checkArgument 3 none) (rmX 6 1 6) (xPc D r [.int gv, .int lo, .int hi] (fun H => Sn D r C J G n Y X U Z F H)) (xQv (inS r) (fE_X6_checkArgument gv lo hi) (fun H => Sn D r C J G n Y X U Z F H)) (xX (inS r) (fE_X6_checkArgument gv lo hi) (fun H => Sn D r C J G n Y X U Z F H)) 1 6 (inS r) := by
  refine vx_ofW (cc := cX6_checkArgument) (maxL := 3) (ret := none) (by decide) rfl ?_
  intro p e s m args below meth c s₁ B hml hex hv
  obtain ⟨hav, hG, hK, hKx⟩ := hv
  have hr0 : ∀ q, inS r q → r ≤ q := fun q h => h.1
  have hx := B.exec
  have hb := B.bytes
  have hr := B.returns
  have hts0 := atoms_spec (ws := wA yX6_checkArgument cX6_checkArgument 3 none) B.pre
  have hts : ∀ w ∈ AW, w.before _ s = true := fun w h => hts0 w (List.mem_cons_of_mem _ h)
  have hown : s.vm.findClass RX6 = some m.cls := findClass_of_methodNamed B.named
  have hlocks := B.notSynchronized
  have hA : ∀ q, (inS r) q → (inS r) q := fun _ h => h
  have hS : va_S (inS r) s.heap s.heap [] := va_S.rf
  have hG : Sn D r C J G n Y X U Z F s.heap := hG
  have hl := lv_entry ([.int gv, .int lo, .int hi]) (n := 3) (Nat.le_of_ble_eq_true rfl)
  refine W.eq (g2 := entryFrame m ([.int gv, .int lo, .int hi] : List Value).toArray 3) (by rw [hav]) ?_
  rw [lg_entry_eq]
  generalize (lg_sl ([.int gv, .int lo, .int hi]) ++ List.replicate (3 - (lg_sl ([.int gv, .int lo, .int hi])).length) Slot.unset).toArray = ls at hl ⊢
  have hl : lv_has ls 3 [(0, .int gv), (1, .int lo), (2, .int hi)] := hl
  refine lv_iload_n hx hb dX6_checkArgument_0 rfl (lv_at hl 0 rfl) ?_
  refine lv_iload_n hx hb dX6_checkArgument_1 rfl (lv_at hl 1 rfl) ?_
  refine lv_icmp_lt (tgt := 10) hx hb dX6_checkArgument_2 (by decide) (fun c2 => ?_) (fun c2 => ?_)
  · have hG9 := hG
    have hE : fE_X6_checkArgument gv lo hi = 1 := by unfold fE_X6_checkArgument; (try dsimp only); (try rw [if_pos c2]); (try rfl)
    exact xthr 1 ⟨by decide, by decide⟩ (ik := 224) (is := 226) (text := "an argument is out of range") exg1 exk1 exo1 hx hb hl0 hml hown hts hl.1 hKx hr0 qL_X6_224 qK_IllegalArgumentException (by decide +kernel) hS dX6_checkArgument_10 dX6_checkArgument_13 dX6_checkArgument_14 dX6_checkArgument_16 dX6_checkArgument_19 hex hlocks ⟨Nat.le_of_ble_eq_true rfl, Nat.le_of_ble_eq_true rfl⟩ (Nat.le_of_ble_eq_true rfl) (Nat.le_of_ble_eq_true rfl) hE (fun H1 hz1 hq1 => hG9.keep hz1 hq1) (by omega) (by omega)
  · refine lv_iload_n hx hb dX6_checkArgument_5 rfl (lv_at hl 0 rfl) ?_
    refine lv_iload_n hx hb dX6_checkArgument_6 rfl (lv_at hl 2 rfl) ?_
    refine lv_icmp_le (tgt := 20) hx hb dX6_checkArgument_7 (by decide) (fun c7 => ?_) (fun c7 => ?_)
    · have hG9 := hG
      refine vx_ret (W.widen (k := 1) (n := 6) (by omega) (by omega) ?_)
      exact W.vret hx hb hr (fun t ht hW => xQv_of (by unfold fE_X6_checkArgument; (try dsimp only); (try rw [if_neg c2, if_pos c7]); (try rfl)) hG9 hS ht) hS.2.2 dX6_checkArgument_20
    · have hG9 := hG
      have hE : fE_X6_checkArgument gv lo hi = 1 := by unfold fE_X6_checkArgument; (try dsimp only); (try rw [if_neg c2, if_neg c7]); (try rfl)
      exact xthr 1 ⟨by decide, by decide⟩ (ik := 224) (is := 226) (text := "an argument is out of range") exg1 exk1 exo1 hx hb hl0 hml hown hts hl.1 hKx hr0 qL_X6_224 qK_IllegalArgumentException (by decide +kernel) hS dX6_checkArgument_10 dX6_checkArgument_13 dX6_checkArgument_14 dX6_checkArgument_16 dX6_checkArgument_19 hex hlocks ⟨Nat.le_of_ble_eq_true rfl, Nat.le_of_ble_eq_true rfl⟩ (Nat.le_of_ble_eq_true rfl) (Nat.le_of_ble_eq_true rfl) hE (fun H1 hz1 hq1 => hG9.keep hz1 hq1) (by omega) (by omega)
theorem hds_X6_checkIndex : yX6_checkIndex.cls ≠ "java/lang/invoke/MethodHandle" ∧ yX6_checkIndex.cls ≠ "java/lang/invoke/VarHandle" ∧ (parseMethodDescriptor yX6_checkIndex.desc).map (fun d => d.parameters.length) = some 2 := by decide +kernel
def fE_X6_checkIndex  (ix : Int32) (ct : Int32) : Nat :=
  if ix < 0 then
    3
  else
    if ix < ct then
      0
    else
      3
set_option maxHeartbeats 4000000 in
set_option maxRecDepth 100000 in
theorem c_X6_checkIndex (l : Launch) (hl0 : l.stackTraces = false) (D : va_G) (r : Nat) (C J : Nat → Int32) (G : Nat → Nat → Int32) (n : Nat) (Y X U Z F : Nat → Int32) (ix : Int32) (ct : Int32) : vx_Met l yX6_checkIndex (wA yX6_checkIndex cX6_checkIndex 2 none) (rmX 6 1 6) (xPc D r [.int ix, .int ct] (fun H => Sn D r C J G n Y X U Z F H)) (xQv (inS r) (fE_X6_checkIndex ix ct) (fun H => Sn D r C J G n Y X U Z F H)) (xX (inS r) (fE_X6_checkIndex ix ct) (fun H => Sn D r C J G n Y X U Z F H)) 1 6 (inS r) := by
  refine vx_ofW (cc := cX6_checkIndex) (maxL := 2) (ret := none) (by decide) rfl ?_
  intro p e s m args below meth c s₁ B hml hex hv
  obtain ⟨hav, hG, hK, hKx⟩ := hv
  have hr0 : ∀ q, inS r q → r ≤ q := fun q h => h.1
  have hx := B.exec
  have hb := B.bytes
  have hr := B.returns
  have hts0 := atoms_spec (ws := wA yX6_checkIndex cX6_checkIndex 2 none) B.pre
  have hts : ∀ w ∈ AW, w.before _ s = true := fun w h => hts0 w (List.mem_cons_of_mem _ h)
  have hown : s.vm.findClass RX6 = some m.cls := findClass_of_methodNamed B.named
  have hlocks := B.notSynchronized
  have hA : ∀ q, (inS r) q → (inS r) q := fun _ h => h
  have hS : va_S (inS r) s.heap s.heap [] := va_S.rf
  have hG : Sn D r C J G n Y X U Z F s.heap := hG
  have hl := lv_entry ([.int ix, .int ct]) (n := 2) (Nat.le_of_ble_eq_true rfl)
  refine W.eq (g2 := entryFrame m ([.int ix, .int ct] : List Value).toArray 2) (by rw [hav]) ?_
  rw [lg_entry_eq]
  generalize (lg_sl ([.int ix, .int ct]) ++ List.replicate (2 - (lg_sl ([.int ix, .int ct])).length) Slot.unset).toArray = ls at hl ⊢
  have hl : lv_has ls 2 [(0, .int ix), (1, .int ct)] := hl
  refine lv_iload_n hx hb dX6_checkIndex_0 rfl (lv_at hl 0 rfl) ?_
  refine lv_if_lt (tgt := 9) hx hb dX6_checkIndex_1 (by decide) (fun c1 => ?_) (fun c1 => ?_)
  · have hG9 := hG
    have hE : fE_X6_checkIndex ix ct = 3 := by unfold fE_X6_checkIndex; (try dsimp only); (try rw [if_pos c1]); (try rfl)
    exact xthr 3 ⟨by decide, by decide⟩ (ik := 229) (is := 231) (text := "there is no such number") exg3 exk3 exo3 hx hb hl0 hml hown hts hl.1 hKx hr0 qL_X6_229 qK_IndexOutOfBoundsException (by decide +kernel) hS dX6_checkIndex_9 dX6_checkIndex_12 dX6_checkIndex_13 dX6_checkIndex_15 dX6_checkIndex_18 hex hlocks ⟨Nat.le_of_ble_eq_true rfl, Nat.le_of_ble_eq_true rfl⟩ (Nat.le_of_ble_eq_true rfl) (Nat.le_of_ble_eq_true rfl) hE (fun H1 hz1 hq1 => hG9.keep hz1 hq1) (by omega) (by omega)
  · refine lv_iload_n hx hb dX6_checkIndex_4 rfl (lv_at hl 0 rfl) ?_
    refine lv_iload_n hx hb dX6_checkIndex_5 rfl (lv_at hl 1 rfl) ?_
    refine lv_icmp_lt (tgt := 19) hx hb dX6_checkIndex_6 (by decide) (fun c6 => ?_) (fun c6 => ?_)
    · have hG9 := hG
      refine vx_ret (W.widen (k := 1) (n := 6) (by omega) (by omega) ?_)
      exact W.vret hx hb hr (fun t ht hW => xQv_of (by unfold fE_X6_checkIndex; (try dsimp only); (try rw [if_neg c1, if_pos c6]); (try rfl)) hG9 hS ht) hS.2.2 dX6_checkIndex_19
    · have hG9 := hG
      have hE : fE_X6_checkIndex ix ct = 3 := by unfold fE_X6_checkIndex; (try dsimp only); (try rw [if_neg c1, if_neg c6]); (try rfl)
      exact xthr 3 ⟨by decide, by decide⟩ (ik := 229) (is := 231) (text := "there is no such number") exg3 exk3 exo3 hx hb hl0 hml hown hts hl.1 hKx hr0 qL_X6_229 qK_IndexOutOfBoundsException (by decide +kernel) hS dX6_checkIndex_9 dX6_checkIndex_12 dX6_checkIndex_13 dX6_checkIndex_15 dX6_checkIndex_18 hex hlocks ⟨Nat.le_of_ble_eq_true rfl, Nat.le_of_ble_eq_true rfl⟩ (Nat.le_of_ble_eq_true rfl) (Nat.le_of_ble_eq_true rfl) hE (fun H1 hz1 hq1 => hG9.keep hz1 hq1) (by omega) (by omega)
theorem hds_X6_checkWeather : yX6_checkWeather.cls ≠ "java/lang/invoke/MethodHandle" ∧ yX6_checkWeather.cls ≠ "java/lang/invoke/VarHandle" ∧ (parseMethodDescriptor yX6_checkWeather.desc).map (fun d => d.parameters.length) = some 2 := by decide +kernel
def fE_X6_checkWeather  (tmp : Int32) (sn : Int32) : Nat :=
  if fE_X6_checkArgument tmp (-300) 300 = 0 then
    if fE_X6_checkArgument sn 0 100 = 0 then
      0
    else
      fE_X6_checkArgument sn 0 100
  else
    fE_X6_checkArgument tmp (-300) 300
set_option maxHeartbeats 4000000 in
set_option maxRecDepth 100000 in
theorem c_X6_checkWeather (l : Launch) (hl0 : l.stackTraces = false) (D : va_G) (r : Nat) (C J : Nat → Int32) (G : Nat → Nat → Int32) (n : Nat) (Y X U Z F : Nat → Int32) (tmp : Int32) (sn : Int32) : vx_Met l yX6_checkWeather (wA yX6_checkWeather cX6_checkWeather 2 none) (rmX 7 2 12) (xPc D r [.int tmp, .int sn] (fun H => Sn D r C J G n Y X U Z F H)) (xQv (inS r) (fE_X6_checkWeather tmp sn) (fun H => Sn D r C J G n Y X U Z F H)) (xX (inS r) (fE_X6_checkWeather tmp sn) (fun H => Sn D r C J G n Y X U Z F H)) 2 12 (inS r) := by
  refine vx_ofW (cc := cX6_checkWeather) (maxL := 2) (ret := none) (by decide) rfl ?_
  intro p e s m args below meth c s₁ B hml hex hv
  obtain ⟨hav, hG, hK, hKx⟩ := hv
  have hr0 : ∀ q, inS r q → r ≤ q := fun q h => h.1
  have hx := B.exec
  have hb := B.bytes
  have hr := B.returns
  have hts0 := atoms_spec (ws := wA yX6_checkWeather cX6_checkWeather 2 none) B.pre
  have hts : ∀ w ∈ AW, w.before _ s = true := fun w h => hts0 w (List.mem_cons_of_mem _ h)
  have hown : s.vm.findClass RX6 = some m.cls := findClass_of_methodNamed B.named
  have hlocks := B.notSynchronized
  have hA : ∀ q, (inS r) q → (inS r) q := fun _ h => h
  have hS : va_S (inS r) s.heap s.heap [] := va_S.rf
  have hG : Sn D r C J G n Y X U Z F s.heap := hG
  have hl := lv_entry ([.int tmp, .int sn]) (n := 2) (Nat.le_of_ble_eq_true rfl)
  refine W.eq (g2 := entryFrame m ([.int tmp, .int sn] : List Value).toArray 2) (by rw [hav]) ?_
  rw [lg_entry_eq]
  generalize (lg_sl ([.int tmp, .int sn]) ++ List.replicate (2 - (lg_sl ([.int tmp, .int sn])).length) Slot.unset).toArray = ls at hl ⊢
  have hl : lv_has ls 2 [(0, .int tmp), (1, .int sn)] := hl
  refine lv_iload_n hx hb dX6_checkWeather_0 rfl (lv_at hl 0 rfl) ?_
  refine lv_sipush (v := (-300)) hx hb dX6_checkWeather_1 (by decide) ?_
  refine lv_sipush (v := 300) hx hb dX6_checkWeather_4 (by decide) ?_
  refine xcSv (As := [.int tmp, .int (-300), .int 300]) (rest := []) hx hb hml hown hts hl.1 hK hKx hr0 (c_X6_checkArgument l hl0 D r C J G n Y X U Z F tmp (-300) 300) (gaS qM_X6_33 qT_X6_checkArgument qK_X6 qC_X6_checkArgument) hds_X6_checkArgument ⟨Nat.le_of_ble_eq_true rfl, Nat.le_of_ble_eq_true rfl⟩ hG rfl (Nat.le_of_ble_eq_true rfl) ⟨Nat.le_of_ble_eq_true rfl, Nat.le_of_ble_eq_true rfl⟩ dX6_checkWeather_7 hS hA (fun ce q9 H locs hcx hG hz hq hS hce hv hcl => ?_) (fun H locs hc7 hG hz hq hS => ?_)
  · have hG : Sn D r C J G n Y X U Z F H := hG
    have hG9 := hG
    have hE : fE_X6_checkWeather tmp sn = fE_X6_checkArgument tmp (-300) 300 := by unfold fE_X6_checkWeather; (try dsimp only); (try rw [if_neg hcx]); (try rfl)
    exact xout hex hlocks hS (by rw [hE]; exact hcx) hG9 hce hv hE.symm hcl (by omega) (by omega)
  have hG : Sn D r C J G n Y X U Z F H := hG
  · refine lv_iload_n hx hb dX6_checkWeather_10 rfl (lv_at hl 1 rfl) ?_
    refine lv_iconst (v := 0) hx hb dX6_checkWeather_11 (by decide) ?_
    refine lv_bipush (v := 100) hx hb dX6_checkWeather_12 (by decide) ?_
    refine xcSv (As := [.int sn, .int 0, .int 100]) (rest := []) hx hb hml hown hts hl.1 hK hKx hr0 (c_X6_checkArgument l hl0 D r C J G n Y X U Z F sn 0 100) (gaS qM_X6_33 qT_X6_checkArgument qK_X6 qC_X6_checkArgument) hds_X6_checkArgument ⟨Nat.le_of_ble_eq_true rfl, Nat.le_of_ble_eq_true rfl⟩ hG rfl (Nat.le_of_ble_eq_true rfl) ⟨Nat.le_of_ble_eq_true rfl, Nat.le_of_ble_eq_true rfl⟩ dX6_checkWeather_14 hS hA (fun ce q9 H locs hcx hG hz hq hS hce hv hcl => ?_) (fun H locs hc14 hG hz hq hS => ?_)
    · have hG : Sn D r C J G n Y X U Z F H := hG
      have hG9 := hG
      have hE : fE_X6_checkWeather tmp sn = fE_X6_checkArgument sn 0 100 := by unfold fE_X6_checkWeather; (try dsimp only); (try rw [if_pos hc7, if_neg hcx]); (try rfl)
      exact xout hex hlocks hS (by rw [hE]; exact hcx) hG9 hce hv hE.symm hcl (by omega) (by omega)
    have hG : Sn D r C J G n Y X U Z F H := hG
    · have hG9 := hG
      refine vx_ret (W.widen (k := 2) (n := 12) (by omega) (by omega) ?_)
      exact W.vret hx hb hr (fun t ht hW => xQv_of (by unfold fE_X6_checkWeather; (try dsimp only); (try rw [if_pos hc7, if_pos hc14]); (try rfl)) hG9 hS ht) hS.2.2 dX6_checkWeather_17
theorem hdv_X6_checkStreet : yX6_checkStreet.cls = RX6 ∧ yX6_checkStreet.cls ≠ "java/lang/invoke/MethodHandle" ∧ yX6_checkStreet.cls ≠ "java/lang/invoke/VarHandle" ∧ (parseMethodDescriptor yX6_checkStreet.desc).map (fun d => d.parameters.length) = some 1 := by decide +kernel
def fE_X6_checkStreet (C : Nat → Int32) (nb : Int32) : Nat :=
  if fE_X6_checkIndex nb (C 1) = 0 then
    0
  else
    fE_X6_checkIndex nb (C 1)
set_option maxHeartbeats 4000000 in
set_option maxRecDepth 100000 in
theorem c_X6_checkStreet (l : Launch) (hl0 : l.stackTraces = false) (D : va_G) (r : Nat) (C J : Nat → Int32) (G : Nat → Nat → Int32) (n : Nat) (Y X U Z F : Nat → Int32) (nb : Int32) : vx_Met l yX6_checkStreet (wA yX6_checkStreet cX6_checkStreet 2 none) (rmX 7 1 6) (xPc D r [.ref r, .int nb] (fun H => Sn D r C J G n Y X U Z F H)) (xQv (inS r) (fE_X6_checkStreet C nb) (fun H => Sn D r C J G n Y X U Z F H)) (xX (inS r) (fE_X6_checkStreet C nb) (fun H => Sn D r C J G n Y X U Z F H)) 1 6 (inS r) := by
  refine vx_ofW (cc := cX6_checkStreet) (maxL := 2) (ret := none) (by decide) rfl ?_
  intro p e s m args below meth c s₁ B hml hex hv
  obtain ⟨hav, hG, hK, hKx⟩ := hv
  have hr0 : ∀ q, inS r q → r ≤ q := fun q h => h.1
  have hx := B.exec
  have hb := B.bytes
  have hr := B.returns
  have hts0 := atoms_spec (ws := wA yX6_checkStreet cX6_checkStreet 2 none) B.pre
  have hts : ∀ w ∈ AW, w.before _ s = true := fun w h => hts0 w (List.mem_cons_of_mem _ h)
  have hown : s.vm.findClass RX6 = some m.cls := findClass_of_methodNamed B.named
  have hlocks := B.notSynchronized
  have hA : ∀ q, (inS r) q → (inS r) q := fun _ h => h
  have hS : va_S (inS r) s.heap s.heap [] := va_S.rf
  have hG : Sn D r C J G n Y X U Z F s.heap := hG
  have hl := lv_entry ([.ref r, .int nb]) (n := 2) (Nat.le_of_ble_eq_true rfl)
  refine W.eq (g2 := entryFrame m ([.ref r, .int nb] : List Value).toArray 2) (by rw [hav]) ?_
  rw [lg_entry_eq]
  generalize (lg_sl ([.ref r, .int nb]) ++ List.replicate (2 - (lg_sl ([.ref r, .int nb])).length) Slot.unset).toArray = ls at hl ⊢
  have hl : lv_has ls 2 [(0, .ref r), (1, .int nb)] := hl
  refine lv_iload_n hx hb dX6_checkStreet_0 rfl (lv_at hl 1 rfl) ?_
  refine lv_aload_n hx hb dX6_checkStreet_1 rfl (lv_at hl 0 rfl) ?_
  refine getQc hx hb hts hown hK hG qF_X6_10 dX6_checkStreet_2 ?_
  refine getC 1 1 rfl hx hb hts hown hK hG.gc (by decide) (by decide) (by decide) (by decide) qF_X6_37 rfl dX6_checkStreet_5 ?_
  refine xcSv (As := [.int nb, .int (C 1)]) (rest := []) hx hb hml hown hts hl.1 hK hKx hr0 (c_X6_checkIndex l hl0 D r C J G n Y X U Z F nb (C 1)) (gaS qM_X6_94 qT_X6_checkIndex qK_X6 qC_X6_checkIndex) hds_X6_checkIndex ⟨Nat.le_of_ble_eq_true rfl, Nat.le_of_ble_eq_true rfl⟩ hG rfl (Nat.le_of_ble_eq_true rfl) ⟨Nat.le_of_ble_eq_true rfl, Nat.le_of_ble_eq_true rfl⟩ dX6_checkStreet_8 hS hA (fun ce q9 H locs hcx hG hz hq hS hce hv hcl => ?_) (fun H locs hc8 hG hz hq hS => ?_)
  · have hG : Sn D r C J G n Y X U Z F H := hG
    have hG9 := hG
    have hE : fE_X6_checkStreet C nb = fE_X6_checkIndex nb (C 1) := by unfold fE_X6_checkStreet; (try dsimp only); (try rw [if_neg hcx]); (try rfl)
    exact xout hex hlocks hS (by rw [hE]; exact hcx) hG9 hce hv hE.symm hcl (by omega) (by omega)
  have hG : Sn D r C J G n Y X U Z F H := hG
  · have hG9 := hG
    refine vx_ret (W.widen (k := 1) (n := 6) (by omega) (by omega) ?_)
    exact W.vret hx hb hr (fun t ht hW => xQv_of (by unfold fE_X6_checkStreet; (try dsimp only); (try rw [if_pos hc8]); (try rfl)) hG9 hS ht) hS.2.2 dX6_checkStreet_11
theorem hdv_X6_checkPlow : yX6_checkPlow.cls = RX6 ∧ yX6_checkPlow.cls ≠ "java/lang/invoke/MethodHandle" ∧ yX6_checkPlow.cls ≠ "java/lang/invoke/VarHandle" ∧ (parseMethodDescriptor yX6_checkPlow.desc).map (fun d => d.parameters.length) = some 1 := by decide +kernel
def fE_X6_checkPlow (C : Nat → Int32) (nb : Int32) : Nat :=
  if fE_X6_checkIndex nb (C 2) = 0 then
    0
  else
    fE_X6_checkIndex nb (C 2)
set_option maxHeartbeats 4000000 in
set_option maxRecDepth 100000 in
theorem c_X6_checkPlow (l : Launch) (hl0 : l.stackTraces = false) (D : va_G) (r : Nat) (C J : Nat → Int32) (G : Nat → Nat → Int32) (n : Nat) (Y X U Z F : Nat → Int32) (nb : Int32) : vx_Met l yX6_checkPlow (wA yX6_checkPlow cX6_checkPlow 2 none) (rmX 7 1 6) (xPc D r [.ref r, .int nb] (fun H => Sn D r C J G n Y X U Z F H)) (xQv (inS r) (fE_X6_checkPlow C nb) (fun H => Sn D r C J G n Y X U Z F H)) (xX (inS r) (fE_X6_checkPlow C nb) (fun H => Sn D r C J G n Y X U Z F H)) 1 6 (inS r) := by
  refine vx_ofW (cc := cX6_checkPlow) (maxL := 2) (ret := none) (by decide) rfl ?_
  intro p e s m args below meth c s₁ B hml hex hv
  obtain ⟨hav, hG, hK, hKx⟩ := hv
  have hr0 : ∀ q, inS r q → r ≤ q := fun q h => h.1
  have hx := B.exec
  have hb := B.bytes
  have hr := B.returns
  have hts0 := atoms_spec (ws := wA yX6_checkPlow cX6_checkPlow 2 none) B.pre
  have hts : ∀ w ∈ AW, w.before _ s = true := fun w h => hts0 w (List.mem_cons_of_mem _ h)
  have hown : s.vm.findClass RX6 = some m.cls := findClass_of_methodNamed B.named
  have hlocks := B.notSynchronized
  have hA : ∀ q, (inS r) q → (inS r) q := fun _ h => h
  have hS : va_S (inS r) s.heap s.heap [] := va_S.rf
  have hG : Sn D r C J G n Y X U Z F s.heap := hG
  have hl := lv_entry ([.ref r, .int nb]) (n := 2) (Nat.le_of_ble_eq_true rfl)
  refine W.eq (g2 := entryFrame m ([.ref r, .int nb] : List Value).toArray 2) (by rw [hav]) ?_
  rw [lg_entry_eq]
  generalize (lg_sl ([.ref r, .int nb]) ++ List.replicate (2 - (lg_sl ([.ref r, .int nb])).length) Slot.unset).toArray = ls at hl ⊢
  have hl : lv_has ls 2 [(0, .ref r), (1, .int nb)] := hl
  refine lv_iload_n hx hb dX6_checkPlow_0 rfl (lv_at hl 1 rfl) ?_
  refine lv_aload_n hx hb dX6_checkPlow_1 rfl (lv_at hl 0 rfl) ?_
  refine getQc hx hb hts hown hK hG qF_X6_10 dX6_checkPlow_2 ?_
  refine getC 3 2 rfl hx hb hts hown hK hG.gc (by decide) (by decide) (by decide) (by decide) qF_X6_62 rfl dX6_checkPlow_5 ?_
  refine xcSv (As := [.int nb, .int (C 2)]) (rest := []) hx hb hml hown hts hl.1 hK hKx hr0 (c_X6_checkIndex l hl0 D r C J G n Y X U Z F nb (C 2)) (gaS qM_X6_94 qT_X6_checkIndex qK_X6 qC_X6_checkIndex) hds_X6_checkIndex ⟨Nat.le_of_ble_eq_true rfl, Nat.le_of_ble_eq_true rfl⟩ hG rfl (Nat.le_of_ble_eq_true rfl) ⟨Nat.le_of_ble_eq_true rfl, Nat.le_of_ble_eq_true rfl⟩ dX6_checkPlow_8 hS hA (fun ce q9 H locs hcx hG hz hq hS hce hv hcl => ?_) (fun H locs hc8 hG hz hq hS => ?_)
  · have hG : Sn D r C J G n Y X U Z F H := hG
    have hG9 := hG
    have hE : fE_X6_checkPlow C nb = fE_X6_checkIndex nb (C 2) := by unfold fE_X6_checkPlow; (try dsimp only); (try rw [if_neg hcx]); (try rfl)
    exact xout hex hlocks hS (by rw [hE]; exact hcx) hG9 hce hv hE.symm hcl (by omega) (by omega)
  have hG : Sn D r C J G n Y X U Z F H := hG
  · have hG9 := hG
    refine vx_ret (W.widen (k := 1) (n := 6) (by omega) (by omega) ?_)
    exact W.vret hx hb hr (fun t ht hW => xQv_of (by unfold fE_X6_checkPlow; (try dsimp only); (try rw [if_pos hc8]); (try rfl)) hG9 hS ht) hS.2.2 dX6_checkPlow_11
theorem hdv_X6_checkHoursToCome : yX6_checkHoursToCome.cls = RX6 ∧ yX6_checkHoursToCome.cls ≠ "java/lang/invoke/MethodHandle" ∧ yX6_checkHoursToCome.cls ≠ "java/lang/invoke/VarHandle" ∧ (parseMethodDescriptor yX6_checkHoursToCome.desc).map (fun d => d.parameters.length) = some 1 := by decide +kernel
def fE_X6_checkHoursToCome (C : Nat → Int32) (hrs : Int32) : Nat :=
  if (C 0) + hrs ≤ 2000 then
    0
  else
    2
set_option maxHeartbeats 4000000 in
set_option maxRecDepth 100000 in
theorem c_X6_checkHoursToCome (l : Launch) (hl0 : l.stackTraces = false) (D : va_G) (r : Nat) (C J : Nat → Int32) (G : Nat → Nat → Int32) (n : Nat) (Y X U Z F : Nat → Int32) (hrs : Int32) : vx_Met l yX6_checkHoursToCome (wA yX6_checkHoursToCome cX6_checkHoursToCome 2 none) (rmX 6 1 6) (xPc D r [.ref r, .int hrs] (fun H => Sn D r C J G n Y X U Z F H)) (xQv (inS r) (fE_X6_checkHoursToCome C hrs) (fun H => Sn D r C J G n Y X U Z F H)) (xX (inS r) (fE_X6_checkHoursToCome C hrs) (fun H => Sn D r C J G n Y X U Z F H)) 1 6 (inS r) := by
  refine vx_ofW (cc := cX6_checkHoursToCome) (maxL := 2) (ret := none) (by decide) rfl ?_
  intro p e s m args below meth c s₁ B hml hex hv
  obtain ⟨hav, hG, hK, hKx⟩ := hv
  have hr0 : ∀ q, inS r q → r ≤ q := fun q h => h.1
  have hx := B.exec
  have hb := B.bytes
  have hr := B.returns
  have hts0 := atoms_spec (ws := wA yX6_checkHoursToCome cX6_checkHoursToCome 2 none) B.pre
  have hts : ∀ w ∈ AW, w.before _ s = true := fun w h => hts0 w (List.mem_cons_of_mem _ h)
  have hown : s.vm.findClass RX6 = some m.cls := findClass_of_methodNamed B.named
  have hlocks := B.notSynchronized
  have hA : ∀ q, (inS r) q → (inS r) q := fun _ h => h
  have hS : va_S (inS r) s.heap s.heap [] := va_S.rf
  have hG : Sn D r C J G n Y X U Z F s.heap := hG
  have hl := lv_entry ([.ref r, .int hrs]) (n := 2) (Nat.le_of_ble_eq_true rfl)
  refine W.eq (g2 := entryFrame m ([.ref r, .int hrs] : List Value).toArray 2) (by rw [hav]) ?_
  rw [lg_entry_eq]
  generalize (lg_sl ([.ref r, .int hrs]) ++ List.replicate (2 - (lg_sl ([.ref r, .int hrs])).length) Slot.unset).toArray = ls at hl ⊢
  have hl : lv_has ls 2 [(0, .ref r), (1, .int hrs)] := hl
  refine lv_aload_n hx hb dX6_checkHoursToCome_0 rfl (lv_at hl 0 rfl) ?_
  refine getQc hx hb hts hown hK hG qF_X6_10 dX6_checkHoursToCome_1 ?_
  refine getC 5 0 rfl hx hb hts hown hK hG.gc (by decide) (by decide) (by decide) (by decide) qF_X6_234 rfl dX6_checkHoursToCome_4 ?_
  refine lv_iload_n hx hb dX6_checkHoursToCome_7 rfl (lv_at hl 1 rfl) ?_
  refine lv_iadd hx hb dX6_checkHoursToCome_8 ?_
  refine lv_sipush (v := 2000) hx hb dX6_checkHoursToCome_9 (by decide) ?_
  refine lv_icmp_le (tgt := 25) hx hb dX6_checkHoursToCome_12 (by decide) (fun c12 => ?_) (fun c12 => ?_)
  · have hG9 := hG
    refine vx_ret (W.widen (k := 1) (n := 6) (by omega) (by omega) ?_)
    exact W.vret hx hb hr (fun t ht hW => xQv_of (by unfold fE_X6_checkHoursToCome; (try dsimp only); (try rw [if_pos c12]); (try rfl)) hG9 hS ht) hS.2.2 dX6_checkHoursToCome_25
  · have hG9 := hG
    have hE : fE_X6_checkHoursToCome C hrs = 2 := by unfold fE_X6_checkHoursToCome; (try dsimp only); (try rw [if_neg c12]); (try rfl)
    exact xthr 2 ⟨by decide, by decide⟩ (ik := 41) (is := 236) (text := "there would be more than 2000 hours") exg2 exk2 exo2 hx hb hl0 hml hown hts hl.1 hKx hr0 qL_X6_41 qK_IllegalStateException (by decide +kernel) hS dX6_checkHoursToCome_15 dX6_checkHoursToCome_18 dX6_checkHoursToCome_19 dX6_checkHoursToCome_21 dX6_checkHoursToCome_24 hex hlocks ⟨Nat.le_of_ble_eq_true rfl, Nat.le_of_ble_eq_true rfl⟩ (Nat.le_of_ble_eq_true rfl) (Nat.le_of_ble_eq_true rfl) hE (fun H1 hz1 hq1 => hG9.keep hz1 hq1) (by omega) (by omega)
