/-! The script's words and what the law's loop reads after its changes. -/
def lotV (xs : Nat → Int32) (L k : Nat) : Int32 := if k < L then xs k else 1742064035 * (nI k + 1741) + 1559
def lotPc (b L k : Nat) (xs : Nat → Int32) : Array Value → State → Prop := va_Pc [.ref b, .int (nI k)] (fun U => va_X b L xs U U.heap ∧ b < U.heap.size)
theorem lotPc_blind {b L k : Nat} {xs : Nat → Int32} : FrameBlind (lotPc b L k xs) := fun a U g mk q => by
  obtain ⟨q0, q1, q2⟩ := q
  exact ⟨q0, va_X.moved (u := U) (U := U.calling g mk a) (Vm.Alike.refl U.vm) q1, q2⟩
theorem hds_L_lot : yL_lot.cls ≠ "java/lang/invoke/MethodHandle" ∧ yL_lot.cls ≠ "java/lang/invoke/VarHandle" ∧ (parseMethodDescriptor yL_lot.desc).map (fun d => d.parameters.length) = some 2 := by decide +kernel
set_option maxHeartbeats 4000000 in
set_option maxRecDepth 100000 in
theorem c_L_lot (l : Launch) (b L k : Nat) (xs : Nat → Int32) (hk : k < 2 ^ 31) (hL : L < 2 ^ 31) : Met l yL_lot (wA yL_lot cL_lot 2 (some .int)) (rmL 0) (lotPc b L k xs) (gQi noA (lotV xs L k) (fun _ => True)) 0 0 noA := by
  refine Met.ofW (cc := cL_lot) (maxL := 2) (ret := (some .int)) (by decide) rfl ?_
  intro p e s m args below meth c s₁ B hml hv
  obtain ⟨hav, hX, hbl⟩ := hv
  have hx := B.exec
  have hb := B.bytes
  have hr := B.returns
  have hts0 := atoms_spec (ws := wA yL_lot cL_lot 2 (some .int)) B.pre
  have hts : ∀ w ∈ AW, w.before _ s = true := fun w h => hts0 w (List.mem_cons_of_mem _ h)
  have hown : s.vm.findClass RL = some m.cls := findClass_of_methodNamed B.named
  have hS : va_S noA s.heap s.heap [] := va_S.rf
  have hl := lv_entry ([.ref b, .int (nI k)]) (n := 2) (Nat.le_of_ble_eq_true rfl)
  refine W.eq (g2 := entryFrame m ([.ref b, .int (nI k)] : List Value).toArray 2) (by rw [hav]) ?_
  rw [lg_entry_eq]
  generalize (lg_sl ([.ref b, .int (nI k)]) ++ List.replicate (2 - (lg_sl ([.ref b, .int (nI k)])).length) Slot.unset).toArray = ls at hl ⊢
  have hl : lv_has ls 2 [(0, .ref b), (1, .int (nI k))] := hl
  refine lv_iload_n hx hb dL_lot_0 rfl (lv_at hl 1 rfl) ?_
  refine lv_aload_n hx hb dL_lot_1 rfl (lv_at hl 0 rfl) ?_
  refine va_slen hx hb hX hbl id hS dL_lot_2 ?_
  refine lv_icmp_ge (tgt := 12) hx hb dL_lot_3 (by decide) (fun c3 => ?_) (fun c3 => ?_)
  · have hc : ¬ k < L := Nat.not_lt.mpr ((nI_leI (a := L) (b := k) hL hk).mp c3)
    refine lv_ldc hx hb hown (hts _ qV_L_7) dL_lot_12 ?_
    refine lv_iload_n hx hb dL_lot_14 rfl (lv_at hl 1 rfl) ?_
    refine lv_sipush (v := 1741) hx hb dL_lot_15 (by decide) ?_
    refine lv_iadd hx hb dL_lot_18 ?_
    refine lv_imul hx hb dL_lot_19 ?_
    refine lv_sipush (v := 1559) hx hb dL_lot_20 (by decide) ?_
    refine lv_iadd hx hb dL_lot_23 ?_
    exact W.iret hx hb hr (fun t ht hW => gQi_of (by unfold lotV; rw [if_neg hc]) True.intro hS ht) hS.2.2 dL_lot_24
  · have hc : k < L := Nat.not_le.mp fun h => c3 ((nI_leI (a := L) (b := k) hL hk).mpr h)
    refine lv_aload_n hx hb dL_lot_6 rfl (lv_at hl 0 rfl) ?_
    refine lv_iload_n hx hb dL_lot_7 rfl (lv_at hl 1 rfl) ?_
    refine va_sld hx hb hX hbl id hS (vp_in_nI (by omega) (by omega)) dL_lot_8 ?_
    refine lv_goto (tgt := 24) hx hb dL_lot_9 (by decide) ?_
    exact W.iret hx hb hr (fun t ht hW => gQi_of (by unfold lotV; rw [if_pos hc, nI_clamp hk]) True.intro hS ht) hS.2.2 dL_lot_24
section LT
variable {p : Program} {l : Launch} {e : Env} {R : Room} {s : State} {m : MethodId} {args : Array Value} {below : List Frame} {meth : Method} {c : Code} {H : Heap} {locs : List Loc} {cells slots : Nat} {Q : State → Prop}
variable {cc : ByteArray} {pc : Nat} {ls : Array Slot} {rest st0 : List Value} {D : va_G} {own : String} {nL idx b L r : Nat} {xs : Nat → Int32}
theorem lwLot {k : Nat} (hx : p.tables.exec = Jvm.exec) (hb : c.code = cc) (hml : c.maxLocals = nL) (hown : s.vm.findClass own = some m.cls) (hts : ∀ w ∈ AW, w.before args s = true) (hls : ls.size = nL) (hX : va_X b L xs s s.heap) (hbl : b < r) (hsz : s.heap.size = r) (hL : L ≤ 260) (hk : k < 1000)
    (hg : GoodIn AW (va_wsS own idx yL_lot (wA yL_lot cL_lot 2 (some .int)))) (hR : 0 + 1 ≤ R.frames ∧ 8 + (2 + 11) + 30 * 0 ≤ R.locals) (hw : (rest.map fun v => v.category).sum ≤ 8) (hcs : cells ≤ R.cells ∧ slots ≤ R.slots) (hdg : decode cc pc = .ok (.invokestatic idx, 3)) (hS : va_S (fun q => r ≤ q) s.heap H locs)
    (kk : ∀ (H1 : Heap) (locs1 : List Loc), H.size ≤ H1.size → (∀ q : Nat, q < H.size → H1[q]? = H[q]?) → va_S (fun q => r ≤ q) s.heap H1 locs1 → W p l e R s m args below meth c H1 locs1 cells slots Q (F0 m (pc + 3) ls (.int (lotV xs L k) :: rest))) : W p l e R s m args below meth c H locs cells slots Q (F0 m pc ls (.int (nI k) :: .ref b :: rest)) := by
  have hq : H[b]? = s.heap[b]? := hS.2.1 b (by omega) (fun h => by have h : r ≤ b := h; omega)
  have hXH : va_X b L xs s H := hX.kept hq
  have hbH : b < H.size := Nat.lt_of_lt_of_le (by omega : b < s.heap.size) hS.1
  refine va_calli (va_runS (As := [.ref b, .int (nI k)]) (rest := rest) ⟨hx, hb, hml, hown, hts⟩ (c_L_lot l b L k xs (by omega) (by omega)) (va_cwS 2 hts hg rfl rfl rfl hds_L_lot hR) ⟨lotPc_blind, fun U hU hW => ⟨rfl, by rw [hU]; exact va_X.moved hW.alike hXH, by rw [hU]; exact hbH⟩⟩ rfl rfl hls rfl (lv_room hw) hdg hcs) hS (fun q _ h => h.elim) (fun q h => h.elim) (fun x u t H1 locs1 ht hvm hxr hB hz hk1 hS1 => ?_)
  have e1 : x = lotV xs L k := hxr
  subst e1
  exact kk H1 locs1 hz (fun q hq1 => hk1 q hq1 id) hS1
end LT
/-! What stands in the words after a change. -/
theorem rd_street {P : Nat → Int32} {L p : Nat} : sP_street P L p (9 + 8 * ns P + 0) = nI L ∧ sP_street P L p (9 + 8 * ns P + 7) = -1 ∧ sP_street P L p (9 + 8 * ns P + 5) = 0 := by
  obtain ⟨v0, v1, v2, v3, v4, v5, v6, v7⟩ := begS_v (P := P) (i := ns P) (len := nI L) (pri := nI p)
  have fb : ∀ k, sP_street P L p (9 + 8 * ns P + k) = fP_X3_begin P (ns P) (nI L) (nI p) (9 + 8 * ns P + k) := fun k => by unfold sP_street; rw [upd_n (by omega)]
  exact ⟨by rw [fb, v0], by rw [fb, v7], by rw [fb, v5]⟩
theorem rd_plow {P : Nat → Int32} {s c : Nat} : sP_plow P s c (169 + 20 * np P + 0) = nI s ∧ sP_plow P s c (169 + 20 * np P + 2) = 0 ∧ sP_plow P s c (169 + 20 * np P + 3) = 0 := by
  have hq : ∀ x, sP_plow P s c x = if 169 + 20 * np P + 2 ≤ x ∧ x < 169 + 20 * np P + 20 then 0 else if x = 2 then P 2 + 1 else if x = 169 + 20 * np P + 1 then nI c else if x = 169 + 20 * np P then nI s else P x := fun x => plL76P x
  exact ⟨by rw [hq, if_neg (by omega), if_neg (by omega), if_neg (by omega), if_pos (by omega)], by rw [hq, if_pos (by omega)], by rw [hq, if_pos (by omega)]⟩
theorem rd_stop {P : Nat → Int32} {q s : Nat} (hc : nc P q < 12) : sP_stop P q s (169 + 20 * q + 8 + nc P q) = nI s ∧ nc (sP_stop P q s) q = nc P q + 1 := by
  refine ⟨by unfold sP_stop; rw [upd_n (by omega), upd_s], ?_⟩
  have : sP_stop P q s (169 + 20 * q + 3) = nI (nc P q + 1) := upd_s
  show (sP_stop P q s (169 + 20 * q + 3)).toNatClampNeg = _
  rw [this]
  exact nI_t (by omega)
theorem rd_clear {P : Nat → Int32} {q : Nat} : sP_clear P q (169 + 20 * q + 3) = 0 ∧ sP_clear P q (169 + 20 * q + 4) = 0 ∧ sP_clear P q (169 + 20 * q + 5) = 0 := by
  unfold sP_clear
  exact ⟨by rw [upd_n (by omega), upd_n (by omega), upd_s], by rw [upd_n (by omega), upd_s], upd_s⟩
theorem rd_exch {P : Nat → Int32} {q k : Nat} : fP_X7_exchanges P q k (169 + 20 * q + 8 + (k + 1)) = P (169 + 20 * q + 8 + k) ∧ fP_X7_exchanges P q k (169 + 20 * q + 8 + k) = P (169 + 20 * q + 8 + (k + 1)) ∧ nc (fP_X7_exchanges P q k) q = nc P q := by
  unfold fP_X7_exchanges
  exact ⟨upd_s, by show upd _ _ _ _ = _; rw [upd_n (by omega), upd_s]; rfl, nc_c (by show upd _ _ _ _ = _; rw [upd_n (by omega), upd_n (by omega)])⟩
theorem rd_terms {P : Nat → Int32} {t : Nat} {a b c : Int32} : fP_X7_layTerms P t a b c (229 + 4 * t + 0) = a ∧ fP_X7_layTerms P t a b c (229 + 4 * t + 1) = b ∧ fP_X7_layTerms P t a b c (229 + 4 * t + 2) = c := by
  unfold fP_X7_layTerms
  exact ⟨by show upd _ _ _ _ = _; rw [upd_n (by omega), upd_n (by omega), upd_s], by show upd _ _ _ _ = _; rw [upd_n (by omega), upd_s], upd_s⟩
theorem in_pair {v : Int32} {k : Nat} (hk : k < 1000) : (fR_X7_in v (nI k) (nI k + 1) = 0) ↔ ¬ (v = nI k ∨ v = nI (k + 1)) := by
  rw [nI_1]
  unfold fR_X7_in
  constructor
  · intro h h2
    rcases h2 with rfl | rfl
    · rw [if_neg (by rw [nI_ltI (by omega) (by omega)]; omega), if_neg (by rw [nI_ltI (by omega) (by omega)]; omega)] at h
      exact absurd h (by decide)
    · rw [if_neg (by rw [nI_ltI (by omega) (by omega)]; omega), if_neg (by rw [nI_ltI (by omega) (by omega)]; omega)] at h
      exact absurd h (by decide)
  · intro h
    split
    · rfl
    · split
      · rfl
      · next h1 h2 =>
        exfalso
        obtain ⟨z, z2, z1⟩ := nI_of (Int32.not_lt.mpr (Int32.le_trans (nI_pos' (n := k) (by omega)) (Int32.not_lt.mp h1)))
        rw [z1] at h1 h2 h
        have a1 : ¬ z < k := fun h9 => h1 ((nI_ltI (by omega) (by omega)).mpr h9)
        have a2 : ¬ k + 1 < z := fun h9 => h2 ((nI_ltI (by omega) (by omega)).mpr h9)
        refine h (?_)
        by_cases e : z = k
        · exact Or.inl (by rw [e])
        · exact Or.inr (by rw [show z = k + 1 by omega])
theorem busy_0a {P : Nat → Int32} {q k : Nat} (h : P (169 + 20 * q + 5) ≤ 0) : fR_X7_isBusy P q (nI k) = 0 := by
  unfold fR_X7_isBusy fR_X7_ofPlow
  rw [if_pos h]
theorem busy_0b {P : Nat → Int32} {q k : Nat} (hk : k < 1000) (h1 : ¬ P (169 + 20 * q + 4) = nI k) (h2 : ¬ P (169 + 20 * q + 4) = nI (k + 1)) : fR_X7_isBusy P q (nI k) = 0 := by
  unfold fR_X7_isBusy fR_X7_ofPlow
  rw [if_pos ((in_pair hk).mpr (fun h => h.elim h1 h2))]
  split <;> rfl
theorem busy_1 {P : Nat → Int32} {q k : Nat} (hk : k < 1000) (h0 : ¬ P (169 + 20 * q + 5) ≤ 0) (h : P (169 + 20 * q + 4) = nI k ∨ P (169 + 20 * q + 4) = nI (k + 1)) : ¬ fR_X7_isBusy P q (nI k) = 0 := by
  unfold fR_X7_isBusy fR_X7_ofPlow
  rw [if_neg h0, if_neg (fun h9 => (in_pair hk).mp h9 h)]
  decide
theorem dv_le {P : Nat → Int32} {S k : Nat} (h3 : P 3 = nI S) (hS : S ≤ 100000) (hk : k ≤ 2000) : P 3 + nI k = nI (S + k) ∧ (P 3 + nI k ≤ 100000 ↔ S + k ≤ 100000) := by
  have e : P 3 + nI k = nI (S + k) := by rw [h3, nI_add]
  exact ⟨e, by rw [e]; exact nI_leI (a := S + k) (b := 100000) (by omega) (by omega)⟩
