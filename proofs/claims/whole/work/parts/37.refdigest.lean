theorem hdv_X7_digest : yX7_digest.cls = RX7 ∧ yX7_digest.cls ≠ "java/lang/invoke/MethodHandle" ∧ yX7_digest.cls ≠ "java/lang/invoke/VarHandle" ∧ (parseMethodDescriptor yX7_digest.desc).map (fun d => d.parameters.length) = some 0 := by decide +kernel
def fF_X7_digest_L140 (P : Nat → Int32) : Nat → Nat → (Nat → Int32) → (Int64) → Nat → Int32
  | 0, j, Fl, hzl =>
    Fl
  | k + 1, j, Fl, hzl =>
    let h5 := fh_X7_mix hzl ((P (229 + j)).toInt64)
    fF_X7_digest_L140 P k (j + 1) Fl h5
def fh_X7_digest_L140 (P : Nat → Int32) : Nat → Nat → (Nat → Int32) → (Int64) → Int64
  | 0, j, Fl, hzl =>
    let h4 := fh_X7_mix hzl ((Fl 3).toInt64)
    h4
  | k + 1, j, Fl, hzl =>
    let h5 := fh_X7_mix hzl ((P (229 + j)).toInt64)
    fh_X7_digest_L140 P k (j + 1) Fl h5
def fR_X7_digest_L140 (P : Nat → Int32) : Nat → Nat → (Nat → Int32) → (Int64) → Int64
  | 0, j, Fl, hzl =>
    let h4 := fh_X7_mix hzl ((Fl 3).toInt64)
    h4
  | k + 1, j, Fl, hzl =>
    let h5 := fh_X7_mix hzl ((P (229 + j)).toInt64)
    fR_X7_digest_L140 P k (j + 1) Fl h5
def fh_X7_digest_B102 (P : Nat → Int32) (F : Nat → Int32) (j : Nat) : Nat → Nat → (Int64) → Int64
  | 0, w, hzb =>
    hzb
  | k + 1, w, hzb =>
    let h6 := fh_X7_mix hzb ((fR_X7_ofPlow P j w).toInt64)
    fh_X7_digest_B102 P F j k (w + 1) h6
def fF_X7_digest_L90 (P : Nat → Int32) : Nat → Nat → (Nat → Int32) → (Int64) → Nat → Int32
  | 0, j, Fl, hzl =>
    fF_X7_digest_L140 P 12 0 Fl hzl
  | k + 1, j, Fl, hzl =>
    let h7 := fh_X7_digest_B102 P Fl j (8 + nc P j) 0 hzl
    fF_X7_digest_L90 P k (j + 1) Fl h7
def fh_X7_digest_L90 (P : Nat → Int32) : Nat → Nat → (Nat → Int32) → (Int64) → Int64
  | 0, j, Fl, hzl =>
    fh_X7_digest_L140 P 12 0 Fl hzl
  | k + 1, j, Fl, hzl =>
    let h7 := fh_X7_digest_B102 P Fl j (8 + nc P j) 0 hzl
    fh_X7_digest_L90 P k (j + 1) Fl h7
def fR_X7_digest_L90 (P : Nat → Int32) : Nat → Nat → (Nat → Int32) → (Int64) → Int64
  | 0, j, Fl, hzl =>
    fR_X7_digest_L140 P 12 0 Fl hzl
  | k + 1, j, Fl, hzl =>
    let h7 := fh_X7_digest_B102 P Fl j (8 + nc P j) 0 hzl
    fR_X7_digest_L90 P k (j + 1) Fl h7
def fh_X7_digest_B59 (P : Nat → Int32) (F : Nat → Int32) (j : Nat) : Nat → Nat → (Int64) → Int64
  | 0, w, hzb =>
    hzb
  | k + 1, w, hzb =>
    let h8 := fh_X7_mix hzb ((fR_X7_ofStreet P j w).toInt64)
    fh_X7_digest_B59 P F j k (w + 1) h8
def fF_X7_digest_L47 (P : Nat → Int32) : Nat → Nat → (Nat → Int32) → (Int64) → Nat → Int32
  | 0, j, Fl, hzl =>
    fF_X7_digest_L90 P (np P) 0 Fl hzl
  | k + 1, j, Fl, hzl =>
    let h9 := fh_X7_digest_B59 P Fl j 9 0 hzl
    fF_X7_digest_L47 P k (j + 1) Fl h9
def fh_X7_digest_L47 (P : Nat → Int32) : Nat → Nat → (Nat → Int32) → (Int64) → Int64
  | 0, j, Fl, hzl =>
    fh_X7_digest_L90 P (np P) 0 Fl hzl
  | k + 1, j, Fl, hzl =>
    let h9 := fh_X7_digest_B59 P Fl j 9 0 hzl
    fh_X7_digest_L47 P k (j + 1) Fl h9
def fR_X7_digest_L47 (P : Nat → Int32) : Nat → Nat → (Nat → Int32) → (Int64) → Int64
  | 0, j, Fl, hzl =>
    fR_X7_digest_L90 P (np P) 0 Fl hzl
  | k + 1, j, Fl, hzl =>
    let h9 := fh_X7_digest_B59 P Fl j 9 0 hzl
    fR_X7_digest_L47 P k (j + 1) Fl h9
def fF_X7_digest_L23 (P : Nat → Int32) : Nat → Nat → (Nat → Int32) → (Int64) → Nat → Int32
  | 0, j, Fl, hzl =>
    fF_X7_digest_L47 P (ns P) 0 Fl hzl
  | k + 1, j, Fl, hzl =>
    let h10 := fh_X7_mix hzl ((fR_X7_valueOf P j).toInt64)
    fF_X7_digest_L23 P k (j + 1) Fl h10
def fh_X7_digest_L23 (P : Nat → Int32) : Nat → Nat → (Nat → Int32) → (Int64) → Int64
  | 0, j, Fl, hzl =>
    fh_X7_digest_L47 P (ns P) 0 Fl hzl
  | k + 1, j, Fl, hzl =>
    let h10 := fh_X7_mix hzl ((fR_X7_valueOf P j).toInt64)
    fh_X7_digest_L23 P k (j + 1) Fl h10
def fR_X7_digest_L23 (P : Nat → Int32) : Nat → Nat → (Nat → Int32) → (Int64) → Int64
  | 0, j, Fl, hzl =>
    fR_X7_digest_L47 P (ns P) 0 Fl hzl
  | k + 1, j, Fl, hzl =>
    let h10 := fh_X7_mix hzl ((fR_X7_valueOf P j).toInt64)
    fR_X7_digest_L23 P k (j + 1) Fl h10
def fF_X7_digest (P : Nat → Int32) (F : Nat → Int32) (h : Int64) : Nat → Int32 :=
  let F1 := upd F 6 0
  let h2 := (3307 : Int64)
  let h3 := fh_X7_mix h2 ((F1 5).toInt64)
  fF_X7_digest_L23 P 10 0 F1 h3
def fh_X7_digest (P : Nat → Int32) (F : Nat → Int32) (h : Int64) : Int64 :=
  let F1 := upd F 6 0
  let h2 := (3307 : Int64)
  let h3 := fh_X7_mix h2 ((F1 5).toInt64)
  fh_X7_digest_L23 P 10 0 F1 h3
def fR_X7_digest (P : Nat → Int32) (F : Nat → Int32) (h : Int64) : Int64 :=
  let F1 := upd F 6 0
  let h2 := (3307 : Int64)
  let h3 := fh_X7_mix h2 ((F1 5).toInt64)
  fR_X7_digest_L23 P 10 0 F1 h3
set_option maxHeartbeats 4000000 in
set_option maxRecDepth 100000 in
theorem c_X7_digest (l : Launch) (D : va_G) (o : Nat) (P S V T F : Nat → Int32) (h : Int64) (hw : WF P) (hQ : ∀ q, q < np P → okQ P q) (hT : okT F) (hc : okC F) : Met l yX7_digest (wA yX7_digest cX7_digest 3 (some .long)) (rmL 5) (gPc D [.ref o] (fun H => Md D o P S V T F h H)) (gQl (inM o) (fR_X7_digest P F h) (fun H => Md D o P S V T (fF_X7_digest P F h) (fh_X7_digest P F h) H)) 0 0 (inM o) := by
  refine Met.ofW (cc := cX7_digest) (maxL := 3) (ret := (some .long)) (by decide) rfl ?_
  intro p e s m args below meth c s₁ B hml hv
  obtain ⟨hav, hG, hK⟩ := hv
  have hx := B.exec
  have hb := B.bytes
  have hr := B.returns
  have hts0 := atoms_spec (ws := wA yX7_digest cX7_digest 3 (some .long)) B.pre
  have hts : ∀ w ∈ AW, w.before _ s = true := fun w h => hts0 w (List.mem_cons_of_mem _ h)
  have hown : s.vm.findClass RX7 = some m.cls := findClass_of_methodNamed B.named
  have hlocks := B.notSynchronized
  have hA : ∀ q, (inM o) q → (inM o) q := fun _ h => h
  have hS : va_S (inM o) s.heap s.heap [] := va_S.rf
  have hG : Md D o P S V T F h s.heap := hG
  have hl := lv_entry ([.ref o]) (n := 3) (Nat.le_of_ble_eq_true rfl)
  refine W.eq (g2 := entryFrame m ([.ref o] : List Value).toArray 3) (by rw [hav]) ?_
  rw [lg_entry_eq]
  generalize (lg_sl ([.ref o]) ++ List.replicate (3 - (lg_sl ([.ref o])).length) Slot.unset).toArray = ls at hl ⊢
  have hl : lv_has ls 3 [(0, .ref o)] := hl
  have hN := hw.1
  have hn20 := hw.1.2.1
  have hn3 := hw.1.2.2.2
  have L140 : ∀ (k : Nat) (j : Nat) (Fl : Nat → Int32) (hzl : Int64) (H : Heap) (locs : List Loc) (ls : Array Slot) (hik : j + k = 12) (hfF : fF_X7_digest P F h = fF_X7_digest_L140 P k j Fl hzl) (hfh : fh_X7_digest P F h = fh_X7_digest_L140 P k j Fl hzl) (hfR : fR_X7_digest P F h = fR_X7_digest_L140 P k j Fl hzl) (hG : Md D o P S V T Fl hzl H) (hS : va_S (inM o) s.heap H locs) (hl : lv_has ls 3 [(0, .ref o), (1, .int (nI j))]), W p l e (headSpec (wA yX7_digest cX7_digest 3 (some .long)) (rmL 5)).room s m args below meth c H locs 0 0 (MQ below (gQl (inM o) (fR_X7_digest P F h) (fun H => Md D o P S V T (fF_X7_digest P F h) (fh_X7_digest P F h) H)) args s 0 0 (inM o)) (F0 m 140 ls []) := by
    intro k
    induction k with
    | zero =>
      intro j Fl hzl H locs ls hik hfF hfh hfR hG hS hl
      refine lv_iload_n hx hb dX7_digest_140 rfl (lv_at hl 1 rfl) ?_
      refine lv_bipush (v := 12) hx hb dX7_digest_141 (by decide) ?_
      refine lv_icmp_ge (tgt := 167) hx hb dX7_digest_143 (by decide) (fun c143 => ?_) (fun c143 => ?_)
      · have c143 : 12 ≤ j := (nI_leI (a := 12) (b := j) (by omega) (by omega)).mp c143
        refine lv_aload_n hx hb dX7_digest_167 rfl (lv_at hl 0 rfl) ?_
        refine lv_aload_n hx hb dX7_digest_168 rfl (lv_at hl 0 rfl) ?_
        refine getM 3 hx hb hts hown hK hG (by decide) qF_X7_30 rfl dX7_digest_169 ?_
        refine lv_i2l (v := (Fl 3).toInt64) hx hb dX7_digest_172 rfl ?_
        refine gcVv (As := [.long ((Fl 3).toInt64)]) (rest := []) hx hb hml hown hts hl.1 hK (c_X7_mix l D o P S V T Fl hzl ((Fl 3).toInt64)) (gaV qM_X7_169 qI_X7_mix qS_X7_mix qK_X7 qC_X7_mix) hdv_X7_mix ⟨Nat.le_of_ble_eq_true rfl, Nat.le_of_ble_eq_true rfl⟩ hG (hG.recv hK) rfl (Nat.le_of_ble_eq_true rfl) ⟨Nat.zero_le _, Nat.zero_le _⟩ dX7_digest_173 hS hA (fun H locs hG _ _ hS => ?_)
        have hG : Md D o P S V T Fl (fh_X7_mix hzl ((Fl 3).toInt64)) H := hG
        generalize eh4 : fh_X7_mix hzl ((Fl 3).toInt64) = h4 at hG
        refine lv_aload_n hx hb dX7_digest_176 rfl (lv_at hl 0 rfl) ?_
        refine getMh hx hb hts hown hK hG qF_X7_163 dX7_digest_177 ?_
        subst eh4
        have hG9 : Md D o P S V T (fF_X7_digest P F h) (fh_X7_digest P F h) H := by
          rw [hfF, fF_X7_digest_L140]; (try dsimp only)
          rw [hfh, fh_X7_digest_L140]; (try dsimp only)
          exact hG
        exact W.lret hx hb hr (fun t ht hW => gQl_of (by rw [hfR, fR_X7_digest_L140]; (try dsimp only); (try rfl)) hG9 hS ht) hS.2.2 dX7_digest_180
      · have c143 : ¬ 12 ≤ j := fun h => c143 ((nI_leI (a := 12) (b := j) (by omega) (by omega)).mpr h)
        exfalso; omega
    | succ k ih =>
      intro j Fl hzl H locs ls hik hfF hfh hfR hG hS hl
      refine lv_iload_n hx hb dX7_digest_140 rfl (lv_at hl 1 rfl) ?_
      refine lv_bipush (v := 12) hx hb dX7_digest_141 (by decide) ?_
      refine lv_icmp_ge (tgt := 167) hx hb dX7_digest_143 (by decide) (fun c143 => ?_) (fun c143 => ?_)
      · have c143 : 12 ≤ j := (nI_leI (a := 12) (b := j) (by omega) (by omega)).mp c143
        exfalso; omega
      · have c143 : ¬ 12 ≤ j := fun h => c143 ((nI_leI (a := 12) (b := j) (by omega) (by omega)).mpr h)
        refine lv_aload_n hx hb dX7_digest_146 rfl (lv_at hl 0 rfl) ?_
        refine lv_aload_n hx hb dX7_digest_147 rfl (lv_at hl 0 rfl) ?_
        refine getMm hx hb hts hown hK hG qF_X7_7 dX7_digest_148 ?_
        refine lv_sipush (v := 229) hx hb dX7_digest_151 (by decide) ?_
        refine lv_iload_n hx hb dX7_digest_154 rfl (lv_at hl 1 rfl) ?_
        refine iaddN (a := 229) (b := j) hx hb dX7_digest_155 ?_
        refine aldMm (k := 229 + j) hx hb hK hG (by omega) dX7_digest_156 ?_
        refine lv_i2l (v := (P (229 + j)).toInt64) hx hb dX7_digest_157 rfl ?_
        refine gcVv (As := [.long ((P (229 + j)).toInt64)]) (rest := []) hx hb hml hown hts hl.1 hK (c_X7_mix l D o P S V T Fl hzl ((P (229 + j)).toInt64)) (gaV qM_X7_169 qI_X7_mix qS_X7_mix qK_X7 qC_X7_mix) hdv_X7_mix ⟨Nat.le_of_ble_eq_true rfl, Nat.le_of_ble_eq_true rfl⟩ hG (hG.recv hK) rfl (Nat.le_of_ble_eq_true rfl) ⟨Nat.zero_le _, Nat.zero_le _⟩ dX7_digest_158 hS hA (fun H locs hG _ _ hS => ?_)
        have hG : Md D o P S V T Fl (fh_X7_mix hzl ((P (229 + j)).toInt64)) H := hG
        generalize eh5 : fh_X7_mix hzl ((P (229 + j)).toInt64) = h5 at hG
        refine lv_iinc (v := nI (j + 1)) (lv' := [(1, .int (nI (j + 1))), (0, .ref o)]) hx hb dX7_digest_161 hl (k := 1) rfl (nI_add j 1) (by decide) rfl (fun ls hl => ?_)
        refine lv_goto (tgt := 140) hx hb dX7_digest_164 (by decide) ?_
        subst eh5
        exact ih (j + 1) _ _ _ _ _ (by first | assumption | omega) (by rw [hfF, fF_X7_digest_L140]; (try dsimp only); (try rfl)) (by rw [hfh, fh_X7_digest_L140]; (try dsimp only); (try rfl)) (by rw [hfR, fR_X7_digest_L140]; (try dsimp only); (try rfl)) hG hS (lv_sub hl [1, 0] rfl)
  have L90 : ∀ (k : Nat) (j : Nat) (Fl : Nat → Int32) (hzl : Int64) (H : Heap) (locs : List Loc) (ls : Array Slot) (hik : j + k = np P) (hfF : fF_X7_digest P F h = fF_X7_digest_L90 P k j Fl hzl) (hfh : fh_X7_digest P F h = fh_X7_digest_L90 P k j Fl hzl) (hfR : fR_X7_digest P F h = fR_X7_digest_L90 P k j Fl hzl) (hG : Md D o P S V T Fl hzl H) (hS : va_S (inM o) s.heap H locs) (hl : lv_has ls 3 [(0, .ref o), (1, .int (nI j))]), W p l e (headSpec (wA yX7_digest cX7_digest 3 (some .long)) (rmL 5)).room s m args below meth c H locs 0 0 (MQ below (gQl (inM o) (fR_X7_digest P F h) (fun H => Md D o P S V T (fF_X7_digest P F h) (fh_X7_digest P F h) H)) args s 0 0 (inM o)) (F0 m 90 ls []) := by
    intro k
    induction k with
    | zero =>
      intro j Fl hzl H locs ls hik hfF hfh hfR hG hS hl
      refine lv_iload_n hx hb dX7_digest_90 rfl (lv_at hl 1 rfl) ?_
      refine lv_aload_n hx hb dX7_digest_91 rfl (lv_at hl 0 rfl) ?_
      refine getMm hx hb hts hown hK hG qF_X7_7 dX7_digest_92 ?_
      refine lv_iconst (v := 2) hx hb dX7_digest_95 (by decide) ?_
      refine aldMm (k := 2) hx hb hK hG (by omega) dX7_digest_96 ?_
      refine topN (n := (np P)) hw.1.2.2.1 ?_
      refine lv_icmp_ge (tgt := 138) hx hb dX7_digest_97 (by decide) (fun c97 => ?_) (fun c97 => ?_)
      · have c97 : (np P) ≤ j := (nI_leI (a := (np P)) (b := j) (by omega) (by omega)).mp c97
        refine lv_iconst (v := 0) hx hb dX7_digest_138 (by decide) ?_
        refine lv_istore_n (lv' := [(1, .int 0), (0, .ref o)]) hx hb dX7_digest_139 rfl hl (by decide) rfl (fun ls hl => ?_)
        exact L140 12 0 _ _ _ _ _ (by first | assumption | omega) (by rw [hfF, fF_X7_digest_L90]; (try dsimp only); (try rfl)) (by rw [hfh, fh_X7_digest_L90]; (try dsimp only); (try rfl)) (by rw [hfR, fR_X7_digest_L90]; (try dsimp only); (try rfl)) hG hS (lv_sub hl [1, 0] rfl)
      · have c97 : ¬ (np P) ≤ j := fun h => c97 ((nI_leI (a := (np P)) (b := j) (by omega) (by omega)).mpr h)
        exfalso; omega
    | succ k ih =>
      intro j Fl hzl H locs ls hik hfF hfh hfR hG hS hl
      refine lv_iload_n hx hb dX7_digest_90 rfl (lv_at hl 1 rfl) ?_
      refine lv_aload_n hx hb dX7_digest_91 rfl (lv_at hl 0 rfl) ?_
      refine getMm hx hb hts hown hK hG qF_X7_7 dX7_digest_92 ?_
      refine lv_iconst (v := 2) hx hb dX7_digest_95 (by decide) ?_
      refine aldMm (k := 2) hx hb hK hG (by omega) dX7_digest_96 ?_
      refine topN (n := (np P)) hw.1.2.2.1 ?_
      refine lv_icmp_ge (tgt := 138) hx hb dX7_digest_97 (by decide) (fun c97 => ?_) (fun c97 => ?_)
      · have c97 : (np P) ≤ j := (nI_leI (a := (np P)) (b := j) (by omega) (by omega)).mp c97
        exfalso; omega
      · have c97 : ¬ (np P) ≤ j := fun h => c97 ((nI_leI (a := (np P)) (b := j) (by omega) (by omega)).mpr h)
        refine lv_iconst (v := 0) hx hb dX7_digest_100 (by decide) ?_
        refine lv_istore_n (lv' := [(2, .int 0), (0, .ref o), (1, .int (nI j))]) hx hb dX7_digest_101 rfl hl (by decide) rfl (fun ls hl => ?_)
        have B102 : ∀ (k : Nat) (w : Nat) (hzb : Int64) (H : Heap) (locs : List Loc) (ls : Array Slot) (hw9 : w + k = 8 + nc P j) (hG : Md D o P S V T Fl hzb H) (hS : va_S (inM o) s.heap H locs) (hl : lv_has ls 3 [(0, .ref o), (1, .int (nI j)), (2, .int (nI w))]) (K : ∀ (H : Heap) (locs : List Loc) (ls : Array Slot), Md D o P S V T Fl (fh_X7_digest_B102 P Fl j k w hzb) H → va_S (inM o) s.heap H locs → lv_has ls 3 [(0, .ref o), (1, .int (nI j))] → W p l e (headSpec (wA yX7_digest cX7_digest 3 (some .long)) (rmL 5)).room s m args below meth c H locs 0 0 (MQ below (gQl (inM o) (fR_X7_digest P F h) (fun H => Md D o P S V T (fF_X7_digest P F h) (fh_X7_digest P F h) H)) args s 0 0 (inM o)) (F0 m 132 ls [])), W p l e (headSpec (wA yX7_digest cX7_digest 3 (some .long)) (rmL 5)).room s m args below meth c H locs 0 0 (MQ below (gQl (inM o) (fR_X7_digest P F h) (fun H => Md D o P S V T (fF_X7_digest P F h) (fh_X7_digest P F h) H)) args s 0 0 (inM o)) (F0 m 102 ls []) := by
          intro k
          induction k with
          | zero =>
            intro w hzb H locs ls hw9 hG hS hl K
            have h12 := (hQ j (by omega)).2
            refine lv_iload_n hx hb dX7_digest_102 rfl (lv_at hl 2 rfl) ?_
            refine lv_bipush (v := 8) hx hb dX7_digest_103 (by decide) ?_
            refine lv_aload_n hx hb dX7_digest_105 rfl (lv_at hl 0 rfl) ?_
            refine lv_iload_n hx hb dX7_digest_106 rfl (lv_at hl 1 rfl) ?_
            refine lv_iconst (v := 3) hx hb dX7_digest_107 (by decide) ?_
            refine gcVi (As := [.int (nI j), .int 3]) (rest := [.int 8, .int (nI w)]) hx hb hml hown hts hl.1 hK (c_X7_ofPlow l D o P S V T Fl hzb j 3 (by first | assumption | omega) (by first | assumption | omega)) (gaV qM_X7_58 qI_X7_ofPlow qS_X7_ofPlow qK_X7 qC_X7_ofPlow) hdv_X7_ofPlow ⟨Nat.le_of_ble_eq_true rfl, Nat.le_of_ble_eq_true rfl⟩ hG (hG.recv hK) rfl (Nat.le_of_ble_eq_true rfl) ⟨Nat.zero_le _, Nat.zero_le _⟩ dX7_digest_108 hS hA (fun H locs hG _ _ hS => ?_)
            have hG : Md D o P S V T Fl hzb H := hG
            refine topN (n := (nc P j)) (hQ _ (by omega)).1 ?_
            refine iaddN (a := 8) (b := (nc P j)) hx hb dX7_digest_111 ?_
            refine lv_icmp_ge (tgt := 132) hx hb dX7_digest_112 (by decide) (fun c112 => ?_) (fun c112 => ?_)
            · have c112 : 8 + (nc P j) ≤ w := (nI_leI (a := 8 + (nc P j)) (b := w) (by omega) (by omega)).mp c112
              exact K _ _ _ hG hS (lv_sub hl [0, 1] rfl)
            · have c112 : ¬ 8 + (nc P j) ≤ w := fun h => c112 ((nI_leI (a := 8 + (nc P j)) (b := w) (by omega) (by omega)).mpr h)
              exfalso; omega
          | succ k ih =>
            intro w hzb H locs ls hw9 hG hS hl K
            have h12 := (hQ j (by omega)).2
            refine lv_iload_n hx hb dX7_digest_102 rfl (lv_at hl 2 rfl) ?_
            refine lv_bipush (v := 8) hx hb dX7_digest_103 (by decide) ?_
            refine lv_aload_n hx hb dX7_digest_105 rfl (lv_at hl 0 rfl) ?_
            refine lv_iload_n hx hb dX7_digest_106 rfl (lv_at hl 1 rfl) ?_
            refine lv_iconst (v := 3) hx hb dX7_digest_107 (by decide) ?_
            refine gcVi (As := [.int (nI j), .int 3]) (rest := [.int 8, .int (nI w)]) hx hb hml hown hts hl.1 hK (c_X7_ofPlow l D o P S V T Fl hzb j 3 (by first | assumption | omega) (by first | assumption | omega)) (gaV qM_X7_58 qI_X7_ofPlow qS_X7_ofPlow qK_X7 qC_X7_ofPlow) hdv_X7_ofPlow ⟨Nat.le_of_ble_eq_true rfl, Nat.le_of_ble_eq_true rfl⟩ hG (hG.recv hK) rfl (Nat.le_of_ble_eq_true rfl) ⟨Nat.zero_le _, Nat.zero_le _⟩ dX7_digest_108 hS hA (fun H locs hG _ _ hS => ?_)
            have hG : Md D o P S V T Fl hzb H := hG
            refine topN (n := (nc P j)) (hQ _ (by omega)).1 ?_
            refine iaddN (a := 8) (b := (nc P j)) hx hb dX7_digest_111 ?_
            refine lv_icmp_ge (tgt := 132) hx hb dX7_digest_112 (by decide) (fun c112 => ?_) (fun c112 => ?_)
            · have c112 : 8 + (nc P j) ≤ w := (nI_leI (a := 8 + (nc P j)) (b := w) (by omega) (by omega)).mp c112
              exfalso; omega
            · have c112 : ¬ 8 + (nc P j) ≤ w := fun h => c112 ((nI_leI (a := 8 + (nc P j)) (b := w) (by omega) (by omega)).mpr h)
              refine lv_aload_n hx hb dX7_digest_115 rfl (lv_at hl 0 rfl) ?_
              refine lv_aload_n hx hb dX7_digest_116 rfl (lv_at hl 0 rfl) ?_
              refine lv_iload_n hx hb dX7_digest_117 rfl (lv_at hl 1 rfl) ?_
              refine lv_iload_n hx hb dX7_digest_118 rfl (lv_at hl 2 rfl) ?_
              refine gcVi (As := [.int (nI j), .int (nI w)]) (rest := [.ref o]) hx hb hml hown hts hl.1 hK (c_X7_ofPlow l D o P S V T Fl hzb j w (by first | assumption | omega) (by have := (hQ j (by omega)).2; omega)) (gaV qM_X7_58 qI_X7_ofPlow qS_X7_ofPlow qK_X7 qC_X7_ofPlow) hdv_X7_ofPlow ⟨Nat.le_of_ble_eq_true rfl, Nat.le_of_ble_eq_true rfl⟩ hG (hG.recv hK) rfl (Nat.le_of_ble_eq_true rfl) ⟨Nat.zero_le _, Nat.zero_le _⟩ dX7_digest_119 hS hA (fun H locs hG _ _ hS => ?_)
              have hG : Md D o P S V T Fl hzb H := hG
              refine lv_i2l (v := (fR_X7_ofPlow P j w).toInt64) hx hb dX7_digest_122 rfl ?_
              refine gcVv (As := [.long ((fR_X7_ofPlow P j w).toInt64)]) (rest := []) hx hb hml hown hts hl.1 hK (c_X7_mix l D o P S V T Fl hzb ((fR_X7_ofPlow P j w).toInt64)) (gaV qM_X7_169 qI_X7_mix qS_X7_mix qK_X7 qC_X7_mix) hdv_X7_mix ⟨Nat.le_of_ble_eq_true rfl, Nat.le_of_ble_eq_true rfl⟩ hG (hG.recv hK) rfl (Nat.le_of_ble_eq_true rfl) ⟨Nat.zero_le _, Nat.zero_le _⟩ dX7_digest_123 hS hA (fun H locs hG _ _ hS => ?_)
              have hG : Md D o P S V T Fl (fh_X7_mix hzb ((fR_X7_ofPlow P j w).toInt64)) H := hG
              generalize eh6 : fh_X7_mix hzb ((fR_X7_ofPlow P j w).toInt64) = h6 at hG
              refine lv_iinc (v := nI (w + 1)) (lv' := [(2, .int (nI (w + 1))), (0, .ref o), (1, .int (nI j))]) hx hb dX7_digest_126 hl (k := 2) rfl (nI_add w 1) (by decide) rfl (fun ls hl => ?_)
              refine lv_goto (tgt := 102) hx hb dX7_digest_129 (by decide) ?_
              subst eh6
              exact ih (w + 1) _ _ _ _ (by first | assumption | omega) hG hS (lv_sub hl [1, 2, 0] rfl) (fun H locs ls hG hS hl => K H locs ls hG hS hl)
        refine B102 (8 + nc P j) 0 _ _ _ _ (by first | assumption | omega) hG hS (lv_sub hl [1, 2, 0] rfl) (fun H locs ls hG hS hl => ?_)
        have hG : Md D o P S V T Fl (fh_X7_digest_B102 P Fl j (8 + nc P j) 0 hzl) H := hG
        generalize eh7 : fh_X7_digest_B102 P Fl j (8 + nc P j) 0 hzl = h7 at hG
        refine lv_iinc (v := nI (j + 1)) (lv' := [(1, .int (nI (j + 1))), (0, .ref o)]) hx hb dX7_digest_132 hl (k := 1) rfl (nI_add j 1) (by decide) rfl (fun ls hl => ?_)
        refine lv_goto (tgt := 90) hx hb dX7_digest_135 (by decide) ?_
        subst eh7
        exact ih (j + 1) _ _ _ _ _ (by first | assumption | omega) (by rw [hfF, fF_X7_digest_L90]; (try dsimp only); (try rfl)) (by rw [hfh, fh_X7_digest_L90]; (try dsimp only); (try rfl)) (by rw [hfR, fR_X7_digest_L90]; (try dsimp only); (try rfl)) hG hS (lv_sub hl [1, 0] rfl)
  have L47 : ∀ (k : Nat) (j : Nat) (Fl : Nat → Int32) (hzl : Int64) (H : Heap) (locs : List Loc) (ls : Array Slot) (hik : j + k = ns P) (hfF : fF_X7_digest P F h = fF_X7_digest_L47 P k j Fl hzl) (hfh : fh_X7_digest P F h = fh_X7_digest_L47 P k j Fl hzl) (hfR : fR_X7_digest P F h = fR_X7_digest_L47 P k j Fl hzl) (hG : Md D o P S V T Fl hzl H) (hS : va_S (inM o) s.heap H locs) (hl : lv_has ls 3 [(0, .ref o), (1, .int (nI j))]), W p l e (headSpec (wA yX7_digest cX7_digest 3 (some .long)) (rmL 5)).room s m args below meth c H locs 0 0 (MQ below (gQl (inM o) (fR_X7_digest P F h) (fun H => Md D o P S V T (fF_X7_digest P F h) (fh_X7_digest P F h) H)) args s 0 0 (inM o)) (F0 m 47 ls []) := by
    intro k
    induction k with
    | zero =>
      intro j Fl hzl H locs ls hik hfF hfh hfR hG hS hl
      refine lv_iload_n hx hb dX7_digest_47 rfl (lv_at hl 1 rfl) ?_
      refine lv_aload_n hx hb dX7_digest_48 rfl (lv_at hl 0 rfl) ?_
      refine getMm hx hb hts hown hK hG qF_X7_7 dX7_digest_49 ?_
      refine lv_iconst (v := 1) hx hb dX7_digest_52 (by decide) ?_
      refine aldMm (k := 1) hx hb hK hG (by omega) dX7_digest_53 ?_
      refine topN (n := (ns P)) hw.1.1 ?_
      refine lv_icmp_ge (tgt := 88) hx hb dX7_digest_54 (by decide) (fun c54 => ?_) (fun c54 => ?_)
      · have c54 : (ns P) ≤ j := (nI_leI (a := (ns P)) (b := j) (by omega) (by omega)).mp c54
        refine lv_iconst (v := 0) hx hb dX7_digest_88 (by decide) ?_
        refine lv_istore_n (lv' := [(1, .int 0), (0, .ref o)]) hx hb dX7_digest_89 rfl hl (by decide) rfl (fun ls hl => ?_)
        exact L90 (np P) 0 _ _ _ _ _ (by first | assumption | omega) (by rw [hfF, fF_X7_digest_L47]; (try dsimp only); (try rfl)) (by rw [hfh, fh_X7_digest_L47]; (try dsimp only); (try rfl)) (by rw [hfR, fR_X7_digest_L47]; (try dsimp only); (try rfl)) hG hS (lv_sub hl [1, 0] rfl)
      · have c54 : ¬ (ns P) ≤ j := fun h => c54 ((nI_leI (a := (ns P)) (b := j) (by omega) (by omega)).mpr h)
        exfalso; omega
    | succ k ih =>
      intro j Fl hzl H locs ls hik hfF hfh hfR hG hS hl
      refine lv_iload_n hx hb dX7_digest_47 rfl (lv_at hl 1 rfl) ?_
      refine lv_aload_n hx hb dX7_digest_48 rfl (lv_at hl 0 rfl) ?_
      refine getMm hx hb hts hown hK hG qF_X7_7 dX7_digest_49 ?_
      refine lv_iconst (v := 1) hx hb dX7_digest_52 (by decide) ?_
      refine aldMm (k := 1) hx hb hK hG (by omega) dX7_digest_53 ?_
      refine topN (n := (ns P)) hw.1.1 ?_
      refine lv_icmp_ge (tgt := 88) hx hb dX7_digest_54 (by decide) (fun c54 => ?_) (fun c54 => ?_)
      · have c54 : (ns P) ≤ j := (nI_leI (a := (ns P)) (b := j) (by omega) (by omega)).mp c54
        exfalso; omega
      · have c54 : ¬ (ns P) ≤ j := fun h => c54 ((nI_leI (a := (ns P)) (b := j) (by omega) (by omega)).mpr h)
        refine lv_iconst (v := 0) hx hb dX7_digest_57 (by decide) ?_
        refine lv_istore_n (lv' := [(2, .int 0), (0, .ref o), (1, .int (nI j))]) hx hb dX7_digest_58 rfl hl (by decide) rfl (fun ls hl => ?_)
        have B59 : ∀ (k : Nat) (w : Nat) (hzb : Int64) (H : Heap) (locs : List Loc) (ls : Array Slot) (hw9 : w + k = 9) (hG : Md D o P S V T Fl hzb H) (hS : va_S (inM o) s.heap H locs) (hl : lv_has ls 3 [(0, .ref o), (1, .int (nI j)), (2, .int (nI w))]) (K : ∀ (H : Heap) (locs : List Loc) (ls : Array Slot), Md D o P S V T Fl (fh_X7_digest_B59 P Fl j k w hzb) H → va_S (inM o) s.heap H locs → lv_has ls 3 [(0, .ref o), (1, .int (nI j))] → W p l e (headSpec (wA yX7_digest cX7_digest 3 (some .long)) (rmL 5)).room s m args below meth c H locs 0 0 (MQ below (gQl (inM o) (fR_X7_digest P F h) (fun H => Md D o P S V T (fF_X7_digest P F h) (fh_X7_digest P F h) H)) args s 0 0 (inM o)) (F0 m 82 ls [])), W p l e (headSpec (wA yX7_digest cX7_digest 3 (some .long)) (rmL 5)).room s m args below meth c H locs 0 0 (MQ below (gQl (inM o) (fR_X7_digest P F h) (fun H => Md D o P S V T (fF_X7_digest P F h) (fh_X7_digest P F h) H)) args s 0 0 (inM o)) (F0 m 59 ls []) := by
          intro k
          induction k with
          | zero =>
            intro w hzb H locs ls hw9 hG hS hl K
            refine lv_iload_n hx hb dX7_digest_59 rfl (lv_at hl 2 rfl) ?_
            refine lv_bipush (v := 9) hx hb dX7_digest_60 (by decide) ?_
            refine lv_icmp_ge (tgt := 82) hx hb dX7_digest_62 (by decide) (fun c62 => ?_) (fun c62 => ?_)
            · have c62 : 9 ≤ w := (nI_leI (a := 9) (b := w) (by omega) (by omega)).mp c62
              exact K _ _ _ hG hS (lv_sub hl [0, 1] rfl)
            · have c62 : ¬ 9 ≤ w := fun h => c62 ((nI_leI (a := 9) (b := w) (by omega) (by omega)).mpr h)
              exfalso; omega
          | succ k ih =>
            intro w hzb H locs ls hw9 hG hS hl K
            refine lv_iload_n hx hb dX7_digest_59 rfl (lv_at hl 2 rfl) ?_
            refine lv_bipush (v := 9) hx hb dX7_digest_60 (by decide) ?_
            refine lv_icmp_ge (tgt := 82) hx hb dX7_digest_62 (by decide) (fun c62 => ?_) (fun c62 => ?_)
            · have c62 : 9 ≤ w := (nI_leI (a := 9) (b := w) (by omega) (by omega)).mp c62
              exfalso; omega
            · have c62 : ¬ 9 ≤ w := fun h => c62 ((nI_leI (a := 9) (b := w) (by omega) (by omega)).mpr h)
              refine lv_aload_n hx hb dX7_digest_65 rfl (lv_at hl 0 rfl) ?_
              refine lv_aload_n hx hb dX7_digest_66 rfl (lv_at hl 0 rfl) ?_
              refine lv_iload_n hx hb dX7_digest_67 rfl (lv_at hl 1 rfl) ?_
              refine lv_iload_n hx hb dX7_digest_68 rfl (lv_at hl 2 rfl) ?_
              refine gcVi (As := [.int (nI j), .int (nI w)]) (rest := [.ref o]) hx hb hml hown hts hl.1 hK (c_X7_ofStreet l D o P S V T Fl hzb j w (by first | assumption | omega) (hw.2.1 _ (by omega)) (by first | assumption | omega)) (gaV qM_X7_114 qI_X7_ofStreet qS_X7_ofStreet qK_X7 qC_X7_ofStreet) hdv_X7_ofStreet ⟨Nat.le_of_ble_eq_true rfl, Nat.le_of_ble_eq_true rfl⟩ hG (hG.recv hK) rfl (Nat.le_of_ble_eq_true rfl) ⟨Nat.zero_le _, Nat.zero_le _⟩ dX7_digest_69 hS hA (fun H locs hG _ _ hS => ?_)
              have hG : Md D o P S V T Fl hzb H := hG
              refine lv_i2l (v := (fR_X7_ofStreet P j w).toInt64) hx hb dX7_digest_72 rfl ?_
              refine gcVv (As := [.long ((fR_X7_ofStreet P j w).toInt64)]) (rest := []) hx hb hml hown hts hl.1 hK (c_X7_mix l D o P S V T Fl hzb ((fR_X7_ofStreet P j w).toInt64)) (gaV qM_X7_169 qI_X7_mix qS_X7_mix qK_X7 qC_X7_mix) hdv_X7_mix ⟨Nat.le_of_ble_eq_true rfl, Nat.le_of_ble_eq_true rfl⟩ hG (hG.recv hK) rfl (Nat.le_of_ble_eq_true rfl) ⟨Nat.zero_le _, Nat.zero_le _⟩ dX7_digest_73 hS hA (fun H locs hG _ _ hS => ?_)
              have hG : Md D o P S V T Fl (fh_X7_mix hzb ((fR_X7_ofStreet P j w).toInt64)) H := hG
              generalize eh8 : fh_X7_mix hzb ((fR_X7_ofStreet P j w).toInt64) = h8 at hG
              refine lv_iinc (v := nI (w + 1)) (lv' := [(2, .int (nI (w + 1))), (0, .ref o), (1, .int (nI j))]) hx hb dX7_digest_76 hl (k := 2) rfl (nI_add w 1) (by decide) rfl (fun ls hl => ?_)
              refine lv_goto (tgt := 59) hx hb dX7_digest_79 (by decide) ?_
              subst eh8
              exact ih (w + 1) _ _ _ _ (by first | assumption | omega) hG hS (lv_sub hl [1, 2, 0] rfl) (fun H locs ls hG hS hl => K H locs ls hG hS hl)
        refine B59 9 0 _ _ _ _ (by first | assumption | omega) hG hS (lv_sub hl [1, 2, 0] rfl) (fun H locs ls hG hS hl => ?_)
        have hG : Md D o P S V T Fl (fh_X7_digest_B59 P Fl j 9 0 hzl) H := hG
        generalize eh9 : fh_X7_digest_B59 P Fl j 9 0 hzl = h9 at hG
        refine lv_iinc (v := nI (j + 1)) (lv' := [(1, .int (nI (j + 1))), (0, .ref o)]) hx hb dX7_digest_82 hl (k := 1) rfl (nI_add j 1) (by decide) rfl (fun ls hl => ?_)
        refine lv_goto (tgt := 47) hx hb dX7_digest_85 (by decide) ?_
        subst eh9
        exact ih (j + 1) _ _ _ _ _ (by first | assumption | omega) (by rw [hfF, fF_X7_digest_L47]; (try dsimp only); (try rfl)) (by rw [hfh, fh_X7_digest_L47]; (try dsimp only); (try rfl)) (by rw [hfR, fR_X7_digest_L47]; (try dsimp only); (try rfl)) hG hS (lv_sub hl [1, 0] rfl)
  have L23 : ∀ (k : Nat) (j : Nat) (Fl : Nat → Int32) (hzl : Int64) (H : Heap) (locs : List Loc) (ls : Array Slot) (hik : j + k = 10) (hfF : fF_X7_digest P F h = fF_X7_digest_L23 P k j Fl hzl) (hfh : fh_X7_digest P F h = fh_X7_digest_L23 P k j Fl hzl) (hfR : fR_X7_digest P F h = fR_X7_digest_L23 P k j Fl hzl) (hG : Md D o P S V T Fl hzl H) (hS : va_S (inM o) s.heap H locs) (hl : lv_has ls 3 [(0, .ref o), (1, .int (nI j))]), W p l e (headSpec (wA yX7_digest cX7_digest 3 (some .long)) (rmL 5)).room s m args below meth c H locs 0 0 (MQ below (gQl (inM o) (fR_X7_digest P F h) (fun H => Md D o P S V T (fF_X7_digest P F h) (fh_X7_digest P F h) H)) args s 0 0 (inM o)) (F0 m 23 ls []) := by
    intro k
    induction k with
    | zero =>
      intro j Fl hzl H locs ls hik hfF hfh hfR hG hS hl
      refine lv_iload_n hx hb dX7_digest_23 rfl (lv_at hl 1 rfl) ?_
      refine lv_bipush (v := 10) hx hb dX7_digest_24 (by decide) ?_
      refine lv_icmp_ge (tgt := 45) hx hb dX7_digest_26 (by decide) (fun c26 => ?_) (fun c26 => ?_)
      · have c26 : 10 ≤ j := (nI_leI (a := 10) (b := j) (by omega) (by omega)).mp c26
        refine lv_iconst (v := 0) hx hb dX7_digest_45 (by decide) ?_
        refine lv_istore_n (lv' := [(1, .int 0), (0, .ref o)]) hx hb dX7_digest_46 rfl hl (by decide) rfl (fun ls hl => ?_)
        exact L47 (ns P) 0 _ _ _ _ _ (by first | assumption | omega) (by rw [hfF, fF_X7_digest_L23]; (try dsimp only); (try rfl)) (by rw [hfh, fh_X7_digest_L23]; (try dsimp only); (try rfl)) (by rw [hfR, fR_X7_digest_L23]; (try dsimp only); (try rfl)) hG hS (lv_sub hl [1, 0] rfl)
      · have c26 : ¬ 10 ≤ j := fun h => c26 ((nI_leI (a := 10) (b := j) (by omega) (by omega)).mpr h)
        exfalso; omega
    | succ k ih =>
      intro j Fl hzl H locs ls hik hfF hfh hfR hG hS hl
      refine lv_iload_n hx hb dX7_digest_23 rfl (lv_at hl 1 rfl) ?_
      refine lv_bipush (v := 10) hx hb dX7_digest_24 (by decide) ?_
      refine lv_icmp_ge (tgt := 45) hx hb dX7_digest_26 (by decide) (fun c26 => ?_) (fun c26 => ?_)
      · have c26 : 10 ≤ j := (nI_leI (a := 10) (b := j) (by omega) (by omega)).mp c26
        exfalso; omega
      · have c26 : ¬ 10 ≤ j := fun h => c26 ((nI_leI (a := 10) (b := j) (by omega) (by omega)).mpr h)
        refine lv_aload_n hx hb dX7_digest_29 rfl (lv_at hl 0 rfl) ?_
        refine lv_aload_n hx hb dX7_digest_30 rfl (lv_at hl 0 rfl) ?_
        refine lv_iload_n hx hb dX7_digest_31 rfl (lv_at hl 1 rfl) ?_
        refine gcVi (As := [.int (nI j)]) (rest := [.ref o]) hx hb hml hown hts hl.1 hK (c_X7_valueOf l D o P S V T Fl hzl j hw (by first | assumption | omega)) (gaV qM_X7_111 qI_X7_valueOf qS_X7_valueOf qK_X7 qC_X7_valueOf) hdv_X7_valueOf ⟨Nat.le_of_ble_eq_true rfl, Nat.le_of_ble_eq_true rfl⟩ hG (hG.recv hK) rfl (Nat.le_of_ble_eq_true rfl) ⟨Nat.zero_le _, Nat.zero_le _⟩ dX7_digest_32 hS hA (fun H locs hG _ _ hS => ?_)
        have hG : Md D o P S V T Fl hzl H := hG
        refine lv_i2l (v := (fR_X7_valueOf P j).toInt64) hx hb dX7_digest_35 rfl ?_
        refine gcVv (As := [.long ((fR_X7_valueOf P j).toInt64)]) (rest := []) hx hb hml hown hts hl.1 hK (c_X7_mix l D o P S V T Fl hzl ((fR_X7_valueOf P j).toInt64)) (gaV qM_X7_169 qI_X7_mix qS_X7_mix qK_X7 qC_X7_mix) hdv_X7_mix ⟨Nat.le_of_ble_eq_true rfl, Nat.le_of_ble_eq_true rfl⟩ hG (hG.recv hK) rfl (Nat.le_of_ble_eq_true rfl) ⟨Nat.zero_le _, Nat.zero_le _⟩ dX7_digest_36 hS hA (fun H locs hG _ _ hS => ?_)
        have hG : Md D o P S V T Fl (fh_X7_mix hzl ((fR_X7_valueOf P j).toInt64)) H := hG
        generalize eh10 : fh_X7_mix hzl ((fR_X7_valueOf P j).toInt64) = h10 at hG
        refine lv_iinc (v := nI (j + 1)) (lv' := [(1, .int (nI (j + 1))), (0, .ref o)]) hx hb dX7_digest_39 hl (k := 1) rfl (nI_add j 1) (by decide) rfl (fun ls hl => ?_)
        refine lv_goto (tgt := 23) hx hb dX7_digest_42 (by decide) ?_
        subst eh10
        exact ih (j + 1) _ _ _ _ _ (by first | assumption | omega) (by rw [hfF, fF_X7_digest_L23]; (try dsimp only); (try rfl)) (by rw [hfh, fh_X7_digest_L23]; (try dsimp only); (try rfl)) (by rw [hfR, fR_X7_digest_L23]; (try dsimp only); (try rfl)) hG hS (lv_sub hl [1, 0] rfl)
  refine lv_aload_n hx hb dX7_digest_0 rfl (lv_at hl 0 rfl) ?_
  refine lv_iconst (v := 0) hx hb dX7_digest_1 (by decide) ?_
  refine putM 6 hx hb hts hown hK hG hS hA (by decide) qF_X7_26 rfl dX7_digest_2 (fun H locs hG hS => ?_)
  generalize eF1 : upd F 6 0 = F1 at hG
  refine lv_aload_n hx hb dX7_digest_5 rfl (lv_at hl 0 rfl) ?_
  refine lv_ldc2 hx hb hown (hts _ qV_X7_167) dX7_digest_6 ?_
  refine putMh hx hb hts hown hK hG hS hA qF_X7_163 dX7_digest_9 (fun H locs hG hS => ?_)
  generalize eh2 : (3307 : Int64) = h2 at hG
  refine lv_aload_n hx hb dX7_digest_12 rfl (lv_at hl 0 rfl) ?_
  refine lv_aload_n hx hb dX7_digest_13 rfl (lv_at hl 0 rfl) ?_
  refine getM 5 hx hb hts hown hK hG (by decide) qF_X7_124 rfl dX7_digest_14 ?_
  refine lv_i2l (v := (F1 5).toInt64) hx hb dX7_digest_17 rfl ?_
  refine gcVv (As := [.long ((F1 5).toInt64)]) (rest := []) hx hb hml hown hts hl.1 hK (c_X7_mix l D o P S V T F1 h2 ((F1 5).toInt64)) (gaV qM_X7_169 qI_X7_mix qS_X7_mix qK_X7 qC_X7_mix) hdv_X7_mix ⟨Nat.le_of_ble_eq_true rfl, Nat.le_of_ble_eq_true rfl⟩ hG (hG.recv hK) rfl (Nat.le_of_ble_eq_true rfl) ⟨Nat.zero_le _, Nat.zero_le _⟩ dX7_digest_18 hS hA (fun H locs hG _ _ hS => ?_)
  have hG : Md D o P S V T F1 (fh_X7_mix h2 ((F1 5).toInt64)) H := hG
  generalize eh3 : fh_X7_mix h2 ((F1 5).toInt64) = h3 at hG
  refine lv_iconst (v := 0) hx hb dX7_digest_21 (by decide) ?_
  refine lv_istore_n (lv' := [(1, .int 0), (0, .ref o)]) hx hb dX7_digest_22 rfl hl (by decide) rfl (fun ls hl => ?_)
  subst eh3
  subst eh2
  subst eF1
  exact L23 10 0 _ _ _ _ _ (by first | assumption | omega) (by unfold fF_X7_digest; (try dsimp only); (try rfl)) (by unfold fh_X7_digest; (try dsimp only); (try rfl)) (by unfold fR_X7_digest; (try dsimp only); (try rfl)) hG hS (lv_sub hl [1, 0] rfl)
