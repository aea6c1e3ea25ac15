theorem hdv_X6_runText : yX6_runText.cls = RX6 ∧ yX6_runText.cls ≠ "java/lang/invoke/MethodHandle" ∧ yX6_runText.cls ≠ "java/lang/invoke/VarHandle" ∧ (parseMethodDescriptor yX6_runText.desc).map (fun d => d.parameters.length) = some 0 := by decide +kernel
def fC_X6_runText_L44 (Y : Nat → Int32) : Nat → Int32 → Nat → (Nat → Int32) → (Nat → Nat → Int32) → (Nat) → (Nat → Int32) → (Nat → Int32) → (Nat → Int32) → (Nat → Int32) → Nat → Int32
  | 0, acc, j, Cl, Gl, nl, Xl, Ul, Zl, Fl =>
    Cl
  | k + 1, acc, j, Cl, Gl, nl, Xl, Ul, Zl, Fl =>
    let C8 := fP_X0_passHours Cl (Xl j) (Ul j) ((Zl j).toNatClampNeg)
    let x9 := acc + (fR_X0_passHours Cl (Xl j) (Ul j) ((Zl j).toNatClampNeg))
    fC_X6_runText_L44 Y k x9 (j + 1) C8 Gl nl Xl Ul Zl Fl
def fG_X6_runText_L44 (Y : Nat → Int32) : Nat → Int32 → Nat → (Nat → Int32) → (Nat → Nat → Int32) → (Nat) → (Nat → Int32) → (Nat → Int32) → (Nat → Int32) → (Nat → Int32) → Nat → Nat → Int32
  | 0, acc, j, Cl, Gl, nl, Xl, Ul, Zl, Fl =>
    Gl
  | k + 1, acc, j, Cl, Gl, nl, Xl, Ul, Zl, Fl =>
    let C8 := fP_X0_passHours Cl (Xl j) (Ul j) ((Zl j).toNatClampNeg)
    let x9 := acc + (fR_X0_passHours Cl (Xl j) (Ul j) ((Zl j).toNatClampNeg))
    fG_X6_runText_L44 Y k x9 (j + 1) C8 Gl nl Xl Ul Zl Fl
def fn_X6_runText_L44 (Y : Nat → Int32) : Nat → Int32 → Nat → (Nat → Int32) → (Nat → Nat → Int32) → (Nat) → (Nat → Int32) → (Nat → Int32) → (Nat → Int32) → (Nat → Int32) → Nat
  | 0, acc, j, Cl, Gl, nl, Xl, Ul, Zl, Fl =>
    nl
  | k + 1, acc, j, Cl, Gl, nl, Xl, Ul, Zl, Fl =>
    let C8 := fP_X0_passHours Cl (Xl j) (Ul j) ((Zl j).toNatClampNeg)
    let x9 := acc + (fR_X0_passHours Cl (Xl j) (Ul j) ((Zl j).toNatClampNeg))
    fn_X6_runText_L44 Y k x9 (j + 1) C8 Gl nl Xl Ul Zl Fl
def fX_X6_runText_L44 (Y : Nat → Int32) : Nat → Int32 → Nat → (Nat → Int32) → (Nat → Nat → Int32) → (Nat) → (Nat → Int32) → (Nat → Int32) → (Nat → Int32) → (Nat → Int32) → Nat → Int32
  | 0, acc, j, Cl, Gl, nl, Xl, Ul, Zl, Fl =>
    Xl
  | k + 1, acc, j, Cl, Gl, nl, Xl, Ul, Zl, Fl =>
    let C8 := fP_X0_passHours Cl (Xl j) (Ul j) ((Zl j).toNatClampNeg)
    let x9 := acc + (fR_X0_passHours Cl (Xl j) (Ul j) ((Zl j).toNatClampNeg))
    fX_X6_runText_L44 Y k x9 (j + 1) C8 Gl nl Xl Ul Zl Fl
def fU_X6_runText_L44 (Y : Nat → Int32) : Nat → Int32 → Nat → (Nat → Int32) → (Nat → Nat → Int32) → (Nat) → (Nat → Int32) → (Nat → Int32) → (Nat → Int32) → (Nat → Int32) → Nat → Int32
  | 0, acc, j, Cl, Gl, nl, Xl, Ul, Zl, Fl =>
    Ul
  | k + 1, acc, j, Cl, Gl, nl, Xl, Ul, Zl, Fl =>
    let C8 := fP_X0_passHours Cl (Xl j) (Ul j) ((Zl j).toNatClampNeg)
    let x9 := acc + (fR_X0_passHours Cl (Xl j) (Ul j) ((Zl j).toNatClampNeg))
    fU_X6_runText_L44 Y k x9 (j + 1) C8 Gl nl Xl Ul Zl Fl
def fZ_X6_runText_L44 (Y : Nat → Int32) : Nat → Int32 → Nat → (Nat → Int32) → (Nat → Nat → Int32) → (Nat) → (Nat → Int32) → (Nat → Int32) → (Nat → Int32) → (Nat → Int32) → Nat → Int32
  | 0, acc, j, Cl, Gl, nl, Xl, Ul, Zl, Fl =>
    Zl
  | k + 1, acc, j, Cl, Gl, nl, Xl, Ul, Zl, Fl =>
    let C8 := fP_X0_passHours Cl (Xl j) (Ul j) ((Zl j).toNatClampNeg)
    let x9 := acc + (fR_X0_passHours Cl (Xl j) (Ul j) ((Zl j).toNatClampNeg))
    fZ_X6_runText_L44 Y k x9 (j + 1) C8 Gl nl Xl Ul Zl Fl
def fF_X6_runText_L44 (Y : Nat → Int32) : Nat → Int32 → Nat → (Nat → Int32) → (Nat → Nat → Int32) → (Nat) → (Nat → Int32) → (Nat → Int32) → (Nat → Int32) → (Nat → Int32) → Nat → Int32
  | 0, acc, j, Cl, Gl, nl, Xl, Ul, Zl, Fl =>
    Fl
  | k + 1, acc, j, Cl, Gl, nl, Xl, Ul, Zl, Fl =>
    let C8 := fP_X0_passHours Cl (Xl j) (Ul j) ((Zl j).toNatClampNeg)
    let x9 := acc + (fR_X0_passHours Cl (Xl j) (Ul j) ((Zl j).toNatClampNeg))
    fF_X6_runText_L44 Y k x9 (j + 1) C8 Gl nl Xl Ul Zl Fl
def fR_X6_runText_L44 (Y : Nat → Int32) : Nat → Int32 → Nat → (Nat → Int32) → (Nat → Nat → Int32) → (Nat) → (Nat → Int32) → (Nat → Int32) → (Nat → Int32) → (Nat → Int32) → Int32
  | 0, acc, j, Cl, Gl, nl, Xl, Ul, Zl, Fl =>
    acc
  | k + 1, acc, j, Cl, Gl, nl, Xl, Ul, Zl, Fl =>
    let C8 := fP_X0_passHours Cl (Xl j) (Ul j) ((Zl j).toNatClampNeg)
    let x9 := acc + (fR_X0_passHours Cl (Xl j) (Ul j) ((Zl j).toNatClampNeg))
    fR_X6_runText_L44 Y k x9 (j + 1) C8 Gl nl Xl Ul Zl Fl
def fE_X6_runText_L44 (Y : Nat → Int32) : Nat → Int32 → Nat → (Nat → Int32) → (Nat → Nat → Int32) → (Nat) → (Nat → Int32) → (Nat → Int32) → (Nat → Int32) → (Nat → Int32) → Nat
  | 0, acc, j, Cl, Gl, nl, Xl, Ul, Zl, Fl =>
    0
  | k + 1, acc, j, Cl, Gl, nl, Xl, Ul, Zl, Fl =>
    let C8 := fP_X0_passHours Cl (Xl j) (Ul j) ((Zl j).toNatClampNeg)
    let x9 := acc + (fR_X0_passHours Cl (Xl j) (Ul j) ((Zl j).toNatClampNeg))
    fE_X6_runText_L44 Y k x9 (j + 1) C8 Gl nl Xl Ul Zl Fl
def fC_X6_runText (C : Nat → Int32) (G : Nat → Nat → Int32) (n : Nat) (Y : Nat → Int32) (X : Nat → Int32) (U : Nat → Int32) (Z : Nat → Int32) (F : Nat → Int32) : Nat → Int32 :=
  let X1 := fX_X5_readItems Y X U Z F
  let U2 := fU_X5_readItems Y X U Z F
  let Z3 := fZ_X5_readItems Y X U Z F
  let F4 := fF_X5_readItems Y X U Z F
  let x5 := fR_X5_readItems Y X U Z F
  if x5 = (-1) then
    if fE_X6_checkHoursToCome C (fR_X5_hoursOfItems Z3 F4) = 0 then
      let G6 := fG_X2_save C G n
      let n7 := fn_X2_save C G n
      fC_X6_runText_L44 Y (ti5 F4) 0 0 C G6 n7 X1 U2 Z3 F4
    else
      C
  else
    C
def fG_X6_runText (C : Nat → Int32) (G : Nat → Nat → Int32) (n : Nat) (Y : Nat → Int32) (X : Nat → Int32) (U : Nat → Int32) (Z : Nat → Int32) (F : Nat → Int32) : Nat → Nat → Int32 :=
  let X1 := fX_X5_readItems Y X U Z F
  let U2 := fU_X5_readItems Y X U Z F
  let Z3 := fZ_X5_readItems Y X U Z F
  let F4 := fF_X5_readItems Y X U Z F
  let x5 := fR_X5_readItems Y X U Z F
  if x5 = (-1) then
    if fE_X6_checkHoursToCome C (fR_X5_hoursOfItems Z3 F4) = 0 then
      let G6 := fG_X2_save C G n
      let n7 := fn_X2_save C G n
      fG_X6_runText_L44 Y (ti5 F4) 0 0 C G6 n7 X1 U2 Z3 F4
    else
      G
  else
    G
def fn_X6_runText (C : Nat → Int32) (G : Nat → Nat → Int32) (n : Nat) (Y : Nat → Int32) (X : Nat → Int32) (U : Nat → Int32) (Z : Nat → Int32) (F : Nat → Int32) : Nat :=
  let X1 := fX_X5_readItems Y X U Z F
  let U2 := fU_X5_readItems Y X U Z F
  let Z3 := fZ_X5_readItems Y X U Z F
  let F4 := fF_X5_readItems Y X U Z F
  let x5 := fR_X5_readItems Y X U Z F
  if x5 = (-1) then
    if fE_X6_checkHoursToCome C (fR_X5_hoursOfItems Z3 F4) = 0 then
      let G6 := fG_X2_save C G n
      let n7 := fn_X2_save C G n
      fn_X6_runText_L44 Y (ti5 F4) 0 0 C G6 n7 X1 U2 Z3 F4
    else
      n
  else
    n
def fX_X6_runText (C : Nat → Int32) (G : Nat → Nat → Int32) (n : Nat) (Y : Nat → Int32) (X : Nat → Int32) (U : Nat → Int32) (Z : Nat → Int32) (F : Nat → Int32) : Nat → Int32 :=
  let X1 := fX_X5_readItems Y X U Z F
  let U2 := fU_X5_readItems Y X U Z F
  let Z3 := fZ_X5_readItems Y X U Z F
  let F4 := fF_X5_readItems Y X U Z F
  let x5 := fR_X5_readItems Y X U Z F
  if x5 = (-1) then
    if fE_X6_checkHoursToCome C (fR_X5_hoursOfItems Z3 F4) = 0 then
      let G6 := fG_X2_save C G n
      let n7 := fn_X2_save C G n
      fX_X6_runText_L44 Y (ti5 F4) 0 0 C G6 n7 X1 U2 Z3 F4
    else
      X1
  else
    X1
def fU_X6_runText (C : Nat → Int32) (G : Nat → Nat → Int32) (n : Nat) (Y : Nat → Int32) (X : Nat → Int32) (U : Nat → Int32) (Z : Nat → Int32) (F : Nat → Int32) : Nat → Int32 :=
  let X1 := fX_X5_readItems Y X U Z F
  let U2 := fU_X5_readItems Y X U Z F
  let Z3 := fZ_X5_readItems Y X U Z F
  let F4 := fF_X5_readItems Y X U Z F
  let x5 := fR_X5_readItems Y X U Z F
  if x5 = (-1) then
    if fE_X6_checkHoursToCome C (fR_X5_hoursOfItems Z3 F4) = 0 then
      let G6 := fG_X2_save C G n
      let n7 := fn_X2_save C G n
      fU_X6_runText_L44 Y (ti5 F4) 0 0 C G6 n7 X1 U2 Z3 F4
    else
      U2
  else
    U2
def fZ_X6_runText (C : Nat → Int32) (G : Nat → Nat → Int32) (n : Nat) (Y : Nat → Int32) (X : Nat → Int32) (U : Nat → Int32) (Z : Nat → Int32) (F : Nat → Int32) : Nat → Int32 :=
  let X1 := fX_X5_readItems Y X U Z F
  let U2 := fU_X5_readItems Y X U Z F
  let Z3 := fZ_X5_readItems Y X U Z F
  let F4 := fF_X5_readItems Y X U Z F
  let x5 := fR_X5_readItems Y X U Z F
  if x5 = (-1) then
    if fE_X6_checkHoursToCome C (fR_X5_hoursOfItems Z3 F4) = 0 then
      let G6 := fG_X2_save C G n
      let n7 := fn_X2_save C G n
      fZ_X6_runText_L44 Y (ti5 F4) 0 0 C G6 n7 X1 U2 Z3 F4
    else
      Z3
  else
    Z3
def fF_X6_runText (C : Nat → Int32) (G : Nat → Nat → Int32) (n : Nat) (Y : Nat → Int32) (X : Nat → Int32) (U : Nat → Int32) (Z : Nat → Int32) (F : Nat → Int32) : Nat → Int32 :=
  let X1 := fX_X5_readItems Y X U Z F
  let U2 := fU_X5_readItems Y X U Z F
  let Z3 := fZ_X5_readItems Y X U Z F
  let F4 := fF_X5_readItems Y X U Z F
  let x5 := fR_X5_readItems Y X U Z F
  if x5 = (-1) then
    if fE_X6_checkHoursToCome C (fR_X5_hoursOfItems Z3 F4) = 0 then
      let G6 := fG_X2_save C G n
      let n7 := fn_X2_save C G n
      fF_X6_runText_L44 Y (ti5 F4) 0 0 C G6 n7 X1 U2 Z3 F4
    else
      F4
  else
    F4
def fR_X6_runText (C : Nat → Int32) (G : Nat → Nat → Int32) (n : Nat) (Y : Nat → Int32) (X : Nat → Int32) (U : Nat → Int32) (Z : Nat → Int32) (F : Nat → Int32) : Int32 :=
  let X1 := fX_X5_readItems Y X U Z F
  let U2 := fU_X5_readItems Y X U Z F
  let Z3 := fZ_X5_readItems Y X U Z F
  let F4 := fF_X5_readItems Y X U Z F
  let x5 := fR_X5_readItems Y X U Z F
  if x5 = (-1) then
    if fE_X6_checkHoursToCome C (fR_X5_hoursOfItems Z3 F4) = 0 then
      let G6 := fG_X2_save C G n
      let n7 := fn_X2_save C G n
      fR_X6_runText_L44 Y (ti5 F4) 0 0 C G6 n7 X1 U2 Z3 F4
    else
      0
  else
    (-10) - x5
def fE_X6_runText (C : Nat → Int32) (G : Nat → Nat → Int32) (n : Nat) (Y : Nat → Int32) (X : Nat → Int32) (U : Nat → Int32) (Z : Nat → Int32) (F : Nat → Int32) : Nat :=
  let X1 := fX_X5_readItems Y X U Z F
  let U2 := fU_X5_readItems Y X U Z F
  let Z3 := fZ_X5_readItems Y X U Z F
  let F4 := fF_X5_readItems Y X U Z F
  let x5 := fR_X5_readItems Y X U Z F
  if x5 = (-1) then
    if fE_X6_checkHoursToCome C (fR_X5_hoursOfItems Z3 F4) = 0 then
      let G6 := fG_X2_save C G n
      let n7 := fn_X2_save C G n
      fE_X6_runText_L44 Y (ti5 F4) 0 0 C G6 n7 X1 U2 Z3 F4
    else
      fE_X6_checkHoursToCome C (fR_X5_hoursOfItems Z3 F4)
  else
    0
set_option maxHeartbeats 4000000 in
set_option maxRecDepth 100000 in
theorem c_X6_runText (l : Launch) (hl0 : l.stackTraces = false) (D : va_G) (r : Nat) (C J : Nat → Int32) (G : Nat → Nat → Int32) (n : Nat) (Y X U Z F : Nat → Int32) (hw : WF C) (hn4 : n ≤ 4) (hT : okT5 F) : vx_Met l yX6_runText (wA yX6_runText cX6_runText 4 (some .int)) (rmX 7 1 6) (xPc D r [.ref r] (fun H => Sn D r C J G n Y X U Z F H)) (xQi (inS r) (fE_X6_runText C G n Y X U Z F) (fR_X6_runText C G n Y X U Z F) (fun H => Sn D r (fC_X6_runText C G n Y X U Z F) J (fG_X6_runText C G n Y X U Z F) (fn_X6_runText C G n Y X U Z F) Y (fX_X6_runText C G n Y X U Z F) (fU_X6_runText C G n Y X U Z F) (fZ_X6_runText C G n Y X U Z F) (fF_X6_runText C G n Y X U Z F) H)) (xX (inS r) (fE_X6_runText C G n Y X U Z F) (fun H => Sn D r (fC_X6_runText C G n Y X U Z F) J (fG_X6_runText C G n Y X U Z F) (fn_X6_runText C G n Y X U Z F) Y (fX_X6_runText C G n Y X U Z F) (fU_X6_runText C G n Y X U Z F) (fZ_X6_runText C G n Y X U Z F) (fF_X6_runText C G n Y X U Z F) H)) 1 6 (inS r) := by
  refine vx_ofW (cc := cX6_runText) (maxL := 4) (ret := (some .int)) (by decide) rfl ?_
  intro p e s m args below meth c s₁ B hml hex hv
  obtain ⟨hav, hG, hK, hKx⟩ := hv
  have hr0 : ∀ q, inS r q → r ≤ q := fun q h => h.1
  have hx := B.exec
  have hb := B.bytes
  have hr := B.returns
  have hts0 := atoms_spec (ws := wA yX6_runText cX6_runText 4 (some .int)) B.pre
  have hts : ∀ w ∈ AW, w.before _ s = true := fun w h => hts0 w (List.mem_cons_of_mem _ h)
  have hown : s.vm.findClass RX6 = some m.cls := findClass_of_methodNamed B.named
  have hlocks := B.notSynchronized
  have hA : ∀ q, (inS r) q → (inS r) q := fun _ h => h
  have hS : va_S (inS r) s.heap s.heap [] := va_S.rf
  have hG : Sn D r C J G n Y X U Z F s.heap := hG
  have hl := lv_entry ([.ref r]) (n := 4) (Nat.le_of_ble_eq_true rfl)
  refine W.eq (g2 := entryFrame m ([.ref r] : List Value).toArray 4) (by rw [hav]) ?_
  rw [lg_entry_eq]
  generalize (lg_sl ([.ref r]) ++ List.replicate (4 - (lg_sl ([.ref r])).length) Slot.unset).toArray = ls at hl ⊢
  have hl : lv_has ls 4 [(0, .ref r)] := hl
  have L44 : ∀ (k : Nat) (acc : Int32) (j : Nat) (Cl : Nat → Int32) (Gl : Nat → Nat → Int32) (nl : Nat) (Xl : Nat → Int32) (Ul : Nat → Int32) (Zl : Nat → Int32) (Fl : Nat → Int32) (H : Heap) (locs : List Loc) (ls : Array Slot) (hw : WF Cl) (hI5 : okI5 Fl) (hZ9 : ∀ j, j < ti5 Fl → ∃ z, z ≤ 99 ∧ Zl j = nI z) (hjk : j + k = ti5 Fl) (hfC : fC_X6_runText C G n Y X U Z F = fC_X6_runText_L44 Y k acc j Cl Gl nl Xl Ul Zl Fl) (hfG : fG_X6_runText C G n Y X U Z F = fG_X6_runText_L44 Y k acc j Cl Gl nl Xl Ul Zl Fl) (hfn : fn_X6_runText C G n Y X U Z F = fn_X6_runText_L44 Y k acc j Cl Gl nl Xl Ul Zl Fl) (hfX : fX_X6_runText C G n Y X U Z F = fX_X6_runText_L44 Y k acc j Cl Gl nl Xl Ul Zl Fl) (hfU : fU_X6_runText C G n Y X U Z F = fU_X6_runText_L44 Y k acc j Cl Gl nl Xl Ul Zl Fl) (hfZ : fZ_X6_runText C G n Y X U Z F = fZ_X6_runText_L44 Y k acc j Cl Gl nl Xl Ul Zl Fl) (hfF : fF_X6_runText C G n Y X U Z F = fF_X6_runText_L44 Y k acc j Cl Gl nl Xl Ul Zl Fl) (hfR : fR_X6_runText C G n Y X U Z F = fR_X6_runText_L44 Y k acc j Cl Gl nl Xl Ul Zl Fl) (hfE : fE_X6_runText C G n Y X U Z F = fE_X6_runText_L44 Y k acc j Cl Gl nl Xl Ul Zl Fl) (hG : Sn D r Cl J Gl nl Y Xl Ul Zl Fl H) (hS : va_S (inS r) s.heap H locs) (hl : lv_has ls 4 [(0, .ref r), (2, .int acc), (3, .int (nI j))]), W p l e (headSpec (wA yX6_runText cX6_runText 4 (some .int)) (rmX 7 1 6)).room s m args below meth c H locs 1 6 (vx_MQ below (xQi (inS r) (fE_X6_runText C G n Y X U Z F) (fR_X6_runText C G n Y X U Z F) (fun H => Sn D r (fC_X6_runText C G n Y X U Z F) J (fG_X6_runText C G n Y X U Z F) (fn_X6_runText C G n Y X U Z F) Y (fX_X6_runText C G n Y X U Z F) (fU_X6_runText C G n Y X U Z F) (fZ_X6_runText C G n Y X U Z F) (fF_X6_runText C G n Y X U Z F) H)) (xX (inS r) (fE_X6_runText C G n Y X U Z F) (fun H => Sn D r (fC_X6_runText C G n Y X U Z F) J (fG_X6_runText C G n Y X U Z F) (fn_X6_runText C G n Y X U Z F) Y (fX_X6_runText C G n Y X U Z F) (fU_X6_runText C G n Y X U Z F) (fZ_X6_runText C G n Y X U Z F) (fF_X6_runText C G n Y X U Z F) H)) args s 1 6 (inS r)) (F0 m 44 ls []) := by
    intro k
    induction k with
    | zero =>
      intro acc j Cl Gl nl Xl Ul Zl Fl H locs ls hw hI5 hZ9 hjk hfC hfG hfn hfX hfU hfZ hfF hfR hfE hG hS hl
      have hI38 := hI5.2
      refine lv_iload_n hx hb dX6_runText_44 rfl (lv_at hl 2 rfl) ?_
      refine lv_aload_n hx hb dX6_runText_45 rfl (lv_at hl 0 rfl) ?_
      refine getQx hx hb hts hown hK hG qF_X6_29 dX6_runText_46 ?_
      refine getX 5 hx hb hts hown hK hG.x (by decide) qF_X6_184 rfl dX6_runText_49 ?_
      refine topN (n := (ti5 Fl)) hI5.1 ?_
      refine lv_icmp_ge (tgt := 98) hx hb dX6_runText_52 (by decide) (fun c52 => ?_) (fun c52 => ?_)
      · have c52 : (ti5 Fl) ≤ j := (nI_leI (a := (ti5 Fl)) (b := j) (by omega) (by omega)).mp c52
        refine lv_iload_n hx hb dX6_runText_98 rfl (lv_at hl 1 rfl) ?_
        have hG9 : Sn D r (fC_X6_runText C G n Y X U Z F) J (fG_X6_runText C G n Y X U Z F) (fn_X6_runText C G n Y X U Z F) Y (fX_X6_runText C G n Y X U Z F) (fU_X6_runText C G n Y X U Z F) (fZ_X6_runText C G n Y X U Z F) (fF_X6_runText C G n Y X U Z F) H := by
          rw [hfC, fC_X6_runText_L44]; (try dsimp only)
          rw [hfG, fG_X6_runText_L44]; (try dsimp only)
          rw [hfn, fn_X6_runText_L44]; (try dsimp only)
          rw [hfX, fX_X6_runText_L44]; (try dsimp only)
          rw [hfU, fU_X6_runText_L44]; (try dsimp only)
          rw [hfZ, fZ_X6_runText_L44]; (try dsimp only)
          rw [hfF, fF_X6_runText_L44]; (try dsimp only)
          exact hG
        refine vx_ret (W.widen (k := 1) (n := 6) (by omega) (by omega) ?_)
        exact W.iret hx hb hr (fun t ht hW => xQi_of (by rw [hfE, fE_X6_runText_L44]; (try dsimp only); (try rfl)) (by rw [hfR, fR_X6_runText_L44]; (try dsimp only); (try rfl)) hG9 hS ht) hS.2.2 dX6_runText_99
      · have c52 : ¬ (ti5 Fl) ≤ j := fun h => c52 ((nI_leI (a := (ti5 Fl)) (b := j) (by omega) (by omega)).mpr h)
        exfalso; omega
    | succ k ih =>
      intro acc j Cl Gl nl Xl Ul Zl Fl H locs ls hw hI5 hZ9 hjk hfC hfG hfn hfX hfU hfZ hfF hfR hfE hG hS hl
      have hI38 := hI5.2
      refine lv_iload_n hx hb dX6_runText_44 rfl (lv_at hl 2 rfl) ?_
      refine lv_aload_n hx hb dX6_runText_45 rfl (lv_at hl 0 rfl) ?_
      refine getQx hx hb hts hown hK hG qF_X6_29 dX6_runText_46 ?_
      refine getX 5 hx hb hts hown hK hG.x (by decide) qF_X6_184 rfl dX6_runText_49 ?_
      refine topN (n := (ti5 Fl)) hI5.1 ?_
      refine lv_icmp_ge (tgt := 98) hx hb dX6_runText_52 (by decide) (fun c52 => ?_) (fun c52 => ?_)
      · have c52 : (ti5 Fl) ≤ j := (nI_leI (a := (ti5 Fl)) (b := j) (by omega) (by omega)).mp c52
        exfalso; omega
      · have c52 : ¬ (ti5 Fl) ≤ j := fun h => c52 ((nI_leI (a := (ti5 Fl)) (b := j) (by omega) (by omega)).mpr h)
        refine lv_iload_n hx hb dX6_runText_55 rfl (lv_at hl 1 rfl) ?_
        refine lv_aload_n hx hb dX6_runText_56 rfl (lv_at hl 0 rfl) ?_
        refine getQc hx hb hts hown hK hG qF_X6_10 dX6_runText_57 ?_
        refine lv_aload_n hx hb dX6_runText_60 rfl (lv_at hl 0 rfl) ?_
        refine getQx hx hb hts hown hK hG qF_X6_29 dX6_runText_61 ?_
        refine getXt hx hb hts hown hK hG.x qF_X6_187 dX6_runText_64 ?_
        refine lv_iload_n hx hb dX6_runText_67 rfl (lv_at hl 2 rfl) ?_
        refine aldXt (k := j) hx hb hK hG.x (by have := hI5.2; omega) dX6_runText_68 ?_
        refine lv_aload_n hx hb dX6_runText_69 rfl (lv_at hl 0 rfl) ?_
        refine getQx hx hb hts hown hK hG qF_X6_29 dX6_runText_70 ?_
        refine getXs hx hb hts hown hK hG.x qF_X6_190 dX6_runText_73 ?_
        refine lv_iload_n hx hb dX6_runText_76 rfl (lv_at hl 2 rfl) ?_
        refine aldXs (k := j) hx hb hK hG.x (by have := hI5.2; omega) dX6_runText_77 ?_
        refine lv_aload_n hx hb dX6_runText_78 rfl (lv_at hl 0 rfl) ?_
        refine getQx hx hb hts hown hK hG qF_X6_29 dX6_runText_79 ?_
        refine getXh hx hb hts hown hK hG.x qF_X6_193 dX6_runText_82 ?_
        refine lv_iload_n hx hb dX6_runText_85 rfl (lv_at hl 2 rfl) ?_
        refine aldXh (k := j) hx hb hK hG.x (by have := hI5.2; omega) dX6_runText_86 ?_
        refine topN (n := (Zl j).toNatClampNeg) (z_n (hZ9 j (by omega))).1 ?_
        refine gcVi (As := [.int (Xl j), .int (Ul j), .int (nI ((Zl j).toNatClampNeg))]) (rest := [.int acc]) hx hb hml hown hts hl.1 hK (c_X0_passHours l D (r + 1) Cl (Xl j) (Ul j) ((Zl j).toNatClampNeg) hw (by have := (z_n (hZ9 j (by omega))).2; omega)) (gaV qM_X6_139 qI_X0_passHours qS_X0_passHours qK_X0 qC_X0_passHours) hdv_X0_passHours ⟨Nat.le_of_ble_eq_true rfl, Nat.le_of_ble_eq_true rfl⟩ hG.gc (hG.gc.recvC hK) rfl (Nat.le_of_ble_eq_true rfl) ⟨Nat.le_of_ble_eq_true rfl, Nat.le_of_ble_eq_true rfl⟩ dX6_runText_87 hS (fun q h => by unfold inG at h; unfold inS; omega) (fun H locs hG1 hz hq hS => ?_)
        have hG : Sn D r (fP_X0_passHours Cl (Xl j) (Ul j) ((Zl j).toNatClampNeg)) J Gl nl Y Xl Ul Zl Fl H := Sn.setC hG hG1 hq
        generalize eC8 : fP_X0_passHours Cl (Xl j) (Ul j) ((Zl j).toNatClampNeg) = C8 at hG
        refine lv_iadd hx hb dX6_runText_90 ?_
        refine lv_topi (fun x9 ex9 => ?_)
        refine lv_istore_n (lv' := [(2, .int x9), (0, .ref r), (3, .int (nI j))]) hx hb dX6_runText_91 rfl hl (by decide) rfl (fun ls hl => ?_)
        refine lv_iinc (v := nI (j + 1)) (lv' := [(3, .int (nI (j + 1))), (2, .int x9), (0, .ref r)]) hx hb dX6_runText_92 hl (k := 2) rfl (nI_add j 1) (by decide) rfl (fun ls hl => ?_)
        refine lv_goto (tgt := 44) hx hb dX6_runText_95 (by decide) ?_
        subst ex9
        subst eC8
        exact ih _ (j + 1) _ _ _ _ _ _ _ _ _ _ (WF_passHours hw) hI5 hZ9 (by omega) (by rw [hfC, fC_X6_runText_L44]; (try dsimp only); (try rfl)) (by rw [hfG, fG_X6_runText_L44]; (try dsimp only); (try rfl)) (by rw [hfn, fn_X6_runText_L44]; (try dsimp only); (try rfl)) (by rw [hfX, fX_X6_runText_L44]; (try dsimp only); (try rfl)) (by rw [hfU, fU_X6_runText_L44]; (try dsimp only); (try rfl)) (by rw [hfZ, fZ_X6_runText_L44]; (try dsimp only); (try rfl)) (by rw [hfF, fF_X6_runText_L44]; (try dsimp only); (try rfl)) (by rw [hfR, fR_X6_runText_L44]; (try dsimp only); (try rfl)) (by rw [hfE, fE_X6_runText_L44]; (try dsimp only); (try rfl)) hG hS (lv_sub hl [2, 1, 0] rfl)
  refine lv_aload_n hx hb dX6_runText_0 rfl (lv_at hl 0 rfl) ?_
  refine getQx hx hb hts hown hK hG qF_X6_29 dX6_runText_1 ?_
  refine gcVi (As := []) (rest := []) hx hb hml hown hts hl.1 hK (c_X5_readItems l D (r + 201) Y X U Z F hT) (gaV qM_X6_178 qI_X5_readItems qS_X5_readItems qK_X5 qC_X5_readItems) hdv_X5_readItems ⟨Nat.le_of_ble_eq_true rfl, Nat.le_of_ble_eq_true rfl⟩ hG.x (Tx.recv hK hG.x) rfl (Nat.le_of_ble_eq_true rfl) ⟨Nat.le_of_ble_eq_true rfl, Nat.le_of_ble_eq_true rfl⟩ dX6_runText_4 hS (fun q h => by unfold inT at h; unfold inS; omega) (fun H locs hG1 hz hq hS => ?_)
  have hG : Sn D r C J G n Y (fX_X5_readItems Y X U Z F) (fU_X5_readItems Y X U Z F) (fZ_X5_readItems Y X U Z F) (fF_X5_readItems Y X U Z F) H := Sn.setX hG hG1 hq
  generalize eX1 : fX_X5_readItems Y X U Z F = X1 at hG
  generalize eU2 : fU_X5_readItems Y X U Z F = U2 at hG
  generalize eZ3 : fZ_X5_readItems Y X U Z F = Z3 at hG
  generalize eF4 : fF_X5_readItems Y X U Z F = F4 at hG
  have hr5 : F4 1 = F 1 ∧ okI5 F4 ∧ ∀ j, j < ti5 F4 → ∃ z, z ≤ 99 ∧ Z3 j = nI z := by rw [← eF4, ← eZ3]; exact read5 hT
  refine lv_topi (fun x5 ex5 => ?_)
  refine lv_istore_n (lv' := [(1, .int x5), (0, .ref r)]) hx hb dX6_runText_7 rfl hl (by decide) rfl (fun ls hl => ?_)
  refine lv_iload_n hx hb dX6_runText_8 rfl (lv_at hl 0 rfl) ?_
  refine lv_iconst (v := (-1)) hx hb dX6_runText_9 (by decide) ?_
  refine lv_icmp_eq (tgt := 18) hx hb dX6_runText_10 (by decide) (fun c10 => ?_) (fun c10 => ?_)
  · refine lv_aload_n hx hb dX6_runText_18 rfl (lv_at hl 1 rfl) ?_
    refine lv_aload_n hx hb dX6_runText_19 rfl (lv_at hl 1 rfl) ?_
    refine getQx hx hb hts hown hK hG qF_X6_29 dX6_runText_20 ?_
    refine gcVi (As := []) (rest := [.ref r]) hx hb hml hown hts hl.1 hK (c_X5_hoursOfItems l D (r + 201) Y X1 U2 Z3 F4 hr5.2.1) (gaV qM_X6_181 qI_X5_hoursOfItems qS_X5_hoursOfItems qK_X5 qC_X5_hoursOfItems) hdv_X5_hoursOfItems ⟨Nat.le_of_ble_eq_true rfl, Nat.le_of_ble_eq_true rfl⟩ hG.x (Tx.recv hK hG.x) rfl (Nat.le_of_ble_eq_true rfl) ⟨Nat.le_of_ble_eq_true rfl, Nat.le_of_ble_eq_true rfl⟩ dX6_runText_23 hS (fun q h => by unfold inT at h; unfold inS; omega) (fun H locs hG1 hz hq hS => ?_)
    have hG : Sn D r C J G n Y X1 U2 Z3 F4 H := Sn.setX hG hG1 hq
    refine xcVv (As := [.int (fR_X5_hoursOfItems Z3 F4)]) (rest := []) hx hb hml hown hts hl.1 hK hKx hr0 (c_X6_checkHoursToCome l hl0 D r C J G n Y X1 U2 Z3 F4 (fR_X5_hoursOfItems Z3 F4)) (gaV qM_X6_136 qI_X6_checkHoursToCome qS_X6_checkHoursToCome qK_X6 qC_X6_checkHoursToCome) hdv_X6_checkHoursToCome ⟨Nat.le_of_ble_eq_true rfl, Nat.le_of_ble_eq_true rfl⟩ hG (Sn.recv hK hG) rfl (Nat.le_of_ble_eq_true rfl) ⟨Nat.le_of_ble_eq_true rfl, Nat.le_of_ble_eq_true rfl⟩ dX6_runText_26 hS hA (fun ce q9 H locs hcx hG hz hq hS hce hv hcl => ?_) (fun H locs hc26 hG hz hq hS => ?_)
    · have hG : Sn D r C J G n Y X1 U2 Z3 F4 H := hG
      obtain ⟨kx, hkx⟩ : ∃ k : Nat, k = fE_X6_checkHoursToCome C (fR_X5_hoursOfItems Z3 F4) := ⟨_, rfl⟩
      subst ex5
      subst eF4
      subst eZ3
      subst eU2
      subst eX1
      have hG9 : Sn D r (fC_X6_runText C G n Y X U Z F) J (fG_X6_runText C G n Y X U Z F) (fn_X6_runText C G n Y X U Z F) Y (fX_X6_runText C G n Y X U Z F) (fU_X6_runText C G n Y X U Z F) (fZ_X6_runText C G n Y X U Z F) (fF_X6_runText C G n Y X U Z F) H := by
        unfold fC_X6_runText; (try dsimp only); (try rw [if_pos c10, if_neg hcx])
        unfold fG_X6_runText; (try dsimp only); (try rw [if_pos c10, if_neg hcx])
        unfold fn_X6_runText; (try dsimp only); (try rw [if_pos c10, if_neg hcx])
        unfold fX_X6_runText; (try dsimp only); (try rw [if_pos c10, if_neg hcx])
        unfold fU_X6_runText; (try dsimp only); (try rw [if_pos c10, if_neg hcx])
        unfold fZ_X6_runText; (try dsimp only); (try rw [if_pos c10, if_neg hcx])
        unfold fF_X6_runText; (try dsimp only); (try rw [if_pos c10, if_neg hcx])
        exact hG
      have hE : fE_X6_runText C G n Y X U Z F = kx := by rw [hkx]; unfold fE_X6_runText; (try dsimp only); (try rw [if_pos c10, if_neg hcx]); (try rfl)
      exact xout hex hlocks hS (by rw [hE, hkx]; exact hcx) hG9 hce hv (hkx.symm.trans hE.symm) hcl (by omega) (by omega)
    have hG : Sn D r C J G n Y X1 U2 Z3 F4 H := hG
    · refine lv_aload_n hx hb dX6_runText_29 rfl (lv_at hl 1 rfl) ?_
      refine getQv hx hb hts hown hK hG qF_X6_22 dX6_runText_30 ?_
      refine lv_aload_n hx hb dX6_runText_33 rfl (lv_at hl 1 rfl) ?_
      refine getQc hx hb hts hown hK hG qF_X6_10 dX6_runText_34 ?_
      refine gcVv (As := [.ref (r + 1)]) (rest := []) hx hb hml hown hts hl.1 hK (c_X2_save l D r C J G n Y X1 U2 Z3 F4 hn4 hw.1) (gaV qM_X6_48 qI_X2_save qS_X2_save qK_X2 qC_X2_save) hdv_X2_save ⟨Nat.le_of_ble_eq_true rfl, Nat.le_of_ble_eq_true rfl⟩ hG (Sn.recvV hK hG) rfl (Nat.le_of_ble_eq_true rfl) ⟨Nat.le_of_ble_eq_true rfl, Nat.le_of_ble_eq_true rfl⟩ dX6_runText_37 hS hA (fun H locs hG hz hq hS => ?_)
      have hG : Sn D r C J (fG_X2_save C G n) (fn_X2_save C G n) Y X1 U2 Z3 F4 H := hG
      generalize eG6 : fG_X2_save C G n = G6 at hG
      generalize en7 : fn_X2_save C G n = n7 at hG
      refine lv_iconst (v := 0) hx hb dX6_runText_40 (by decide) ?_
      refine lv_istore_n (lv' := [(2, .int 0), (1, .int x5), (0, .ref r)]) hx hb dX6_runText_41 rfl hl (by decide) rfl (fun ls hl => ?_)
      refine lv_iconst (v := 0) hx hb dX6_runText_42 (by decide) ?_
      refine lv_istore_n (lv' := [(3, .int 0), (2, .int 0), (1, .int x5), (0, .ref r)]) hx hb dX6_runText_43 rfl hl (by decide) rfl (fun ls hl => ?_)
      subst en7
      subst eG6
      subst ex5
      subst eF4
      subst eZ3
      subst eU2
      subst eX1
      refine W.widen (k := 1) (n := 6) (by omega) (by omega) ?_
      exact L44 (ti5 (fF_X5_readItems Y X U Z F)) _ 0 _ _ _ _ _ _ _ _ _ _ hw hr5.2.1 hr5.2.2 (by omega) (by unfold fC_X6_runText; (try dsimp only); (try rw [if_pos c10, if_pos hc26]); (try rfl)) (by unfold fG_X6_runText; (try dsimp only); (try rw [if_pos c10, if_pos hc26]); (try rfl)) (by unfold fn_X6_runText; (try dsimp only); (try rw [if_pos c10, if_pos hc26]); (try rfl)) (by unfold fX_X6_runText; (try dsimp only); (try rw [if_pos c10, if_pos hc26]); (try rfl)) (by unfold fU_X6_runText; (try dsimp only); (try rw [if_pos c10, if_pos hc26]); (try rfl)) (by unfold fZ_X6_runText; (try dsimp only); (try rw [if_pos c10, if_pos hc26]); (try rfl)) (by unfold fF_X6_runText; (try dsimp only); (try rw [if_pos c10, if_pos hc26]); (try rfl)) (by unfold fR_X6_runText; (try dsimp only); (try rw [if_pos c10, if_pos hc26]); (try rfl)) (by unfold fE_X6_runText; (try dsimp only); (try rw [if_pos c10, if_pos hc26]); (try rfl)) hG hS (lv_sub hl [3, 1, 0] rfl)
  · refine lv_bipush (v := (-10)) hx hb dX6_runText_13 (by decide) ?_
    refine lv_iload_n hx hb dX6_runText_15 rfl (lv_at hl 0 rfl) ?_
    refine lv_isub hx hb dX6_runText_16 ?_
    subst ex5
    subst eF4
    subst eZ3
    subst eU2
    subst eX1
    have hG9 : Sn D r (fC_X6_runText C G n Y X U Z F) J (fG_X6_runText C G n Y X U Z F) (fn_X6_runText C G n Y X U Z F) Y (fX_X6_runText C G n Y X U Z F) (fU_X6_runText C G n Y X U Z F) (fZ_X6_runText C G n Y X U Z F) (fF_X6_runText C G n Y X U Z F) H := by
      unfold fC_X6_runText; (try dsimp only); (try rw [if_neg c10])
      unfold fG_X6_runText; (try dsimp only); (try rw [if_neg c10])
      unfold fn_X6_runText; (try dsimp only); (try rw [if_neg c10])
      unfold fX_X6_runText; (try dsimp only); (try rw [if_neg c10])
      unfold fU_X6_runText; (try dsimp only); (try rw [if_neg c10])
      unfold fZ_X6_runText; (try dsimp only); (try rw [if_neg c10])
      unfold fF_X6_runText; (try dsimp only); (try rw [if_neg c10])
      exact hG
    refine vx_ret (W.widen (k := 1) (n := 6) (by omega) (by omega) ?_)
    exact W.iret hx hb hr (fun t ht hW => xQi_of (by unfold fE_X6_runText; (try dsimp only); (try rw [if_neg c10]); (try rfl)) (by unfold fR_X6_runText; (try dsimp only); (try rw [if_neg c10]); (try rfl)) hG9 hS ht) hS.2.2 dX6_runText_17
