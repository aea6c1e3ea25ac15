def fV_X7_bring_mv_L3 (P : Nat → Int32) (fa : Nat) (ta : Nat) : Nat → Nat → (Nat → Int32) → Nat → Int32
  | 0, j, Vl =>
    Vl
  | k + 1, j, Vl =>
    let x1 := P (fa + j)
    let V2 := upd Vl (ta + j) x1
    fV_X7_bring_mv_L3 P fa ta k (j + 1) V2
def fV_X7_bring_mv (P : Nat → Int32) (V : Nat → Int32) (fa : Nat) (ta : Nat) : Nat → Int32 :=
  fV_X7_bring_mv_L3 P fa ta 241 0 V
def fS_X7_bring_ms_L3 (P : Nat → Int32) (fa : Nat) (ta : Nat) : Nat → Nat → (Nat → Int32) → Nat → Int32
  | 0, j, Sl =>
    Sl
  | k + 1, j, Sl =>
    let x1 := P (fa + j)
    let S2 := upd Sl (ta + j) x1
    fS_X7_bring_ms_L3 P fa ta k (j + 1) S2
def fS_X7_bring_ms (P : Nat → Int32) (S : Nat → Int32) (fa : Nat) (ta : Nat) : Nat → Int32 :=
  fS_X7_bring_ms_L3 P fa ta 241 0 S
def fP_X7_bring_sm_L3 (S : Nat → Int32) (fa : Nat) (ta : Nat) : Nat → Nat → (Nat → Int32) → Nat → Int32
  | 0, j, Pl =>
    Pl
  | k + 1, j, Pl =>
    let x1 := S (fa + j)
    let P2 := upd Pl (ta + j) x1
    fP_X7_bring_sm_L3 S fa ta k (j + 1) P2
def fP_X7_bring_sm (P : Nat → Int32) (S : Nat → Int32) (fa : Nat) (ta : Nat) : Nat → Int32 :=
  fP_X7_bring_sm_L3 S fa ta 241 0 P
def fP_X7_bring_vm_L3 (V : Nat → Int32) (fa : Nat) (ta : Nat) : Nat → Nat → (Nat → Int32) → Nat → Int32
  | 0, j, Pl =>
    Pl
  | k + 1, j, Pl =>
    let x1 := V (fa + j)
    let P2 := upd Pl (ta + j) x1
    fP_X7_bring_vm_L3 V fa ta k (j + 1) P2
def fP_X7_bring_vm (P : Nat → Int32) (V : Nat → Int32) (fa : Nat) (ta : Nat) : Nat → Int32 :=
  fP_X7_bring_vm_L3 V fa ta 241 0 P
def fR_X7_thrown (F : Nat → Int32) : Int32 :=
  F 6
def fV_X7_keep_L10 (P : Nat → Int32) : Nat → Nat → (Nat → Int32) → (Nat → Int32) → Nat → Int32
  | 0, j, Vl, Fl =>
    let V4 := fV_X7_bring_mv P Vl 0 (241 * (4 - 1))
    V4
  | k + 1, j, Vl, Fl =>
    let x6 := Vl (j + 241)
    let V7 := upd Vl j x6
    fV_X7_keep_L10 P k (j + 1) V7 Fl
def fF_X7_keep_L10 (P : Nat → Int32) : Nat → Nat → (Nat → Int32) → (Nat → Int32) → Nat → Int32
  | 0, j, Vl, Fl =>
    let F3 := upd Fl 3 (nI (4 - 1))
    let F5 := upd F3 3 (nI (4 - 1 + 1))
    F5
  | k + 1, j, Vl, Fl =>
    let x6 := Vl (j + 241)
    let V7 := upd Vl j x6
    fF_X7_keep_L10 P k (j + 1) V7 Fl
def fV_X7_keep (P : Nat → Int32) (V : Nat → Int32) (F : Nat → Int32) : Nat → Int32 :=
  if (sc F) = 4 then
    fV_X7_keep_L10 P 723 0 V F
  else
    let V1 := fV_X7_bring_mv P V 0 (241 * (sc F))
    V1
def fF_X7_keep (P : Nat → Int32) (V : Nat → Int32) (F : Nat → Int32) : Nat → Int32 :=
  if (sc F) = 4 then
    fF_X7_keep_L10 P 723 0 V F
  else
    let F2 := upd F 3 (nI ((sc F) + 1))
    F2
def fR_X7_isStreet (P : Nat → Int32) (x : Int32) : Int32 :=
  fR_X7_in x 0 ((P 1) - 1)
def fR_X7_isPlow (P : Nat → Int32) (x : Int32) : Int32 :=
  fR_X7_in x 0 ((P 2) - 1)
def fP_X7_layTerms (P : Nat → Int32) (r : Nat) (tr : Int32) (li : Int32) (cr : Int32) : Nat → Int32 :=
  let P1 := upd P (229 + 4 * r + 0) tr
  let P2 := upd P1 (229 + 4 * r + 1) li
  let P3 := upd P2 (229 + 4 * r + 2) cr
  P3
def fR_X7_isPair (P : Nat → Int32) (q : Nat) (x : Int32) : Int32 :=
  fR_X7_in x 0 ((fR_X7_ofPlow P q 3) - 2)
def fR_X7_isBusy (P : Nat → Int32) (q : Nat) (x : Int32) : Int32 :=
  if fR_X7_ofPlow P q 5 ≤ 0 then
    0
  else
    if fR_X7_in (fR_X7_ofPlow P q 4) x (x + 1) = 0 then
      0
    else
      1
def fP_X7_exchanges (P : Nat → Int32) (q : Nat) (k : Nat) : Nat → Int32 :=
  let x1 := P (169 + 20 * q + 8 + k)
  let x2 := P (169 + 20 * q + 8 + k + 1)
  let P3 := upd P (169 + 20 * q + 8 + k) x2
  let P4 := upd P3 (169 + 20 * q + 8 + k + 1) x1
  P4
def fR_X7_exchanges (P : Nat → Int32) (q : Nat) (k : Nat) : Int32 :=
  let x1 := P (169 + 20 * q + 8 + k)
  let x2 := P (169 + 20 * q + 8 + k + 1)
  let P3 := upd P (169 + 20 * q + 8 + k) x2
  let P4 := upd P3 (169 + 20 * q + 8 + k + 1) x1
  P4 (169 + 20 * q + 8 + k)
