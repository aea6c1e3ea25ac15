def fR_X7_due_L4 (P : Nat → Int32) : Nat → Int32 → Nat → Int32
  | 0, acc, j =>
    acc
  | k + 1, acc, j =>
    if fR_X7_isDue P j = 0 then
      let x1 := acc + 0
      fR_X7_due_L4 P k x1 (j + 1)
    else
      let x2 := acc + 1
      fR_X7_due_L4 P k x2 (j + 1)
def fR_X7_due (P : Nat → Int32) : Int32 :=
  fR_X7_due_L4 P (ns P) 0 0
def fR_X7_valueOf (P : Nat → Int32) (w : Nat) : Int32 :=
  if 7 ≤ w then
    if w = 7 then
      fR_X7_due P
    else
      P (w - 1)
  else
    P w
def fF_X7_value (P : Nat → Int32) (F : Nat → Int32) (x : Int32) : Nat → Int32 :=
  if fR_X7_in x 0 9 = 0 then
    let F1 := upd F 6 1
    F1
  else
    let F2 := upd F 6 0
    F2
def fR_X7_value (P : Nat → Int32) (F : Nat → Int32) (x : Int32) : Int32 :=
  if fR_X7_in x 0 9 = 0 then
    0
  else
    fR_X7_valueOf P x.toNatClampNeg
def fR_X7_ofStreet (P : Nat → Int32) (si : Nat) (w : Nat) : Int32 :=
  if 6 ≤ w then
    if w = 6 then
      if fR_X7_isDue P si = 0 then
        0
      else
        1
    else
      fR_X7_of P si (w - 1)
  else
    fR_X7_of P si w
def fF_X7_street (P : Nat → Int32) (F : Nat → Int32) (x : Int32) (y : Int32) : Nat → Int32 :=
  if fR_X7_isStreet P x = 0 then
    let F3 := upd F 6 1
    F3
  else
    if fR_X7_in y 0 8 = 0 then
      let F1 := upd F 6 2
      F1
    else
      let F2 := upd F 6 0
      F2
def fR_X7_street (P : Nat → Int32) (F : Nat → Int32) (x : Int32) (y : Int32) : Int32 :=
  if fR_X7_isStreet P x = 0 then
    0
  else
    if fR_X7_in y 0 8 = 0 then
      0
    else
      fR_X7_ofStreet P x.toNatClampNeg y.toNatClampNeg
def fF_X7_plow (P : Nat → Int32) (F : Nat → Int32) (x : Int32) (y : Int32) : Nat → Int32 :=
  if fR_X7_isPlow P x = 0 then
    let F3 := upd F 6 1
    F3
  else
    if fR_X7_in y 0 7 = 0 then
      let F1 := upd F 6 2
      F1
    else
      let F2 := upd F 6 0
      F2
def fR_X7_plow (P : Nat → Int32) (F : Nat → Int32) (x : Int32) (y : Int32) : Int32 :=
  if fR_X7_isPlow P x = 0 then
    0
  else
    if fR_X7_in y 0 7 = 0 then
      0
    else
      fR_X7_ofPlow P x.toNatClampNeg y.toNatClampNeg
def fF_X7_stop (P : Nat → Int32) (F : Nat → Int32) (x : Int32) (y : Int32) : Nat → Int32 :=
  if fR_X7_isPlow P x = 0 then
    let F1 := upd F 6 1
    F1
  else
    if fR_X7_in y 0 ((fR_X7_ofPlow P x.toNatClampNeg 3) - 1) = 0 then
      let F2 := upd F 6 1
      F2
    else
      let F3 := upd F 6 0
      F3
def fR_X7_stop (P : Nat → Int32) (F : Nat → Int32) (x : Int32) (y : Int32) : Int32 :=
  if fR_X7_isPlow P x = 0 then
    0
  else
    if fR_X7_in y 0 ((fR_X7_ofPlow P x.toNatClampNeg 3) - 1) = 0 then
      0
    else
      fR_X7_ofPlow P x.toNatClampNeg (8 + y.toNatClampNeg)
def fF_X7_terms (P : Nat → Int32) (F : Nat → Int32) (x : Int32) (y : Int32) : Nat → Int32 :=
  if fR_X7_in x 0 2 = 0 then
    let F3 := upd F 6 1
    F3
  else
    if fR_X7_in y 0 3 = 0 then
      let F1 := upd F 6 2
      F1
    else
      let F2 := upd F 6 0
      F2
def fR_X7_terms (P : Nat → Int32) (F : Nat → Int32) (x : Int32) (y : Int32) : Int32 :=
  if fR_X7_in x 0 2 = 0 then
    0
  else
    if fR_X7_in y 0 3 = 0 then
      0
    else
      P (229 + 4 * x.toNatClampNeg + y.toNatClampNeg)
