def fP_X7_runText_L75 (T : Nat → Int32) : Nat → Int32 → (Nat → Int32) → (Nat → Int32) → (Nat → Int32) → Nat → Int32
  | 0, acc, Pl, Vl, Fl =>
    Pl
  | k + 1, acc, Pl, Vl, Fl =>
    if (tl Fl) ≤ (ta Fl) then
      Pl
    else
      let F8 := fF_X7_readItem T Fl
      if fR_X7_readItem T Fl = 0 then
        Pl
      else
        let P9 := fP_X7_hours Pl (F8 9) (F8 10) ((F8 11).toNatClampNeg)
        let x10 := acc + (fR_X7_hours Pl (F8 9) (F8 10) ((F8 11).toNatClampNeg))
        fP_X7_runText_L75 T k x10 P9 Vl F8
def fV_X7_runText_L75 (T : Nat → Int32) : Nat → Int32 → (Nat → Int32) → (Nat → Int32) → (Nat → Int32) → Nat → Int32
  | 0, acc, Pl, Vl, Fl =>
    Vl
  | k + 1, acc, Pl, Vl, Fl =>
    if (tl Fl) ≤ (ta Fl) then
      Vl
    else
      let F8 := fF_X7_readItem T Fl
      if fR_X7_readItem T Fl = 0 then
        Vl
      else
        let P9 := fP_X7_hours Pl (F8 9) (F8 10) ((F8 11).toNatClampNeg)
        let x10 := acc + (fR_X7_hours Pl (F8 9) (F8 10) ((F8 11).toNatClampNeg))
        fV_X7_runText_L75 T k x10 P9 Vl F8
def fF_X7_runText_L75 (T : Nat → Int32) : Nat → Int32 → (Nat → Int32) → (Nat → Int32) → (Nat → Int32) → Nat → Int32
  | 0, acc, Pl, Vl, Fl =>
    Fl
  | k + 1, acc, Pl, Vl, Fl =>
    if (tl Fl) ≤ (ta Fl) then
      Fl
    else
      let F8 := fF_X7_readItem T Fl
      if fR_X7_readItem T Fl = 0 then
        F8
      else
        let P9 := fP_X7_hours Pl (F8 9) (F8 10) ((F8 11).toNatClampNeg)
        let x10 := acc + (fR_X7_hours Pl (F8 9) (F8 10) ((F8 11).toNatClampNeg))
        fF_X7_runText_L75 T k x10 P9 Vl F8
def fR_X7_runText_L75 (T : Nat → Int32) : Nat → Int32 → (Nat → Int32) → (Nat → Int32) → (Nat → Int32) → Int32
  | 0, acc, Pl, Vl, Fl =>
    acc
  | k + 1, acc, Pl, Vl, Fl =>
    if (tl Fl) ≤ (ta Fl) then
      acc
    else
      let F8 := fF_X7_readItem T Fl
      if fR_X7_readItem T Fl = 0 then
        acc
      else
        let P9 := fP_X7_hours Pl (F8 9) (F8 10) ((F8 11).toNatClampNeg)
        let x10 := acc + (fR_X7_hours Pl (F8 9) (F8 10) ((F8 11).toNatClampNeg))
        fR_X7_runText_L75 T k x10 P9 Vl F8
def fP_X7_runText (P : Nat → Int32) (V : Nat → Int32) (T : Nat → Int32) (F : Nat → Int32) : Nat → Int32 :=
  let F1 := fF_X7_allHours T F
  let x2 := fR_X7_allHours T F
  if x2 = (-1) then
    P
  else
    if (P 0) + x2 ≤ 2000 then
      let F4 := upd F1 6 0
      let V5 := fV_X7_keep P V F4
      let F6 := fF_X7_keep P V F4
      let F7 := upd F6 7 0
      fP_X7_runText_L75 T 150 0 P V5 F7
    else
      P
def fV_X7_runText (P : Nat → Int32) (V : Nat → Int32) (T : Nat → Int32) (F : Nat → Int32) : Nat → Int32 :=
  let F1 := fF_X7_allHours T F
  let x2 := fR_X7_allHours T F
  if x2 = (-1) then
    V
  else
    if (P 0) + x2 ≤ 2000 then
      let F4 := upd F1 6 0
      let V5 := fV_X7_keep P V F4
      let F6 := fF_X7_keep P V F4
      let F7 := upd F6 7 0
      fV_X7_runText_L75 T 150 0 P V5 F7
    else
      V
def fF_X7_runText (P : Nat → Int32) (V : Nat → Int32) (T : Nat → Int32) (F : Nat → Int32) : Nat → Int32 :=
  let F1 := fF_X7_allHours T F
  let x2 := fR_X7_allHours T F
  if x2 = (-1) then
    let F3 := upd F1 6 0
    F3
  else
    if (P 0) + x2 ≤ 2000 then
      let F4 := upd F1 6 0
      let V5 := fV_X7_keep P V F4
      let F6 := fF_X7_keep P V F4
      let F7 := upd F6 7 0
      fF_X7_runText_L75 T 150 0 P V5 F7
    else
      let F11 := upd F1 6 1
      F11
def fR_X7_runText (P : Nat → Int32) (V : Nat → Int32) (T : Nat → Int32) (F : Nat → Int32) : Int32 :=
  let F1 := fF_X7_allHours T F
  let x2 := fR_X7_allHours T F
  if x2 = (-1) then
    let F3 := upd F1 6 0
    (-10) - (F3 7)
  else
    if (P 0) + x2 ≤ 2000 then
      let F4 := upd F1 6 0
      let V5 := fV_X7_keep P V F4
      let F6 := fF_X7_keep P V F4
      let F7 := upd F6 7 0
      fR_X7_runText_L75 T 150 0 P V5 F7
    else
      0
