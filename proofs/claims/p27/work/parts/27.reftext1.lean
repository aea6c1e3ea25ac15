def fT_X7_append (T : Nat → Int32) (F : Nat → Int32) (x : Int32) : Nat → Int32 :=
  if fR_X7_in x 0 127 = 0 then
    T
  else
    if (tl F) = 150 then
      T
    else
      let T2 := upd T (tl F) x
      T2
def fF_X7_append (T : Nat → Int32) (F : Nat → Int32) (x : Int32) : Nat → Int32 :=
  if fR_X7_in x 0 127 = 0 then
    let F5 := upd F 6 1
    F5
  else
    if (tl F) = 150 then
      let F4 := upd F 6 2
      F4
    else
      let F1 := upd F 6 0
      let F3 := upd F1 5 (nI ((tl F) + 1))
      F3
def fR_X7_append (T : Nat → Int32) (F : Nat → Int32) (x : Int32) : Int32 :=
  if fR_X7_in x 0 127 = 0 then
    0
  else
    if (tl F) = 150 then
      0
    else
      nI ((tl F) + 1)
def fF_X7_clearText (F : Nat → Int32) : Nat → Int32 :=
  let F1 := upd F 6 0
  let F3 := upd F1 5 0
  F3
def fR_X7_clearText (F : Nat → Int32) : Int32 :=
  let F1 := upd F 6 0
  let x2 := F1 5
  x2
def fR_X7_here (T : Nat → Int32) (F : Nat → Int32) : Int32 :=
  if (tl F) ≤ (ta F) then
    (-1)
  else
    T (ta F)
def fR_X7_isDigit (T : Nat → Int32) (F : Nat → Int32) : Int32 :=
  fR_X7_in (fR_X7_here T F) 48 57
def fF_X7_takes (T : Nat → Int32) (F : Nat → Int32) (cc0 : Int32) : Nat → Int32 :=
  if fR_X7_here T F = cc0 then
    let F2 := upd F 7 (nI ((ta F) + 1))
    F2
  else
    let F1 := upd F 7 (nI ((ta F) + 0))
    F1
def fR_X7_takes (T : Nat → Int32) (F : Nat → Int32) (cc0 : Int32) : Int32 :=
  if fR_X7_here T F = cc0 then
    1
  else
    0
def fP_X7_undo (P : Nat → Int32) (V : Nat → Int32) (F : Nat → Int32) : Nat → Int32 :=
  if (sc F) = 0 then
    P
  else
    let P3 := fP_X7_bring_vm P V (241 * ((sc F) - 1)) 0
    P3
def fF_X7_undo (P : Nat → Int32) (V : Nat → Int32) (F : Nat → Int32) : Nat → Int32 :=
  if (sc F) = 0 then
    let F4 := upd F 6 1
    F4
  else
    let F1 := upd F 6 0
    let F2 := upd F1 3 (nI ((sc F) - 1))
    F2
def fR_X7_undo (P : Nat → Int32) (V : Nat → Int32) (F : Nat → Int32) : Int32 :=
  if (sc F) = 0 then
    0
  else
    nI ((sc F) - 1)
def fh_X7_mix (h : Int64) (v : Int64) : Int64 :=
  let y1 := (31 * h) + v
  let h2 := y1
  h2
