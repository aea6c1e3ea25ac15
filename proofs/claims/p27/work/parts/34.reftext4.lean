def fF_X7_allHours_L7 (T : Nat → Int32) : Nat → Int32 → (Nat → Int32) → Nat → Int32
  | 0, acc, Fl =>
    Fl
  | k + 1, acc, Fl =>
    if (tl Fl) ≤ (ta Fl) then
      Fl
    else
      let F2 := fF_X7_readItem T Fl
      if fR_X7_readItem T Fl = 0 then
        F2
      else
        let x3 := acc + (F2 11)
        fF_X7_allHours_L7 T k x3 F2
def fR_X7_allHours_L7 (T : Nat → Int32) : Nat → Int32 → (Nat → Int32) → Int32
  | 0, acc, Fl =>
    acc
  | k + 1, acc, Fl =>
    if (tl Fl) ≤ (ta Fl) then
      acc
    else
      let F2 := fF_X7_readItem T Fl
      if fR_X7_readItem T Fl = 0 then
        (-1)
      else
        let x3 := acc + (F2 11)
        fR_X7_allHours_L7 T k x3 F2
def fF_X7_allHours (T : Nat → Int32) (F : Nat → Int32) : Nat → Int32 :=
  let F1 := upd F 7 0
  fF_X7_allHours_L7 T 150 0 F1
def fR_X7_allHours (T : Nat → Int32) (F : Nat → Int32) : Int32 :=
  let F1 := upd F 7 0
  fR_X7_allHours_L7 T 150 0 F1
