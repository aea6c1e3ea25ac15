def fF_X7_readNumber_L11 (T : Nat → Int32) (d : Nat) (lo : Int32) (hi : Int32) : Nat → Nat → (Nat → Int32) → Nat → Int32
  | 0, fr, Fl =>
    if (ta Fl) = fr then
      Fl
    else
      if fR_X7_isDigit T Fl = 0 then
        if fR_X7_in (Fl 8) lo hi = 0 then
          let F2 := upd Fl 7 (nI fr)
          F2
        else
          Fl
      else
        Fl
  | k + 1, fr, Fl =>
    if fR_X7_isDigit T Fl = 0 then
      if (ta Fl) = fr then
        Fl
      else
        if fR_X7_in (Fl 8) lo hi = 0 then
          let F3 := upd Fl 7 (nI fr)
          F3
        else
          Fl
    else
      let x4 := ((10 * (Fl 8)) + (fR_X7_here T Fl)) - 48
      let F5 := upd Fl 8 x4
      let F6 := upd F5 7 (nI ((ta Fl) + 1))
      fF_X7_readNumber_L11 T d lo hi k fr F6
def fR_X7_readNumber_L11 (T : Nat → Int32) (d : Nat) (lo : Int32) (hi : Int32) : Nat → Nat → (Nat → Int32) → Int32
  | 0, fr, Fl =>
    if (ta Fl) = fr then
      0
    else
      if fR_X7_isDigit T Fl = 0 then
        if fR_X7_in (Fl 8) lo hi = 0 then
          0
        else
          1
      else
        0
  | k + 1, fr, Fl =>
    if fR_X7_isDigit T Fl = 0 then
      if (ta Fl) = fr then
        0
      else
        if fR_X7_in (Fl 8) lo hi = 0 then
          0
        else
          1
    else
      let x4 := ((10 * (Fl 8)) + (fR_X7_here T Fl)) - 48
      let F5 := upd Fl 8 x4
      let F6 := upd F5 7 (nI ((ta Fl) + 1))
      fR_X7_readNumber_L11 T d lo hi k fr F6
def fF_X7_readNumber (T : Nat → Int32) (F : Nat → Int32) (d : Nat) (lo : Int32) (hi : Int32) : Nat → Int32 :=
  let F1 := upd F 8 0
  fF_X7_readNumber_L11 T d lo hi d (ta F) F1
def fR_X7_readNumber (T : Nat → Int32) (F : Nat → Int32) (d : Nat) (lo : Int32) (hi : Int32) : Int32 :=
  let F1 := upd F 8 0
  fR_X7_readNumber_L11 T d lo hi d (ta F) F1
