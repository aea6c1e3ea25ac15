def fR_X7_in  (v : Int32) (least : Int32) (most : Int32) : Int32 :=
  if v < least then
    0
  else
    if most < v then
      0
    else
      1
def fR_X7_lesser  (u : Int32) (v : Int32) : Int32 :=
  if v ≤ u then
    v
  else
    u
def fR_X7_isWeather  (tmp : Int32) (sn : Int32) : Int32 :=
  if fR_X7_in tmp (-300) 300 = 0 then
    0
  else
    if fR_X7_in sn 0 100 = 0 then
      0
    else
      1
def fR_X7_of (P : Nat → Int32) (si : Nat) (w : Nat) : Int32 :=
  P (9 + 8 * si + w)
def fR_X7_ofPlow (P : Nat → Int32) (q : Nat) (w : Nat) : Int32 :=
  P (169 + 20 * q + w)
def fR_X7_term (P : Nat → Int32) (si : Nat) (w : Nat) : Int32 :=
  P (229 + (4 * (pr P si)) + w)
def fR_X7_isDue (P : Nat → Int32) (si : Nat) : Int32 :=
  if fR_X7_of P si 2 < fR_X7_term P si 0 then
    0
  else
    1
def fP_X7_weather (P : Nat → Int32) (si : Nat) (tmp : Int32) (sn : Int32) : Nat → Int32 :=
  let x1 := (P (9 + 8 * si + 2)) + sn
  let P2 := upd P (9 + 8 * si + 2) x1
  if tmp ≤ 0 then
    if 0 ≤ tmp then
      P2
    else
      let x3 := fR_X7_lesser (P2 (9 + 8 * si + 3)) (((-tmp) / 10) + 1)
      let x4 := (P2 (9 + 8 * si + 3)) - x3
      let P5 := upd P2 (9 + 8 * si + 3) x4
      let x6 := fR_X7_lesser ((P5 (9 + 8 * si + 4)) + x3) 100
      let P7 := upd P5 (9 + 8 * si + 4) x6
      P7
  else
    let x8 := fR_X7_lesser (P2 (9 + 8 * si + 2)) (tmp / 5)
    let x9 := (P2 (9 + 8 * si + 2)) - x8
    let P10 := upd P2 (9 + 8 * si + 2) x9
    let x11 := fR_X7_lesser ((P10 (9 + 8 * si + 3)) + (2 * x8)) 100
    let P12 := upd P10 (9 + 8 * si + 3) x11
    let x13 := (P12 (9 + 8 * si + 4)) - (fR_X7_lesser (P12 (9 + 8 * si + 4)) (tmp / 5))
    let P14 := upd P12 (9 + 8 * si + 4) x13
    if 0 ≤ tmp then
      P14
    else
      let x15 := fR_X7_lesser (P14 (9 + 8 * si + 3)) (((-tmp) / 10) + 1)
      let x16 := (P14 (9 + 8 * si + 3)) - x15
      let P17 := upd P14 (9 + 8 * si + 3) x16
      let x18 := fR_X7_lesser ((P17 (9 + 8 * si + 4)) + x15) 100
      let P19 := upd P17 (9 + 8 * si + 4) x18
      P19
def fP_X7_clears (P : Nat → Int32) (q : Nat) (si : Nat) : Nat → Int32 :=
  let x1 := (((P (9 + 8 * si + 0)) * (P 4)) + 999) / 1000
  let x2 := fR_X7_lesser x1 (fR_X7_ofPlow P q 2)
  let P3 := upd P (9 + 8 * si + 2) 0
  if x1 ≤ 0 then
    let x4 := (P3 (9 + 8 * si + 4)) - 0
    let P5 := upd P3 (9 + 8 * si + 4) x4
    let x6 := (P5 (9 + 8 * si + 6)) + 1
    let P7 := upd P5 (9 + 8 * si + 6) x6
    let x8 := P7 0
    let P9 := upd P7 (9 + 8 * si + 7) x8
    let x10 := (P9 (169 + 20 * q + 2)) - x2
    let P11 := upd P9 (169 + 20 * q + 2) x10
    let x12 := (P11 8) + x2
    let P13 := upd P11 8 x12
    P13
  else
    let x14 := (P3 (9 + 8 * si + 4)) - (((P3 (9 + 8 * si + 4)) * x2) / x1)
    let P15 := upd P3 (9 + 8 * si + 4) x14
    let x16 := (P15 (9 + 8 * si + 6)) + 1
    let P17 := upd P15 (9 + 8 * si + 6) x16
    let x18 := P17 0
    let P19 := upd P17 (9 + 8 * si + 7) x18
    let x20 := (P19 (169 + 20 * q + 2)) - x2
    let P21 := upd P19 (169 + 20 * q + 2) x20
    let x22 := (P21 8) + x2
    let P23 := upd P21 8 x22
    P23
def fP_X7_goesOn (P : Nat → Int32) (q : Nat) : Nat → Int32 :=
  let P1 := upd P (169 + 20 * q + 5) 0
  let x2 := (P1 (169 + 20 * q + 4)) + 1
  let P3 := upd P1 (169 + 20 * q + 4) x2
  if P3 (169 + 20 * q + 3) ≤ P3 (169 + 20 * q + 4) then
    let P4 := upd P3 (169 + 20 * q + 4) 0
    let x5 := (P4 (169 + 20 * q + 6)) + 1
    let P6 := upd P4 (169 + 20 * q + 6) x5
    P6
  else
    let x7 := P3 (169 + 20 * q + 4)
    let P8 := upd P3 (169 + 20 * q + 4) x7
    let x9 := (P8 (169 + 20 * q + 6)) + 0
    let P10 := upd P8 (169 + 20 * q + 6) x9
    P10
def fR_X7_goesOn (P : Nat → Int32) (q : Nat) : Int32 :=
  let P1 := upd P (169 + 20 * q + 5) 0
  let x2 := (P1 (169 + 20 * q + 4)) + 1
  let P3 := upd P1 (169 + 20 * q + 4) x2
  if P3 (169 + 20 * q + 3) ≤ P3 (169 + 20 * q + 4) then
    0
  else
    1
def fP_X7_waits (P : Nat → Int32) (si : Nat) : Nat → Int32 :=
  if fR_X7_isDue P si = 0 then
    let P1 := upd P (9 + 8 * si + 5) 0
    if fR_X7_term P1 si 1 < P1 (9 + 8 * si + 5) then
      let x2 := (P1 5) + 1
      let P3 := upd P1 5 x2
      let x4 := (P3 (229 + (4 * (pr P si)) + 3)) + 1
      let P5 := upd P3 (229 + (4 * (pr P si)) + 3) x4
      P5
    else
      P1
  else
    let x6 := (P (9 + 8 * si + 5)) + 1
    let P7 := upd P (9 + 8 * si + 5) x6
    if fR_X7_term P7 si 1 < P7 (9 + 8 * si + 5) then
      let x8 := (P7 5) + 1
      let P9 := upd P7 5 x8
      let x10 := (P9 (229 + (4 * (pr P si)) + 3)) + 1
      let P11 := upd P9 (229 + (4 * (pr P si)) + 3) x10
      P11
    else
      P7
def fR_X7_waits (P : Nat → Int32) (si : Nat) : Int32 :=
  if fR_X7_isDue P si = 0 then
    let P1 := upd P (9 + 8 * si + 5) 0
    if fR_X7_term P1 si 1 < P1 (9 + 8 * si + 5) then
      let x2 := (P1 5) + 1
      let P3 := upd P1 5 x2
      let x4 := (P3 (229 + (4 * (pr P si)) + 3)) + 1
      let P5 := upd P3 (229 + (4 * (pr P si)) + 3) x4
      fR_X7_term P5 si 2
    else
      0
  else
    let x6 := (P (9 + 8 * si + 5)) + 1
    let P7 := upd P (9 + 8 * si + 5) x6
    if fR_X7_term P7 si 1 < P7 (9 + 8 * si + 5) then
      let x8 := (P7 5) + 1
      let P9 := upd P7 5 x8
      let x10 := (P9 (229 + (4 * (pr P si)) + 3)) + 1
      let P11 := upd P9 (229 + (4 * (pr P si)) + 3) x10
      fR_X7_term P11 si 2
    else
      0
