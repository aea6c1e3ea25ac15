def fS_X7_credits (P : Nat → Int32) (S : Nat → Int32) (tmp : Int32) (sn : Int32) (many : Nat) : Nat → Int32 :=
  let S1 := fS_X7_bring_ms P S 0 0
  S1
def fR_X7_credits (P : Nat → Int32) (S : Nat → Int32) (tmp : Int32) (sn : Int32) (many : Nat) : Int32 :=
  let x3 := fR_X7_hours P tmp sn many
  x3
def fS_X7_creditsIn (P : Nat → Int32) (S : Nat → Int32) (F : Nat → Int32) (tmp : Int32) (sn : Int32) (hrs : Int32) : Nat → Int32 :=
  if fR_X7_isWeather tmp sn = 0 then
    S
  else
    if fR_X7_in hrs 0 100 = 0 then
      S
    else
      let S4 := fS_X7_credits P S tmp sn hrs.toNatClampNeg
      S4
def fF_X7_creditsIn (P : Nat → Int32) (S : Nat → Int32) (F : Nat → Int32) (tmp : Int32) (sn : Int32) (hrs : Int32) : Nat → Int32 :=
  if fR_X7_isWeather tmp sn = 0 then
    let F1 := upd F 6 1
    F1
  else
    if fR_X7_in hrs 0 100 = 0 then
      let F2 := upd F 6 1
      F2
    else
      let F3 := upd F 6 0
      F3
def fR_X7_creditsIn (P : Nat → Int32) (S : Nat → Int32) (F : Nat → Int32) (tmp : Int32) (sn : Int32) (hrs : Int32) : Int32 :=
  if fR_X7_isWeather tmp sn = 0 then
    0
  else
    if fR_X7_in hrs 0 100 = 0 then
      0
    else
      fR_X7_credits P S tmp sn hrs.toNatClampNeg
def fS_X7_tried (P : Nat → Int32) (S : Nat → Int32) (q : Nat) (k : Nat) (tmp : Int32) (sn : Int32) (many : Nat) : Nat → Int32 :=
  let P1 := fP_X7_exchanges P q k
  let S3 := fS_X7_credits P1 S tmp sn many
  S3
def fR_X7_tried (P : Nat → Int32) (S : Nat → Int32) (q : Nat) (k : Nat) (tmp : Int32) (sn : Int32) (many : Nat) : Int32 :=
  let P1 := fP_X7_exchanges P q k
  let x4 := fR_X7_credits P1 S tmp sn many
  x4
def fS_X7_bestExchange_L65 (P : Nat → Int32) (pl : Int32) (tmp : Int32) (sn : Int32) (hrs : Int32) : Nat → Int32 → Int32 → Nat → (Nat → Int32) → (Nat → Int32) → Nat → Int32
  | 0, best, least, j, Sl, Fl =>
    Sl
  | k + 1, best, least, j, Sl, Fl =>
    if fR_X7_isPair P pl.toNatClampNeg (nI j) = 0 then
      Sl
    else
      if fR_X7_isBusy P pl.toNatClampNeg (nI j) = 0 then
        let S6 := fS_X7_tried P Sl pl.toNatClampNeg j tmp sn hrs.toNatClampNeg
        let x7 := fR_X7_tried P Sl pl.toNatClampNeg j tmp sn hrs.toNatClampNeg
        if least ≤ x7 then
          let x8 := fR_X7_lesser x7 least
          fS_X7_bestExchange_L65 P pl tmp sn hrs k best x8 (j + 1) S6 Fl
        else
          let x9 := fR_X7_lesser x7 least
          fS_X7_bestExchange_L65 P pl tmp sn hrs k (nI j) x9 (j + 1) S6 Fl
      else
        fS_X7_bestExchange_L65 P pl tmp sn hrs k best least (j + 1) Sl Fl
def fF_X7_bestExchange_L65 (P : Nat → Int32) (pl : Int32) (tmp : Int32) (sn : Int32) (hrs : Int32) : Nat → Int32 → Int32 → Nat → (Nat → Int32) → (Nat → Int32) → Nat → Int32
  | 0, best, least, j, Sl, Fl =>
    Fl
  | k + 1, best, least, j, Sl, Fl =>
    if fR_X7_isPair P pl.toNatClampNeg (nI j) = 0 then
      Fl
    else
      if fR_X7_isBusy P pl.toNatClampNeg (nI j) = 0 then
        let S6 := fS_X7_tried P Sl pl.toNatClampNeg j tmp sn hrs.toNatClampNeg
        let x7 := fR_X7_tried P Sl pl.toNatClampNeg j tmp sn hrs.toNatClampNeg
        if least ≤ x7 then
          let x8 := fR_X7_lesser x7 least
          fF_X7_bestExchange_L65 P pl tmp sn hrs k best x8 (j + 1) S6 Fl
        else
          let x9 := fR_X7_lesser x7 least
          fF_X7_bestExchange_L65 P pl tmp sn hrs k (nI j) x9 (j + 1) S6 Fl
      else
        fF_X7_bestExchange_L65 P pl tmp sn hrs k best least (j + 1) Sl Fl
def fR_X7_bestExchange_L65 (P : Nat → Int32) (pl : Int32) (tmp : Int32) (sn : Int32) (hrs : Int32) : Nat → Int32 → Int32 → Nat → (Nat → Int32) → (Nat → Int32) → Int32
  | 0, best, least, j, Sl, Fl =>
    best
  | k + 1, best, least, j, Sl, Fl =>
    if fR_X7_isPair P pl.toNatClampNeg (nI j) = 0 then
      best
    else
      if fR_X7_isBusy P pl.toNatClampNeg (nI j) = 0 then
        let S6 := fS_X7_tried P Sl pl.toNatClampNeg j tmp sn hrs.toNatClampNeg
        let x7 := fR_X7_tried P Sl pl.toNatClampNeg j tmp sn hrs.toNatClampNeg
        if least ≤ x7 then
          let x8 := fR_X7_lesser x7 least
          fR_X7_bestExchange_L65 P pl tmp sn hrs k best x8 (j + 1) S6 Fl
        else
          let x9 := fR_X7_lesser x7 least
          fR_X7_bestExchange_L65 P pl tmp sn hrs k (nI j) x9 (j + 1) S6 Fl
      else
        fR_X7_bestExchange_L65 P pl tmp sn hrs k best least (j + 1) Sl Fl
def fS_X7_bestExchange (P : Nat → Int32) (S : Nat → Int32) (F : Nat → Int32) (pl : Int32) (tmp : Int32) (sn : Int32) (hrs : Int32) : Nat → Int32 :=
  if fR_X7_isPlow P pl = 0 then
    S
  else
    if fR_X7_isWeather tmp sn = 0 then
      S
    else
      if fR_X7_in hrs 0 50 = 0 then
        S
      else
        let F3 := upd F 6 0
        let S4 := fS_X7_credits P S tmp sn hrs.toNatClampNeg
        let x5 := fR_X7_credits P S tmp sn hrs.toNatClampNeg
        fS_X7_bestExchange_L65 P pl tmp sn hrs 12 (-1) x5 0 S4 F3
def fF_X7_bestExchange (P : Nat → Int32) (S : Nat → Int32) (F : Nat → Int32) (pl : Int32) (tmp : Int32) (sn : Int32) (hrs : Int32) : Nat → Int32 :=
  if fR_X7_isPlow P pl = 0 then
    let F10 := upd F 6 1
    F10
  else
    if fR_X7_isWeather tmp sn = 0 then
      let F1 := upd F 6 2
      F1
    else
      if fR_X7_in hrs 0 50 = 0 then
        let F2 := upd F 6 2
        F2
      else
        let F3 := upd F 6 0
        let S4 := fS_X7_credits P S tmp sn hrs.toNatClampNeg
        let x5 := fR_X7_credits P S tmp sn hrs.toNatClampNeg
        fF_X7_bestExchange_L65 P pl tmp sn hrs 12 (-1) x5 0 S4 F3
def fR_X7_bestExchange (P : Nat → Int32) (S : Nat → Int32) (F : Nat → Int32) (pl : Int32) (tmp : Int32) (sn : Int32) (hrs : Int32) : Int32 :=
  if fR_X7_isPlow P pl = 0 then
    0
  else
    if fR_X7_isWeather tmp sn = 0 then
      0
    else
      if fR_X7_in hrs 0 50 = 0 then
        0
      else
        let F3 := upd F 6 0
        let S4 := fS_X7_credits P S tmp sn hrs.toNatClampNeg
        let x5 := fR_X7_credits P S tmp sn hrs.toNatClampNeg
        fR_X7_bestExchange_L65 P pl tmp sn hrs 12 (-1) x5 0 S4 F3
def fS_X7_leastSpeed_L77 (P : Nat → Int32) (pl : Int32) (tmp : Int32) (sn : Int32) (hrs : Int32) : Nat → Int32 → Int32 → Nat → (Nat → Int32) → (Nat → Int32) → Nat → Int32
  | 0, fnd, cmp, spd, Sl, Fl =>
    Sl
  | k + 1, fnd, cmp, spd, Sl, Fl =>
    if fnd = (-1) then
      let P6 := upd P (169 + 20 * pl.toNatClampNeg + 0) (nI spd)
      let P7 := fP_X7_hours P6 tmp sn hrs.toNatClampNeg
      if P7 5 = cmp then
        fS_X7_leastSpeed_L77 P pl tmp sn hrs k (nI spd) cmp (spd + 100) Sl Fl
      else
        fS_X7_leastSpeed_L77 P pl tmp sn hrs k (-1) cmp (spd + 100) Sl Fl
    else
      Sl
def fF_X7_leastSpeed_L77 (P : Nat → Int32) (pl : Int32) (tmp : Int32) (sn : Int32) (hrs : Int32) : Nat → Int32 → Int32 → Nat → (Nat → Int32) → (Nat → Int32) → Nat → Int32
  | 0, fnd, cmp, spd, Sl, Fl =>
    Fl
  | k + 1, fnd, cmp, spd, Sl, Fl =>
    if fnd = (-1) then
      let P6 := upd P (169 + 20 * pl.toNatClampNeg + 0) (nI spd)
      let P7 := fP_X7_hours P6 tmp sn hrs.toNatClampNeg
      if P7 5 = cmp then
        fF_X7_leastSpeed_L77 P pl tmp sn hrs k (nI spd) cmp (spd + 100) Sl Fl
      else
        fF_X7_leastSpeed_L77 P pl tmp sn hrs k (-1) cmp (spd + 100) Sl Fl
    else
      Fl
def fR_X7_leastSpeed_L77 (P : Nat → Int32) (pl : Int32) (tmp : Int32) (sn : Int32) (hrs : Int32) : Nat → Int32 → Int32 → Nat → (Nat → Int32) → (Nat → Int32) → Int32
  | 0, fnd, cmp, spd, Sl, Fl =>
    fnd
  | k + 1, fnd, cmp, spd, Sl, Fl =>
    if fnd = (-1) then
      let P6 := upd P (169 + 20 * pl.toNatClampNeg + 0) (nI spd)
      let P7 := fP_X7_hours P6 tmp sn hrs.toNatClampNeg
      if P7 5 = cmp then
        fR_X7_leastSpeed_L77 P pl tmp sn hrs k (nI spd) cmp (spd + 100) Sl Fl
      else
        fR_X7_leastSpeed_L77 P pl tmp sn hrs k (-1) cmp (spd + 100) Sl Fl
    else
      fnd
def fS_X7_leastSpeed (P : Nat → Int32) (S : Nat → Int32) (F : Nat → Int32) (pl : Int32) (tmp : Int32) (sn : Int32) (hrs : Int32) : Nat → Int32 :=
  if fR_X7_isPlow P pl = 0 then
    S
  else
    if fR_X7_isWeather tmp sn = 0 then
      S
    else
      if fR_X7_in hrs 0 50 = 0 then
        S
      else
        let F3 := upd F 6 0
        let S4 := fS_X7_bring_ms P S 0 0
        let x5 := P 5
        fS_X7_leastSpeed_L77 P pl tmp sn hrs 50 (-1) x5 100 S4 F3
def fF_X7_leastSpeed (P : Nat → Int32) (S : Nat → Int32) (F : Nat → Int32) (pl : Int32) (tmp : Int32) (sn : Int32) (hrs : Int32) : Nat → Int32 :=
  if fR_X7_isPlow P pl = 0 then
    let F11 := upd F 6 1
    F11
  else
    if fR_X7_isWeather tmp sn = 0 then
      let F1 := upd F 6 2
      F1
    else
      if fR_X7_in hrs 0 50 = 0 then
        let F2 := upd F 6 2
        F2
      else
        let F3 := upd F 6 0
        let S4 := fS_X7_bring_ms P S 0 0
        let x5 := P 5
        fF_X7_leastSpeed_L77 P pl tmp sn hrs 50 (-1) x5 100 S4 F3
def fR_X7_leastSpeed (P : Nat → Int32) (S : Nat → Int32) (F : Nat → Int32) (pl : Int32) (tmp : Int32) (sn : Int32) (hrs : Int32) : Int32 :=
  if fR_X7_isPlow P pl = 0 then
    0
  else
    if fR_X7_isWeather tmp sn = 0 then
      0
    else
      if fR_X7_in hrs 0 50 = 0 then
        0
      else
        let F3 := upd F 6 0
        let S4 := fS_X7_bring_ms P S 0 0
        let x5 := P 5
        fR_X7_leastSpeed_L77 P pl tmp sn hrs 50 (-1) x5 100 S4 F3
def fP_X7_emptyIn_L41 (tmp : Int32) (sn : Int32) : Nat → Nat → (Nat → Int32) → (Nat → Int32) → (Nat → Int32) → Nat → Int32
  | 0, j, Pl, Sl, Fl =>
    if Pl 3 ≤ 0 then
      if Pl 3 = 0 then
        let P5 := fP_X7_bring_sm Pl Sl 0 0
        P5
      else
        let P4 := fP_X7_bring_sm Pl Sl 0 0
        P4
    else
      if Pl 3 = 0 then
        let P7 := fP_X7_bring_sm Pl Sl 0 0
        P7
      else
        let P6 := fP_X7_bring_sm Pl Sl 0 0
        P6
  | k + 1, j, Pl, Sl, Fl =>
    if Pl 3 ≤ 0 then
      if Pl 3 = 0 then
        let P9 := fP_X7_bring_sm Pl Sl 0 0
        P9
      else
        let P8 := fP_X7_bring_sm Pl Sl 0 0
        P8
    else
      let P10 := fP_X7_hour Pl tmp sn
      fP_X7_emptyIn_L41 tmp sn k (j + 1) P10 Sl Fl
def fS_X7_emptyIn_L41 (tmp : Int32) (sn : Int32) : Nat → Nat → (Nat → Int32) → (Nat → Int32) → (Nat → Int32) → Nat → Int32
  | 0, j, Pl, Sl, Fl =>
    if Pl 3 ≤ 0 then
      if Pl 3 = 0 then
        Sl
      else
        Sl
    else
      if Pl 3 = 0 then
        Sl
      else
        Sl
  | k + 1, j, Pl, Sl, Fl =>
    if Pl 3 ≤ 0 then
      if Pl 3 = 0 then
        Sl
      else
        Sl
    else
      let P10 := fP_X7_hour Pl tmp sn
      fS_X7_emptyIn_L41 tmp sn k (j + 1) P10 Sl Fl
def fF_X7_emptyIn_L41 (tmp : Int32) (sn : Int32) : Nat → Nat → (Nat → Int32) → (Nat → Int32) → (Nat → Int32) → Nat → Int32
  | 0, j, Pl, Sl, Fl =>
    if Pl 3 ≤ 0 then
      if Pl 3 = 0 then
        Fl
      else
        Fl
    else
      if Pl 3 = 0 then
        Fl
      else
        Fl
  | k + 1, j, Pl, Sl, Fl =>
    if Pl 3 ≤ 0 then
      if Pl 3 = 0 then
        Fl
      else
        Fl
    else
      let P10 := fP_X7_hour Pl tmp sn
      fF_X7_emptyIn_L41 tmp sn k (j + 1) P10 Sl Fl
def fR_X7_emptyIn_L41 (tmp : Int32) (sn : Int32) : Nat → Nat → (Nat → Int32) → (Nat → Int32) → (Nat → Int32) → Int32
  | 0, j, Pl, Sl, Fl =>
    if Pl 3 ≤ 0 then
      if Pl 3 = 0 then
        nI j
      else
        (-1)
    else
      if Pl 3 = 0 then
        nI j
      else
        (-1)
  | k + 1, j, Pl, Sl, Fl =>
    if Pl 3 ≤ 0 then
      if Pl 3 = 0 then
        nI j
      else
        (-1)
    else
      let P10 := fP_X7_hour Pl tmp sn
      fR_X7_emptyIn_L41 tmp sn k (j + 1) P10 Sl Fl
def fP_X7_emptyIn (P : Nat → Int32) (S : Nat → Int32) (F : Nat → Int32) (tmp : Int32) (sn : Int32) : Nat → Int32 :=
  if fR_X7_isWeather tmp sn = 0 then
    P
  else
    let F2 := upd F 6 0
    let S3 := fS_X7_bring_ms P S 0 0
    fP_X7_emptyIn_L41 tmp sn 200 0 P S3 F2
def fS_X7_emptyIn (P : Nat → Int32) (S : Nat → Int32) (F : Nat → Int32) (tmp : Int32) (sn : Int32) : Nat → Int32 :=
  if fR_X7_isWeather tmp sn = 0 then
    S
  else
    let F2 := upd F 6 0
    let S3 := fS_X7_bring_ms P S 0 0
    fS_X7_emptyIn_L41 tmp sn 200 0 P S3 F2
def fF_X7_emptyIn (P : Nat → Int32) (S : Nat → Int32) (F : Nat → Int32) (tmp : Int32) (sn : Int32) : Nat → Int32 :=
  if fR_X7_isWeather tmp sn = 0 then
    let F1 := upd F 6 1
    F1
  else
    let F2 := upd F 6 0
    let S3 := fS_X7_bring_ms P S 0 0
    fF_X7_emptyIn_L41 tmp sn 200 0 P S3 F2
def fR_X7_emptyIn (P : Nat → Int32) (S : Nat → Int32) (F : Nat → Int32) (tmp : Int32) (sn : Int32) : Int32 :=
  if fR_X7_isWeather tmp sn = 0 then
    0
  else
    let F2 := upd F 6 0
    let S3 := fS_X7_bring_ms P S 0 0
    fR_X7_emptyIn_L41 tmp sn 200 0 P S3 F2
