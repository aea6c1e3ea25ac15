def fP_X7_addStreet_L74 (len : Int32) (pri : Int32) : Nat → Nat → Nat → (Nat → Int32) → (Nat → Int32) → (Nat → Int32) → Nat → Int32
  | 0, a, j, Pl, Vl, Fl =>
    let x5 := (Pl 1) + 1
    let P6 := upd Pl 1 x5
    P6
  | k + 1, a, j, Pl, Vl, Fl =>
    if j = 0 then
      let P10 := upd Pl (a + j) len
      fP_X7_addStreet_L74 len pri k a (j + 1) P10 Vl Fl
    else
      if j = 1 then
        let P9 := upd Pl (a + j) pri
        fP_X7_addStreet_L74 len pri k a (j + 1) P9 Vl Fl
      else
        if j = 7 then
          let P8 := upd Pl (a + j) (-1)
          fP_X7_addStreet_L74 len pri k a (j + 1) P8 Vl Fl
        else
          let P7 := upd Pl (a + j) 0
          fP_X7_addStreet_L74 len pri k a (j + 1) P7 Vl Fl
def fV_X7_addStreet_L74 (len : Int32) (pri : Int32) : Nat → Nat → Nat → (Nat → Int32) → (Nat → Int32) → (Nat → Int32) → Nat → Int32
  | 0, a, j, Pl, Vl, Fl =>
    Vl
  | k + 1, a, j, Pl, Vl, Fl =>
    if j = 0 then
      let P10 := upd Pl (a + j) len
      fV_X7_addStreet_L74 len pri k a (j + 1) P10 Vl Fl
    else
      if j = 1 then
        let P9 := upd Pl (a + j) pri
        fV_X7_addStreet_L74 len pri k a (j + 1) P9 Vl Fl
      else
        if j = 7 then
          let P8 := upd Pl (a + j) (-1)
          fV_X7_addStreet_L74 len pri k a (j + 1) P8 Vl Fl
        else
          let P7 := upd Pl (a + j) 0
          fV_X7_addStreet_L74 len pri k a (j + 1) P7 Vl Fl
def fF_X7_addStreet_L74 (len : Int32) (pri : Int32) : Nat → Nat → Nat → (Nat → Int32) → (Nat → Int32) → (Nat → Int32) → Nat → Int32
  | 0, a, j, Pl, Vl, Fl =>
    Fl
  | k + 1, a, j, Pl, Vl, Fl =>
    if j = 0 then
      let P10 := upd Pl (a + j) len
      fF_X7_addStreet_L74 len pri k a (j + 1) P10 Vl Fl
    else
      if j = 1 then
        let P9 := upd Pl (a + j) pri
        fF_X7_addStreet_L74 len pri k a (j + 1) P9 Vl Fl
      else
        if j = 7 then
          let P8 := upd Pl (a + j) (-1)
          fF_X7_addStreet_L74 len pri k a (j + 1) P8 Vl Fl
        else
          let P7 := upd Pl (a + j) 0
          fF_X7_addStreet_L74 len pri k a (j + 1) P7 Vl Fl
def fR_X7_addStreet_L74 (len : Int32) (pri : Int32) : Nat → Nat → Nat → (Nat → Int32) → (Nat → Int32) → (Nat → Int32) → Int32
  | 0, a, j, Pl, Vl, Fl =>
    let x5 := (Pl 1) + 1
    let P6 := upd Pl 1 x5
    (P6 1) - 1
  | k + 1, a, j, Pl, Vl, Fl =>
    if j = 0 then
      let P10 := upd Pl (a + j) len
      fR_X7_addStreet_L74 len pri k a (j + 1) P10 Vl Fl
    else
      if j = 1 then
        let P9 := upd Pl (a + j) pri
        fR_X7_addStreet_L74 len pri k a (j + 1) P9 Vl Fl
      else
        if j = 7 then
          let P8 := upd Pl (a + j) (-1)
          fR_X7_addStreet_L74 len pri k a (j + 1) P8 Vl Fl
        else
          let P7 := upd Pl (a + j) 0
          fR_X7_addStreet_L74 len pri k a (j + 1) P7 Vl Fl
def fP_X7_addStreet (P : Nat → Int32) (V : Nat → Int32) (F : Nat → Int32) (len : Int32) (pri : Int32) : Nat → Int32 :=
  if fR_X7_in len 10 2000 = 0 then
    P
  else
    if fR_X7_in pri 0 2 = 0 then
      P
    else
      if (ns P) = 20 then
        P
      else
        let F2 := upd F 6 0
        let V3 := fV_X7_keep P V F2
        let F4 := fF_X7_keep P V F2
        fP_X7_addStreet_L74 len pri 8 (9 + (8 * (ns P))) 0 P V3 F4
def fV_X7_addStreet (P : Nat → Int32) (V : Nat → Int32) (F : Nat → Int32) (len : Int32) (pri : Int32) : Nat → Int32 :=
  if fR_X7_in len 10 2000 = 0 then
    V
  else
    if fR_X7_in pri 0 2 = 0 then
      V
    else
      if (ns P) = 20 then
        V
      else
        let F2 := upd F 6 0
        let V3 := fV_X7_keep P V F2
        let F4 := fF_X7_keep P V F2
        fV_X7_addStreet_L74 len pri 8 (9 + (8 * (ns P))) 0 P V3 F4
def fF_X7_addStreet (P : Nat → Int32) (V : Nat → Int32) (F : Nat → Int32) (len : Int32) (pri : Int32) : Nat → Int32 :=
  if fR_X7_in len 10 2000 = 0 then
    let F1 := upd F 6 1
    F1
  else
    if fR_X7_in pri 0 2 = 0 then
      let F12 := upd F 6 1
      F12
    else
      if (ns P) = 20 then
        let F11 := upd F 6 2
        F11
      else
        let F2 := upd F 6 0
        let V3 := fV_X7_keep P V F2
        let F4 := fF_X7_keep P V F2
        fF_X7_addStreet_L74 len pri 8 (9 + (8 * (ns P))) 0 P V3 F4
def fR_X7_addStreet (P : Nat → Int32) (V : Nat → Int32) (F : Nat → Int32) (len : Int32) (pri : Int32) : Int32 :=
  if fR_X7_in len 10 2000 = 0 then
    0
  else
    if fR_X7_in pri 0 2 = 0 then
      0
    else
      if (ns P) = 20 then
        0
      else
        let F2 := upd F 6 0
        let V3 := fV_X7_keep P V F2
        let F4 := fF_X7_keep P V F2
        fR_X7_addStreet_L74 len pri 8 (9 + (8 * (ns P))) 0 P V3 F4
def fP_X7_addPlow_L76 (spd : Int32) (cap : Int32) : Nat → Nat → Nat → (Nat → Int32) → (Nat → Int32) → (Nat → Int32) → Nat → Int32
  | 0, a, j, Pl, Vl, Fl =>
    let x5 := (Pl 2) + 1
    let P6 := upd Pl 2 x5
    P6
  | k + 1, a, j, Pl, Vl, Fl =>
    if j = 0 then
      let P9 := upd Pl (a + j) spd
      fP_X7_addPlow_L76 spd cap k a (j + 1) P9 Vl Fl
    else
      if j = 1 then
        let P8 := upd Pl (a + j) cap
        fP_X7_addPlow_L76 spd cap k a (j + 1) P8 Vl Fl
      else
        let P7 := upd Pl (a + j) 0
        fP_X7_addPlow_L76 spd cap k a (j + 1) P7 Vl Fl
def fV_X7_addPlow_L76 (spd : Int32) (cap : Int32) : Nat → Nat → Nat → (Nat → Int32) → (Nat → Int32) → (Nat → Int32) → Nat → Int32
  | 0, a, j, Pl, Vl, Fl =>
    Vl
  | k + 1, a, j, Pl, Vl, Fl =>
    if j = 0 then
      let P9 := upd Pl (a + j) spd
      fV_X7_addPlow_L76 spd cap k a (j + 1) P9 Vl Fl
    else
      if j = 1 then
        let P8 := upd Pl (a + j) cap
        fV_X7_addPlow_L76 spd cap k a (j + 1) P8 Vl Fl
      else
        let P7 := upd Pl (a + j) 0
        fV_X7_addPlow_L76 spd cap k a (j + 1) P7 Vl Fl
def fF_X7_addPlow_L76 (spd : Int32) (cap : Int32) : Nat → Nat → Nat → (Nat → Int32) → (Nat → Int32) → (Nat → Int32) → Nat → Int32
  | 0, a, j, Pl, Vl, Fl =>
    Fl
  | k + 1, a, j, Pl, Vl, Fl =>
    if j = 0 then
      let P9 := upd Pl (a + j) spd
      fF_X7_addPlow_L76 spd cap k a (j + 1) P9 Vl Fl
    else
      if j = 1 then
        let P8 := upd Pl (a + j) cap
        fF_X7_addPlow_L76 spd cap k a (j + 1) P8 Vl Fl
      else
        let P7 := upd Pl (a + j) 0
        fF_X7_addPlow_L76 spd cap k a (j + 1) P7 Vl Fl
def fR_X7_addPlow_L76 (spd : Int32) (cap : Int32) : Nat → Nat → Nat → (Nat → Int32) → (Nat → Int32) → (Nat → Int32) → Int32
  | 0, a, j, Pl, Vl, Fl =>
    let x5 := (Pl 2) + 1
    let P6 := upd Pl 2 x5
    (P6 2) - 1
  | k + 1, a, j, Pl, Vl, Fl =>
    if j = 0 then
      let P9 := upd Pl (a + j) spd
      fR_X7_addPlow_L76 spd cap k a (j + 1) P9 Vl Fl
    else
      if j = 1 then
        let P8 := upd Pl (a + j) cap
        fR_X7_addPlow_L76 spd cap k a (j + 1) P8 Vl Fl
      else
        let P7 := upd Pl (a + j) 0
        fR_X7_addPlow_L76 spd cap k a (j + 1) P7 Vl Fl
def fP_X7_addPlow (P : Nat → Int32) (V : Nat → Int32) (F : Nat → Int32) (spd : Int32) (cap : Int32) : Nat → Int32 :=
  if fR_X7_in spd 100 5000 = 0 then
    P
  else
    if fR_X7_in cap 0 5000 = 0 then
      P
    else
      if (np P) = 3 then
        P
      else
        let F2 := upd F 6 0
        let V3 := fV_X7_keep P V F2
        let F4 := fF_X7_keep P V F2
        fP_X7_addPlow_L76 spd cap 20 (169 + (20 * (np P))) 0 P V3 F4
def fV_X7_addPlow (P : Nat → Int32) (V : Nat → Int32) (F : Nat → Int32) (spd : Int32) (cap : Int32) : Nat → Int32 :=
  if fR_X7_in spd 100 5000 = 0 then
    V
  else
    if fR_X7_in cap 0 5000 = 0 then
      V
    else
      if (np P) = 3 then
        V
      else
        let F2 := upd F 6 0
        let V3 := fV_X7_keep P V F2
        let F4 := fF_X7_keep P V F2
        fV_X7_addPlow_L76 spd cap 20 (169 + (20 * (np P))) 0 P V3 F4
def fF_X7_addPlow (P : Nat → Int32) (V : Nat → Int32) (F : Nat → Int32) (spd : Int32) (cap : Int32) : Nat → Int32 :=
  if fR_X7_in spd 100 5000 = 0 then
    let F1 := upd F 6 1
    F1
  else
    if fR_X7_in cap 0 5000 = 0 then
      let F11 := upd F 6 1
      F11
    else
      if (np P) = 3 then
        let F10 := upd F 6 2
        F10
      else
        let F2 := upd F 6 0
        let V3 := fV_X7_keep P V F2
        let F4 := fF_X7_keep P V F2
        fF_X7_addPlow_L76 spd cap 20 (169 + (20 * (np P))) 0 P V3 F4
def fR_X7_addPlow (P : Nat → Int32) (V : Nat → Int32) (F : Nat → Int32) (spd : Int32) (cap : Int32) : Int32 :=
  if fR_X7_in spd 100 5000 = 0 then
    0
  else
    if fR_X7_in cap 0 5000 = 0 then
      0
    else
      if (np P) = 3 then
        0
      else
        let F2 := upd F 6 0
        let V3 := fV_X7_keep P V F2
        let F4 := fF_X7_keep P V F2
        fR_X7_addPlow_L76 spd cap 20 (169 + (20 * (np P))) 0 P V3 F4
def fP_X7_addStop (P : Nat → Int32) (V : Nat → Int32) (F : Nat → Int32) (pl : Int32) (str : Int32) : Nat → Int32 :=
  if fR_X7_isPlow P pl = 0 then
    P
  else
    if fR_X7_isStreet P str = 0 then
      P
    else
      if fR_X7_ofPlow P pl.toNatClampNeg 3 = 12 then
        P
      else
        let P5 := upd P (169 + 20 * pl.toNatClampNeg + 8 + (nc P pl.toNatClampNeg)) str
        let x6 := (P5 (169 + 20 * pl.toNatClampNeg + 3)) + 1
        let P7 := upd P5 (169 + 20 * pl.toNatClampNeg + 3) x6
        P7
def fV_X7_addStop (P : Nat → Int32) (V : Nat → Int32) (F : Nat → Int32) (pl : Int32) (str : Int32) : Nat → Int32 :=
  if fR_X7_isPlow P pl = 0 then
    V
  else
    if fR_X7_isStreet P str = 0 then
      V
    else
      if fR_X7_ofPlow P pl.toNatClampNeg 3 = 12 then
        V
      else
        let F2 := upd F 6 0
        let V3 := fV_X7_keep P V F2
        V3
def fF_X7_addStop (P : Nat → Int32) (V : Nat → Int32) (F : Nat → Int32) (pl : Int32) (str : Int32) : Nat → Int32 :=
  if fR_X7_isPlow P pl = 0 then
    let F1 := upd F 6 1
    F1
  else
    if fR_X7_isStreet P str = 0 then
      let F9 := upd F 6 1
      F9
    else
      if fR_X7_ofPlow P pl.toNatClampNeg 3 = 12 then
        let F8 := upd F 6 2
        F8
      else
        let F2 := upd F 6 0
        let F4 := fF_X7_keep P V F2
        F4
def fR_X7_addStop (P : Nat → Int32) (V : Nat → Int32) (F : Nat → Int32) (pl : Int32) (str : Int32) : Int32 :=
  if fR_X7_isPlow P pl = 0 then
    0
  else
    if fR_X7_isStreet P str = 0 then
      0
    else
      if fR_X7_ofPlow P pl.toNatClampNeg 3 = 12 then
        0
      else
        let P5 := upd P (169 + 20 * pl.toNatClampNeg + 8 + (nc P pl.toNatClampNeg)) str
        let x6 := (P5 (169 + 20 * pl.toNatClampNeg + 3)) + 1
        let P7 := upd P5 (169 + 20 * pl.toNatClampNeg + 3) x6
        P7 (169 + 20 * pl.toNatClampNeg + 3)
def fP_X7_clearRoute (P : Nat → Int32) (V : Nat → Int32) (F : Nat → Int32) (pl : Int32) : Nat → Int32 :=
  if fR_X7_isPlow P pl = 0 then
    P
  else
    let P6 := upd P (169 + 20 * pl.toNatClampNeg + 3) 0
    let P7 := upd P6 (169 + 20 * pl.toNatClampNeg + 4) 0
    let P8 := upd P7 (169 + 20 * pl.toNatClampNeg + 5) 0
    P8
def fV_X7_clearRoute (P : Nat → Int32) (V : Nat → Int32) (F : Nat → Int32) (pl : Int32) : Nat → Int32 :=
  if fR_X7_isPlow P pl = 0 then
    V
  else
    let F2 := upd F 6 0
    let V3 := fV_X7_keep P V F2
    V3
def fF_X7_clearRoute (P : Nat → Int32) (V : Nat → Int32) (F : Nat → Int32) (pl : Int32) : Nat → Int32 :=
  if fR_X7_isPlow P pl = 0 then
    let F1 := upd F 6 1
    F1
  else
    let F2 := upd F 6 0
    let F4 := fF_X7_keep P V F2
    F4
def fR_X7_clearRoute (P : Nat → Int32) (V : Nat → Int32) (F : Nat → Int32) (pl : Int32) : Int32 :=
  if fR_X7_isPlow P pl = 0 then
    0
  else
    let x5 := P (169 + 20 * pl.toNatClampNeg + 3)
    x5
def fP_X7_exchange (P : Nat → Int32) (V : Nat → Int32) (F : Nat → Int32) (pl : Int32) (x : Int32) : Nat → Int32 :=
  if fR_X7_isPlow P pl = 0 then
    P
  else
    if fR_X7_isPair P pl.toNatClampNeg x = 0 then
      P
    else
      if fR_X7_isBusy P pl.toNatClampNeg x = 0 then
        let P5 := fP_X7_exchanges P pl.toNatClampNeg x.toNatClampNeg
        P5
      else
        P
def fV_X7_exchange (P : Nat → Int32) (V : Nat → Int32) (F : Nat → Int32) (pl : Int32) (x : Int32) : Nat → Int32 :=
  if fR_X7_isPlow P pl = 0 then
    V
  else
    if fR_X7_isPair P pl.toNatClampNeg x = 0 then
      V
    else
      if fR_X7_isBusy P pl.toNatClampNeg x = 0 then
        let F2 := upd F 6 0
        let V3 := fV_X7_keep P V F2
        V3
      else
        V
def fF_X7_exchange (P : Nat → Int32) (V : Nat → Int32) (F : Nat → Int32) (pl : Int32) (x : Int32) : Nat → Int32 :=
  if fR_X7_isPlow P pl = 0 then
    let F1 := upd F 6 1
    F1
  else
    if fR_X7_isPair P pl.toNatClampNeg x = 0 then
      let F7 := upd F 6 1
      F7
    else
      if fR_X7_isBusy P pl.toNatClampNeg x = 0 then
        let F2 := upd F 6 0
        let F4 := fF_X7_keep P V F2
        F4
      else
        let F6 := upd F 6 2
        F6
def fR_X7_exchange (P : Nat → Int32) (V : Nat → Int32) (F : Nat → Int32) (pl : Int32) (x : Int32) : Int32 :=
  if fR_X7_isPlow P pl = 0 then
    0
  else
    if fR_X7_isPair P pl.toNatClampNeg x = 0 then
      0
    else
      if fR_X7_isBusy P pl.toNatClampNeg x = 0 then
        fR_X7_exchanges P pl.toNatClampNeg x.toNatClampNeg
      else
        0
def fP_X7_setTerms (P : Nat → Int32) (V : Nat → Int32) (F : Nat → Int32) (pri : Int32) (tr : Int32) (li : Int32) (cr : Int32) : Nat → Int32 :=
  if fR_X7_in pri 0 2 = 0 then
    P
  else
    if fR_X7_in tr 1 200 = 0 then
      P
    else
      if fR_X7_in li 1 48 = 0 then
        P
      else
        if fR_X7_in cr 0 1000 = 0 then
          P
        else
          let P7 := fP_X7_layTerms P pri.toNatClampNeg tr li cr
          P7
def fV_X7_setTerms (P : Nat → Int32) (V : Nat → Int32) (F : Nat → Int32) (pri : Int32) (tr : Int32) (li : Int32) (cr : Int32) : Nat → Int32 :=
  if fR_X7_in pri 0 2 = 0 then
    V
  else
    if fR_X7_in tr 1 200 = 0 then
      V
    else
      if fR_X7_in li 1 48 = 0 then
        V
      else
        if fR_X7_in cr 0 1000 = 0 then
          V
        else
          let F3 := upd F 6 0
          let V4 := fV_X7_keep P V F3
          V4
def fF_X7_setTerms (P : Nat → Int32) (V : Nat → Int32) (F : Nat → Int32) (pri : Int32) (tr : Int32) (li : Int32) (cr : Int32) : Nat → Int32 :=
  if fR_X7_in pri 0 2 = 0 then
    let F9 := upd F 6 1
    F9
  else
    if fR_X7_in tr 1 200 = 0 then
      let F1 := upd F 6 2
      F1
    else
      if fR_X7_in li 1 48 = 0 then
        let F2 := upd F 6 2
        F2
      else
        if fR_X7_in cr 0 1000 = 0 then
          let F8 := upd F 6 2
          F8
        else
          let F3 := upd F 6 0
          let F5 := fF_X7_keep P V F3
          F5
def fR_X7_setTerms (P : Nat → Int32) (V : Nat → Int32) (F : Nat → Int32) (pri : Int32) (tr : Int32) (li : Int32) (cr : Int32) : Int32 :=
  if fR_X7_in pri 0 2 = 0 then
    0
  else
    if fR_X7_in tr 1 200 = 0 then
      0
    else
      if fR_X7_in li 1 48 = 0 then
        0
      else
        if fR_X7_in cr 0 1000 = 0 then
          0
        else
          let x6 := P (229 + 4 * pri.toNatClampNeg + 0)
          x6
def fP_X7_setSpread (P : Nat → Int32) (V : Nat → Int32) (F : Nat → Int32) (sp : Int32) : Nat → Int32 :=
  if fR_X7_in sp 0 50 = 0 then
    P
  else
    let P6 := upd P 4 sp
    P6
def fV_X7_setSpread (P : Nat → Int32) (V : Nat → Int32) (F : Nat → Int32) (sp : Int32) : Nat → Int32 :=
  if fR_X7_in sp 0 50 = 0 then
    V
  else
    let F2 := upd F 6 0
    let V3 := fV_X7_keep P V F2
    V3
def fF_X7_setSpread (P : Nat → Int32) (V : Nat → Int32) (F : Nat → Int32) (sp : Int32) : Nat → Int32 :=
  if fR_X7_in sp 0 50 = 0 then
    let F1 := upd F 6 1
    F1
  else
    let F2 := upd F 6 0
    let F4 := fF_X7_keep P V F2
    F4
def fR_X7_setSpread (P : Nat → Int32) (V : Nat → Int32) (F : Nat → Int32) (sp : Int32) : Int32 :=
  if fR_X7_in sp 0 50 = 0 then
    0
  else
    let x5 := P 4
    x5
def fP_X7_deliver (P : Nat → Int32) (V : Nat → Int32) (F : Nat → Int32) (kg : Int32) : Nat → Int32 :=
  if fR_X7_in kg 0 100000 = 0 then
    P
  else
    if (P 3) + kg ≤ 100000 then
      let x4 := (P 3) + kg
      let P5 := upd P 3 x4
      let x6 := (P5 7) + kg
      let P7 := upd P5 7 x6
      P7
    else
      P
def fV_X7_deliver (P : Nat → Int32) (V : Nat → Int32) (F : Nat → Int32) (kg : Int32) : Nat → Int32 :=
  if fR_X7_in kg 0 100000 = 0 then
    V
  else
    if (P 3) + kg ≤ 100000 then
      let F1 := upd F 6 0
      let V2 := fV_X7_keep P V F1
      V2
    else
      V
def fF_X7_deliver (P : Nat → Int32) (V : Nat → Int32) (F : Nat → Int32) (kg : Int32) : Nat → Int32 :=
  if fR_X7_in kg 0 100000 = 0 then
    let F9 := upd F 6 1
    F9
  else
    if (P 3) + kg ≤ 100000 then
      let F1 := upd F 6 0
      let F3 := fF_X7_keep P V F1
      F3
    else
      let F8 := upd F 6 2
      F8
def fR_X7_deliver (P : Nat → Int32) (V : Nat → Int32) (F : Nat → Int32) (kg : Int32) : Int32 :=
  if fR_X7_in kg 0 100000 = 0 then
    0
  else
    if (P 3) + kg ≤ 100000 then
      let x4 := (P 3) + kg
      let P5 := upd P 3 x4
      let x6 := (P5 7) + kg
      let P7 := upd P5 7 x6
      P7 3
    else
      0
def fP_X7_run (P : Nat → Int32) (V : Nat → Int32) (F : Nat → Int32) (tmp : Int32) (sn : Int32) (hrs : Int32) : Nat → Int32 :=
  if fR_X7_isWeather tmp sn = 0 then
    P
  else
    if fR_X7_in hrs 0 100 = 0 then
      P
    else
      if (P 0) + hrs ≤ 2000 then
        let P5 := fP_X7_hours P tmp sn hrs.toNatClampNeg
        P5
      else
        P
def fV_X7_run (P : Nat → Int32) (V : Nat → Int32) (F : Nat → Int32) (tmp : Int32) (sn : Int32) (hrs : Int32) : Nat → Int32 :=
  if fR_X7_isWeather tmp sn = 0 then
    V
  else
    if fR_X7_in hrs 0 100 = 0 then
      V
    else
      if (P 0) + hrs ≤ 2000 then
        let F2 := upd F 6 0
        let V3 := fV_X7_keep P V F2
        V3
      else
        V
def fF_X7_run (P : Nat → Int32) (V : Nat → Int32) (F : Nat → Int32) (tmp : Int32) (sn : Int32) (hrs : Int32) : Nat → Int32 :=
  if fR_X7_isWeather tmp sn = 0 then
    let F1 := upd F 6 1
    F1
  else
    if fR_X7_in hrs 0 100 = 0 then
      let F7 := upd F 6 1
      F7
    else
      if (P 0) + hrs ≤ 2000 then
        let F2 := upd F 6 0
        let F4 := fF_X7_keep P V F2
        F4
      else
        let F6 := upd F 6 2
        F6
def fR_X7_run (P : Nat → Int32) (V : Nat → Int32) (F : Nat → Int32) (tmp : Int32) (sn : Int32) (hrs : Int32) : Int32 :=
  if fR_X7_isWeather tmp sn = 0 then
    0
  else
    if fR_X7_in hrs 0 100 = 0 then
      0
    else
      if (P 0) + hrs ≤ 2000 then
        fR_X7_hours P tmp sn hrs.toNatClampNeg
      else
        0
