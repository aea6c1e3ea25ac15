def fP_X7_plows_L114 (q : Nat) : Nat → Int32 → Int32 → (Nat → Int32) → Nat → Int32
  | 0, mo, mt, Pl =>
    if mo = 0 then
      Pl
    else
      Pl
  | k + 1, mo, mt, Pl =>
    if mo = 0 then
      Pl
    else
      if mt ≤ 0 then
        Pl
      else
        if Pl (169 + 20 * q + 5) = 0 then
          if fR_X7_isDue Pl (rt Pl q (pa Pl q)) = 0 then
            let P20 := fP_X7_goesOn Pl q
            let x21 := fR_X7_goesOn Pl q
            fP_X7_plows_L114 q k x21 mt P20
          else
            let x11 := fR_X7_lesser mt ((fR_X7_of Pl (rt Pl q (pa Pl q)) 0) - (Pl (169 + 20 * q + 5)))
            let x12 := mt - x11
            let x13 := (Pl (169 + 20 * q + 5)) + x11
            let P14 := upd Pl (169 + 20 * q + 5) x13
            let x15 := (P14 (169 + 20 * q + 7)) + x11
            let P16 := upd P14 (169 + 20 * q + 7) x15
            if P16 (169 + 20 * q + 5) = fR_X7_of P16 (rt Pl q (pa Pl q)) 0 then
              let P17 := fP_X7_clears P16 q (rt Pl q (pa Pl q))
              let P18 := fP_X7_goesOn P17 q
              let x19 := fR_X7_goesOn P17 q
              fP_X7_plows_L114 q k x19 x12 P18
            else
              fP_X7_plows_L114 q k mo x12 P16
        else
          let x2 := fR_X7_lesser mt ((fR_X7_of Pl (rt Pl q (pa Pl q)) 0) - (Pl (169 + 20 * q + 5)))
          let x3 := mt - x2
          let x4 := (Pl (169 + 20 * q + 5)) + x2
          let P5 := upd Pl (169 + 20 * q + 5) x4
          let x6 := (P5 (169 + 20 * q + 7)) + x2
          let P7 := upd P5 (169 + 20 * q + 7) x6
          if P7 (169 + 20 * q + 5) = fR_X7_of P7 (rt Pl q (pa Pl q)) 0 then
            let P8 := fP_X7_clears P7 q (rt Pl q (pa Pl q))
            let P9 := fP_X7_goesOn P8 q
            let x10 := fR_X7_goesOn P8 q
            fP_X7_plows_L114 q k x10 x3 P9
          else
            fP_X7_plows_L114 q k mo x3 P7
def fP_X7_plows (P : Nat → Int32) (q : Nat) : Nat → Int32 :=
  if P (169 + 20 * q + 3) ≤ 0 then
    let x1 := P (169 + 20 * q + 0)
    fP_X7_plows_L114 q 12 0 x1 P
  else
    if P (169 + 20 * q + 4) = 0 then
      if P (169 + 20 * q + 5) = 0 then
        let x24 := fR_X7_lesser ((P (169 + 20 * q + 1)) - (P (169 + 20 * q + 2))) (P 3)
        let x25 := (P (169 + 20 * q + 2)) + x24
        let P26 := upd P (169 + 20 * q + 2) x25
        let x27 := (P26 3) - x24
        let P28 := upd P26 3 x27
        let x29 := P28 (169 + 20 * q + 0)
        fP_X7_plows_L114 q 12 1 x29 P28
      else
        let x23 := P (169 + 20 * q + 0)
        fP_X7_plows_L114 q 12 1 x23 P
    else
      let x22 := P (169 + 20 * q + 0)
      fP_X7_plows_L114 q 12 1 x22 P
