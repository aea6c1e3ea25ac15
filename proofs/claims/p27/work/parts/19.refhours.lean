def fP_X7_hours_L6 (tmp : Int32) (sn : Int32) (many : Nat) : Nat → Int32 → Nat → (Nat → Int32) → Nat → Int32
  | 0, acc, j, Pl =>
    Pl
  | k + 1, acc, j, Pl =>
    let P1 := fP_X7_hour Pl tmp sn
    let x2 := acc + (fR_X7_hour Pl tmp sn)
    fP_X7_hours_L6 tmp sn many k x2 (j + 1) P1
def fR_X7_hours_L6 (tmp : Int32) (sn : Int32) (many : Nat) : Nat → Int32 → Nat → (Nat → Int32) → Int32
  | 0, acc, j, Pl =>
    acc
  | k + 1, acc, j, Pl =>
    let P1 := fP_X7_hour Pl tmp sn
    let x2 := acc + (fR_X7_hour Pl tmp sn)
    fR_X7_hours_L6 tmp sn many k x2 (j + 1) P1
def fP_X7_hours (P : Nat → Int32) (tmp : Int32) (sn : Int32) (many : Nat) : Nat → Int32 :=
  fP_X7_hours_L6 tmp sn many many 0 0 P
def fR_X7_hours (P : Nat → Int32) (tmp : Int32) (sn : Int32) (many : Nat) : Int32 :=
  fR_X7_hours_L6 tmp sn many many 0 0 P
