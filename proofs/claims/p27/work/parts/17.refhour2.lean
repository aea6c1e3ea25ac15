def fP_X7_hour_L53 (tmp : Int32) (sn : Int32) : Nat → Int32 → Nat → (Nat → Int32) → Nat → Int32
  | 0, acc, j, Pl =>
    let x1 := (Pl 6) + acc
    let P2 := upd Pl 6 x1
    let x3 := (P2 0) + 1
    let P4 := upd P2 0 x3
    P4
  | k + 1, acc, j, Pl =>
    let P5 := fP_X7_waits Pl j
    let x6 := acc + (fR_X7_waits Pl j)
    fP_X7_hour_L53 tmp sn k x6 (j + 1) P5
def fR_X7_hour_L53 (tmp : Int32) (sn : Int32) : Nat → Int32 → Nat → (Nat → Int32) → Int32
  | 0, acc, j, Pl =>
    acc
  | k + 1, acc, j, Pl =>
    let P5 := fP_X7_waits Pl j
    let x6 := acc + (fR_X7_waits Pl j)
    fR_X7_hour_L53 tmp sn k x6 (j + 1) P5
def fP_X7_hour_L27 (tmp : Int32) (sn : Int32) : Nat → Nat → (Nat → Int32) → Nat → Int32
  | 0, j, Pl =>
    fP_X7_hour_L53 tmp sn (ns Pl) 0 0 Pl
  | k + 1, j, Pl =>
    let P7 := fP_X7_plows Pl j
    fP_X7_hour_L27 tmp sn k (j + 1) P7
def fR_X7_hour_L27 (tmp : Int32) (sn : Int32) : Nat → Nat → (Nat → Int32) → Int32
  | 0, j, Pl =>
    fR_X7_hour_L53 tmp sn (ns Pl) 0 0 Pl
  | k + 1, j, Pl =>
    let P7 := fP_X7_plows Pl j
    fR_X7_hour_L27 tmp sn k (j + 1) P7
def fP_X7_hour_L2 (tmp : Int32) (sn : Int32) : Nat → Nat → (Nat → Int32) → Nat → Int32
  | 0, j, Pl =>
    fP_X7_hour_L27 tmp sn (np Pl) 0 Pl
  | k + 1, j, Pl =>
    let P8 := fP_X7_weather Pl j tmp sn
    fP_X7_hour_L2 tmp sn k (j + 1) P8
def fR_X7_hour_L2 (tmp : Int32) (sn : Int32) : Nat → Nat → (Nat → Int32) → Int32
  | 0, j, Pl =>
    fR_X7_hour_L27 tmp sn (np Pl) 0 Pl
  | k + 1, j, Pl =>
    let P8 := fP_X7_weather Pl j tmp sn
    fR_X7_hour_L2 tmp sn k (j + 1) P8
def fP_X7_hour (P : Nat → Int32) (tmp : Int32) (sn : Int32) : Nat → Int32 :=
  fP_X7_hour_L2 tmp sn (ns P) 0 P
def fR_X7_hour (P : Nat → Int32) (tmp : Int32) (sn : Int32) : Int32 :=
  fR_X7_hour_L2 tmp sn (ns P) 0 P
