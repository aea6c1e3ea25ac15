/-! What an hour wants, it leaves. -/
theorem hrI_u {n m : Nat} {c : Nat → Nat} {P : Nat → Int32} {a : Nat} {x : Int32} (ha : a = 0 ∨ (2 < a ∧ a < 9)) (h : hrI n m c P) : hrI n m c (upd P a x) := hrI_f h (WF_u ha h.1) (upd_n (by omega)) (upd_n (by omega)) (fun q _ => ⟨upd_n (by omega), fun j _ => upd_n (by omega)⟩)
theorem hrI_L53 {n m : Nat} {c : Nat → Nat} {tmp sn : Int32} : ∀ (k : Nat) (acc : Int32) (j : Nat) (P : Nat → Int32), hrI n m c P → j + k ≤ 20 → hrI n m c (fP_X7_hour_L53 tmp sn k acc j P)
  | 0, acc, j, P, h, _ => by
    rw [fP_X7_hour_L53]
    (try dsimp only)
    exact hrI_u (by omega) (hrI_u (by omega) h)
  | k + 1, acc, j, P, h, hk => by
    rw [fP_X7_hour_L53]
    (try dsimp only)
    exact hrI_L53 k _ _ _ (hrI_waits (by omega) h) (by omega)
theorem hrI_L27 {n m : Nat} {c : Nat → Nat} {tmp sn : Int32} : ∀ (k j : Nat) (P : Nat → Int32), hrI n m c P → j + k = m → hrI n m c (fP_X7_hour_L27 tmp sn k j P)
  | 0, j, P, h, _ => by
    rw [fP_X7_hour_L27]
    have := h.1.1.2.1
    exact hrI_L53 _ _ _ _ h (by omega)
  | k + 1, j, P, h, hk => by
    rw [fP_X7_hour_L27]
    (try dsimp only)
    exact hrI_L27 k _ _ (hrI_plows (by omega) h) (by omega)
theorem hrI_L2 {n m : Nat} {c : Nat → Nat} {tmp sn : Int32} : ∀ (k j : Nat) (P : Nat → Int32), hrI n m c P → j + k ≤ 20 → hrI n m c (fP_X7_hour_L2 tmp sn k j P)
  | 0, j, P, h, _ => by
    rw [fP_X7_hour_L2]
    exact hrI_L27 _ _ _ h (by have := h.2.2.1; omega)
  | k + 1, j, P, h, hk => by
    rw [fP_X7_hour_L2]
    (try dsimp only)
    exact hrI_L2 k _ _ (hrI_weather (by omega) h) (by omega)
theorem hrI_hour {n m : Nat} {c : Nat → Nat} {tmp sn : Int32} {P : Nat → Int32} (h : hrI n m c P) : hrI n m c (fP_X7_hour P tmp sn) := hrI_L2 _ _ _ h (by have := h.1.1.2.1; omega)
