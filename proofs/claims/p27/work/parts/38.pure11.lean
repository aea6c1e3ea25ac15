/-! The class's small steps are the reference's. -/
theorem upd_i {P : Nat → Int32} {k : Nat} : upd P k (P k) = P := by
  funext j; unfold upd; split <;> simp_all
theorem upd_u {P : Nat → Int32} {k : Nat} {x y : Int32} : upd (upd P k x) k y = upd P k y := by
  funext j; unfold upd; split <;> rfl
theorem upd_x {P : Nat → Int32} {k j : Nat} {x y : Int32} (h : k ≠ j) : upd (upd P k x) j y = upd (upd P j y) k x := by
  funext i; unfold upd; split
  · rename_i h1; rw [if_neg (by omega)]
  · rfl
theorem less_a {x y : Int32} : (if y < x then y else x) = fR_X7_lesser x y := by
  unfold fR_X7_lesser
  by_cases h : y < x
  · rw [if_pos h, if_pos (Int32.le_of_lt h)]
  · rw [if_neg h]
    by_cases h2 : y ≤ x
    · rw [if_pos h2]; exact Int32.le_antisymm (Int32.not_lt.1 h) h2
    · rw [if_neg h2]
theorem less_b {x y : Int32} : (if y < x then y else x) = fR_X7_lesser y x := by
  unfold fR_X7_lesser
  by_cases h : y < x
  · rw [if_pos h, if_neg (Int32.not_le.2 h)]
  · rw [if_neg h, if_pos (Int32.not_lt.1 h)]
theorem isDue_eq {P : Nat → Int32} {i : Nat} : fR_X0_isDue P i = fR_X7_isDue P i := rfl
theorem goOnR_eq {P : Nat → Int32} {q : Nat} : fR_X1_goOn P q = fR_X7_goesOn P q := rfl
theorem goOn_eq {P : Nat → Int32} {q : Nat} : fP_X1_goOn P q = fP_X7_goesOn P q := by
  unfold fP_X1_goOn fP_X7_goesOn
  dsimp only
  split
  · rfl
  · rw [upd_i, Int32.add_zero, upd_i]
theorem plowOnR_eq {P : Nat → Int32} {q : Nat} {len mt : Int32} : fR_X1_plowOn P q len mt = fR_X7_lesser mt (len - P (169 + 20 * q + 5)) := less_a
theorem plowOn_eq {P : Nat → Int32} {q : Nat} {len mt : Int32} : fP_X1_plowOn P q len mt = upd (upd P (169 + 20 * q + 5) (P (169 + 20 * q + 5) + fR_X7_lesser mt (len - P (169 + 20 * q + 5)))) (169 + 20 * q + 7) (upd P (169 + 20 * q + 5) (P (169 + 20 * q + 5) + fR_X7_lesser mt (len - P (169 + 20 * q + 5))) (169 + 20 * q + 7) + fR_X7_lesser mt (len - P (169 + 20 * q + 5))) := by
  unfold fP_X1_plowOn
  dsimp only
  rw [less_a]
theorem fill_eq {P : Nat → Int32} {q : Nat} : fP_X0_fill P q = upd (upd P (169 + 20 * q + 2) (P (169 + 20 * q + 2) + fR_X7_lesser ((P (169 + 20 * q + 1)) - (P (169 + 20 * q + 2))) (P 3))) 3 (upd P (169 + 20 * q + 2) (P (169 + 20 * q + 2) + fR_X7_lesser ((P (169 + 20 * q + 1)) - (P (169 + 20 * q + 2))) (P 3)) 3 - fR_X7_lesser ((P (169 + 20 * q + 1)) - (P (169 + 20 * q + 2))) (P 3)) := by
  unfold fP_X0_fill
  dsimp only
  rw [less_a]
theorem clear_eq {P : Nat → Int32} {i q : Nat} (hi : i < 20) : fP_X0_clear P i q = fP_X7_clears P q i := by
  have e1 : 169 + 20 * q + 2 ≠ 8 := by omega
  have e2 : 169 + 20 * q + 2 ≠ 9 + 8 * i + 2 := by omega
  have e3 : 169 + 20 * q + 2 ≠ 9 + 8 * i + 4 := by omega
  have e4 : 169 + 20 * q + 2 ≠ 9 + 8 * i + 6 := by omega
  have e5 : 169 + 20 * q + 2 ≠ 9 + 8 * i + 7 := by omega
  have e6 : 8 ≠ 9 + 8 * i + 2 := by omega
  have e7 : 8 ≠ 9 + 8 * i + 4 := by omega
  have e8 : 8 ≠ 9 + 8 * i + 6 := by omega
  have e9 : 8 ≠ 9 + 8 * i + 7 := by omega
  have f1 : 9 + 8 * i + 2 ≠ 9 + 8 * i + 4 := by omega
  have f2 : 9 + 8 * i + 2 ≠ 9 + 8 * i + 6 := by omega
  have f4 : 9 + 8 * i + 4 ≠ 9 + 8 * i + 6 := by omega
  have f6 : 9 + 8 * i + 6 ≠ 9 + 8 * i + 7 := by omega
  have z0 : (0 : Nat) ≠ 8 := by decide
  have z1 : 0 ≠ 169 + 20 * q + 2 := by omega
  have z2 : 0 ≠ 9 + 8 * i + 2 := by omega
  have z3 : 0 ≠ 9 + 8 * i + 4 := by omega
  have z4 : 0 ≠ 9 + 8 * i + 6 := by omega
  unfold fP_X0_clear fP_X7_clears fP_X3_becomeClear
  dsimp only
  rw [less_a (x := ((P (9 + 8 * i + 0)) * (P 4) + 999) / 1000), show fR_X7_ofPlow P q 2 = P (169 + 20 * q + 2) from rfl]
  generalize fR_X7_lesser (((P (9 + 8 * i + 0)) * (P 4) + 999) / 1000) (P (169 + 20 * q + 2)) = x2
  generalize ((P (9 + 8 * i + 0)) * (P 4) + 999) / 1000 = x1
  split
  · funext j
    simp only [upd, e1, e2, e3, e4, e5, e6, e7, e8, e9, f1, f2, f4, f6, z0, z1, z2, z3, z4, e1.symm, e2.symm, e3.symm, e4.symm, e5.symm, e6.symm, e7.symm, e8.symm, e9.symm, f1.symm, f2.symm, f4.symm, f6.symm, if_false, if_true]
    repeat' split
    all_goals first | rfl | omega | (simp_all; done)
  · funext j
    simp only [upd, e1, e2, e3, e4, e5, e6, e7, e8, e9, f1, f2, f4, f6, z0, z1, z2, z3, z4, e1.symm, e2.symm, e3.symm, e4.symm, e5.symm, e6.symm, e7.symm, e8.symm, e9.symm, f1.symm, f2.symm, f4.symm, f6.symm, if_false, if_true]
    repeat' split
    all_goals first | rfl | omega | (simp_all; done)
theorem fr_takeWeather {P : Nat → Int32} {i j : Nat} {tmp sn : Int32} (h2 : j ≠ 9 + 8 * i + 2) (h3 : j ≠ 9 + 8 * i + 3) (h4 : j ≠ 9 + 8 * i + 4) : fP_X3_takeWeather P i tmp sn j = P j := by
  unfold fP_X3_takeWeather fP_X3_freeze fP_X3_thaw
  dsimp only
  repeat' split
  all_goals simp only [upd_n h2, upd_n h3, upd_n h4]
theorem WF_takeWeather {P : Nat → Int32} {i : Nat} {tmp sn : Int32} (hi : i < 20) (h : WF P) : WF (fP_X3_takeWeather P i tmp sn) := WF_c (fun j hj => by
  rcases hj with rfl | rfl | ⟨k, hk, rfl⟩ | ⟨q, hq, rfl | rfl | ⟨r, hr, rfl⟩⟩ <;> exact fr_takeWeather (by omega) (by omega) (by omega)) h
theorem ns_takeWeather {P : Nat → Int32} {i : Nat} {tmp sn : Int32} : fP_X3_takeWeather P i tmp sn 1 = P 1 ∧ fP_X3_takeWeather P i tmp sn 2 = P 2 := ⟨fr_takeWeather (by omega) (by omega) (by omega), fr_takeWeather (by omega) (by omega) (by omega)⟩
theorem goC_W {P : Nat → Int32} {q : Nat} (h : okW P q) : okW (fP_X1_goOn P q) q := goOn_eq ▸ go_W h
theorem okW_plowOn {P : Nat → Int32} {q : Nat} {len mt : Int32} (h : okW P q) : okW (fP_X1_plowOn P q len mt) q := plowOn_eq ▸ okW_u2 h
theorem okW_clear {P : Nat → Int32} {q i : Nat} (hi : i < 20) (h : okW P q) : okW (fP_X0_clear P i q) q := clear_eq hi ▸ okW_clears hi h
theorem okW_fill {P : Nat → Int32} {q : Nat} (h : okW P q) : okW (fP_X0_fill P q) q := fill_eq ▸ (plows_j h).1
