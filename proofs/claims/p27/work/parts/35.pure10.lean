theorem allL {T : Nat → Int32} : ∀ (k : Nat) (acc : Int32) (F : Nat → Int32), okX F → ∀ j, j ≠ 7 → j ≠ 8 → j ≠ 9 → j ≠ 10 → j ≠ 11 → fF_X7_allHours_L7 T k acc F j = F j
  | 0, acc, F, _, j, _, _, _, _, _ => by rw [fF_X7_allHours_L7]
  | k + 1, acc, F, hX, j, h7, h8, h9, h10, h11 => by
    rw [fF_X7_allHours_L7]
    by_cases h1 : tl F ≤ ta F
    · rw [if_pos h1]
    · rw [if_neg h1]
      (try dsimp only)
      have hf := (item_K (T := T) hX).1.2.2.2.1 j h7 h8 h9 h10 h11
      by_cases h2 : fR_X7_readItem T F = 0
      · rw [if_pos h2]; exact hf
      · rw [if_neg h2, allL k _ _ (item_K hX).1.1 j h7 h8 h9 h10 h11]; exact hf
theorem allHours_f {T F : Nat → Int32} (hT : okT F) {j : Nat} (h7 : j ≠ 7) (h8 : j ≠ 8) (h9 : j ≠ 9) (h10 : j ≠ 10) (h11 : j ≠ 11) : fF_X7_allHours T F j = F j := by
  unfold fF_X7_allHours
  (try dsimp only)
  exact (allL 150 0 _ (okX_7 (n := 0) hT (Nat.zero_le _)) j h7 h8 h9 h10 h11).trans (upd_n h7)
theorem allHours_K {T F : Nat → Int32} (hT : okT F) (hc : okC F) : okC (fF_X7_allHours T F) ∧ okT (fF_X7_allHours T F) := ⟨okC_c (allHours_f hT (by decide) (by decide) (by decide) (by decide) (by decide)) hc, okT_c (allHours_f hT (by decide) (by decide) (by decide) (by decide) (by decide)) hT⟩
/-- the pages that are saved, kept: the oldest one is dropped from four -/
theorem keepL_F {P : Nat → Int32} : ∀ (k j : Nat) (V F : Nat → Int32), fF_X7_keep_L10 P k j V F = upd (upd F 3 (nI (4 - 1))) 3 (nI (4 - 1 + 1))
  | 0, _, _, _ => by rw [fF_X7_keep_L10]
  | k + 1, j, V, F => by
    rw [fF_X7_keep_L10]
    exact keepL_F k (j + 1) _ F
theorem keepL_V {P F : Nat → Int32} : ∀ (k j : Nat) (V : Nat → Int32) (i : Nat), j + k = 723 → fV_X7_keep_L10 P k j V F i = if 723 ≤ i ∧ i < 964 then P (i - 723) else if j ≤ i ∧ i < 723 then V (i + 241) else V i
  | 0, j, V, i, hj => by
    rw [fV_X7_keep_L10]
    (try dsimp only)
    rw [bring_mv_v]
    by_cases h1 : 723 ≤ i ∧ i < 964
    · rw [if_pos h1, if_pos (by omega)]
      exact congrArg P (by omega)
    · rw [if_neg h1, if_neg (by omega), if_neg (by omega)]
  | k + 1, j, V, i, hj => by
    rw [fV_X7_keep_L10]
    (try dsimp only)
    rw [keepL_V k (j + 1) _ i (by omega)]
    by_cases h1 : 723 ≤ i ∧ i < 964
    · rw [if_pos h1, if_pos h1]
    · rw [if_neg h1, if_neg h1]
      by_cases h2 : i = j
      · subst h2
        rw [if_neg (by omega), upd_s, if_pos (by omega)]
      · by_cases h3 : j ≤ i ∧ i < 723
        · rw [if_pos (by omega), if_pos h3, upd_n (by omega)]
        · rw [if_neg (by omega), if_neg h3, upd_n h2]
/-- how many are saved behind it -/
def keN (F : Nat → Int32) : Nat := if sc F = 4 then 4 else sc F + 1
theorem keep_F {P V F : Nat → Int32} (hc : okC F) : (∀ j, j ≠ 3 → fF_X7_keep P V F j = F j) ∧ fF_X7_keep P V F 3 = nI (keN F) := by
  unfold fF_X7_keep keN
  by_cases h1 : sc F = 4
  · rw [if_pos h1, if_pos h1, keepL_F]
    exact ⟨fun j hj => by rw [upd_n hj, upd_n hj], upd_s⟩
  · rw [if_neg h1, if_neg h1]
    exact ⟨fun j hj => upd_n hj, upd_s⟩
theorem keep_C {P V F : Nat → Int32} (hc : okC F) : okC (fF_X7_keep P V F) ∧ sc (fF_X7_keep P V F) = keN F := by
  have h2 := hc.2
  have hk : keN F ≤ 4 := by
    unfold keN
    split <;> omega
  have e := (keep_F (P := P) (V := V) hc).2
  have hs : sc (fF_X7_keep P V F) = keN F := by
    unfold sc
    rw [e]
    exact nI_clamp (by omega)
  exact ⟨⟨by rw [hs]; exact e, by rw [hs]; exact hk⟩, hs⟩
/-- the i-th saved page -/
def svp (V : Nat → Int32) (i : Nat) : Nat → Int32 := fun j => V (241 * i + j)
theorem keep_V {P V F : Nat → Int32} (hc : okC F) {i j : Nat} (hi : i < keN F) (hj : j < 241) : svp (fV_X7_keep P V F) i j = if i + 1 = keN F then P j else if sc F = 4 then svp V (i + 1) j else svp V i j := by
  have h2 := hc.2
  unfold fV_X7_keep svp keN at *
  by_cases h1 : sc F = 4
  · rw [if_pos h1] at hi ⊢
    rw [if_pos h1, if_pos h1, keepL_V 723 0 V _ rfl]
    by_cases h3 : i + 1 = 4
    · rw [if_pos h3, if_pos (by omega)]
      exact congrArg P (by omega)
    · rw [if_neg h3, if_neg (by omega), if_pos (by omega)]
      exact congrArg V (by omega)
  · rw [if_neg h1] at hi ⊢
    rw [if_neg h1, if_neg h1]
    (try dsimp only)
    rw [bring_mv_v]
    by_cases h3 : i = sc F
    · subst h3
      rw [if_pos rfl, if_pos (by omega)]
      exact congrArg P (by omega)
    · rw [if_neg (by omega), if_neg (by omega)]
theorem runText_T {T P V F : Nat → Int32} {x : Int32} (hT : okT F) (hc : okC F) : okT (fF_X7_keep P V (upd (fF_X7_allHours T F) 6 x)) := by
  have h1 := (allHours_K (T := T) hT hc)
  exact okT_c ((keep_F (okC_6 h1.1)).1 5 (by decide)) (okT_c (upd_n (by decide)) h1.2)
