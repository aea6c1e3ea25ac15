/-! What codes a method may throw with; the law's array for answers. -/
theorem cA_v {x a b : Int32} : fE_X6_checkArgument x a b = 0 ∨ fE_X6_checkArgument x a b = 1 := by
  unfold fE_X6_checkArgument
  repeat' split
  all_goals simp
theorem cI_v {x a : Int32} : fE_X6_checkIndex x a = 0 ∨ fE_X6_checkIndex x a = 3 := by
  unfold fE_X6_checkIndex
  repeat' split
  all_goals simp
theorem cW_v {x a : Int32} : fE_X6_checkWeather x a = 0 ∨ fE_X6_checkWeather x a = 1 := by
  unfold fE_X6_checkWeather
  repeat' split
  all_goals first | exact Or.inl rfl | exact cA_v
theorem cS_v {C : Nat → Int32} {x : Int32} : fE_X6_checkStreet C x = 0 ∨ fE_X6_checkStreet C x = 3 := by
  unfold fE_X6_checkStreet
  repeat' split
  all_goals first | exact Or.inl rfl | exact cI_v
theorem cP_v {C : Nat → Int32} {x : Int32} : fE_X6_checkPlow C x = 0 ∨ fE_X6_checkPlow C x = 3 := by
  unfold fE_X6_checkPlow
  repeat' split
  all_goals first | exact Or.inl rfl | exact cI_v
theorem cH_v {C : Nat → Int32} {x : Int32} : fE_X6_checkHoursToCome C x = 0 ∨ fE_X6_checkHoursToCome C x = 2 := by
  unfold fE_X6_checkHoursToCome
  repeat' split
  all_goals simp
theorem eL_best {C : Nat → Int32} {pl tmp sn hrs : Int32} : ∀ (k : Nat) (a b : Int32) (j : Nat) (J : Nat → Int32), fE_X6_bestExchange_L59 C pl tmp sn hrs k a b j J = 0
  | 0, a, b, j, J => by rw [fE_X6_bestExchange_L59]
  | k + 1, a, b, j, J => by
    rw [fE_X6_bestExchange_L59]
    (try dsimp only)
    repeat' split
    all_goals first | rfl | exact eL_best k _ _ _ _
theorem eL_least {C : Nat → Int32} {pl tmp sn hrs : Int32} : ∀ (k j : Nat) (J : Nat → Int32), fE_X6_leastSpeed_L22 C pl tmp sn hrs k j J = 0
  | 0, j, J => by rw [fE_X6_leastSpeed_L22]
  | k + 1, j, J => by
    rw [fE_X6_leastSpeed_L22]
    (try dsimp only)
    repeat' split
    all_goals first | rfl | exact eL_least k _ _
theorem eL_empty {C : Nat → Int32} {tmp sn : Int32} : ∀ (k j : Nat) (J : Nat → Int32), fE_X6_emptyIn_L18 C tmp sn k j J = 0
  | 0, j, J => by
    rw [fE_X6_emptyIn_L18]
    repeat' split
    all_goals rfl
  | k + 1, j, J => by
    rw [fE_X6_emptyIn_L18]
    (try dsimp only)
    repeat' split
    all_goals first | rfl | exact eL_empty k _ _
theorem eL_run {Y : Nat → Int32} : ∀ (k : Nat) (v0 : Int32) (v1 : Nat) (v2 : Nat → Int32) (v3 : Nat → Nat → Int32) (v4 : Nat) (v5 v6 v7 v8 : Nat → Int32), fE_X6_runText_L44 Y k v0 v1 v2 v3 v4 v5 v6 v7 v8 = 0
  | 0, v0, v1, v2, v3, v4, v5, v6, v7, v8 => by rw [fE_X6_runText_L44]
  | k + 1, v0, v1, v2, v3, v4, v5, v6, v7, v8 => by
    rw [fE_X6_runText_L44]
    (try dsimp only)
    exact eL_run k _ _ _ _ _ _ _ _ _
def pc2 (c1 c2 v : Nat) : Prop := v = 0 ∨ v = c1 ∨ v = c2
theorem pc_if {c1 c2 : Nat} {p : Prop} [Decidable p] {a b : Nat} (h1 : pc2 c1 c2 a) (h2 : pc2 c1 c2 b) : pc2 c1 c2 (if p then a else b) := by
  by_cases h : p
  · rw [if_pos h]; exact h1
  · rw [if_neg h]; exact h2
theorem pc_0 {c1 c2 : Nat} : pc2 c1 c2 0 := Or.inl rfl
theorem pc_z {c1 c2 v : Nat} (h : v = 0) : pc2 c1 c2 v := Or.inl h
theorem pc_a {c1 c2 v : Nat} (h : v = 0 ∨ v = c1) : pc2 c1 c2 v := h.elim Or.inl (fun h => Or.inr (Or.inl h))
theorem pc_b {c1 c2 v : Nat} (h : v = 0 ∨ v = c2) : pc2 c1 c2 v := h.elim Or.inl (fun h => Or.inr (Or.inr h))
theorem ec_addStreet {C : Nat → Int32} {G : Nat → Nat → Int32} {n : Nat} {len : Int32} {pri : Int32} : pc2 1 2 (fE_X6_addStreet C G n len pri) := by
  unfold fE_X6_addStreet
  (try dsimp only)
  repeat (first | (with_reducible refine pc_if ?_ ?_) | (with_reducible exact pc_0) | (with_reducible exact (pc_a (Or.inr rfl))) | (with_reducible exact (pc_b (Or.inr rfl))) | (with_reducible exact (pc_a cA_v)) | (with_reducible exact (pc_a cW_v)) | (with_reducible exact (pc_b cH_v)) | (with_reducible exact (pc_z (eL_best _ _ _ _ _))) | (with_reducible exact (pc_z (eL_least _ _ _))) | (with_reducible exact (pc_z (eL_empty _ _ _))) | (with_reducible exact (pc_z (eL_run _ _ _ _ _ _ _ _ _ _))))
theorem ec_addPlow {C : Nat → Int32} {G : Nat → Nat → Int32} {n : Nat} {spd : Int32} {cap : Int32} : pc2 1 2 (fE_X6_addPlow C G n spd cap) := by
  unfold fE_X6_addPlow
  (try dsimp only)
  repeat (first | (with_reducible refine pc_if ?_ ?_) | (with_reducible exact pc_0) | (with_reducible exact (pc_a (Or.inr rfl))) | (with_reducible exact (pc_b (Or.inr rfl))) | (with_reducible exact (pc_a cA_v)) | (with_reducible exact (pc_a cW_v)) | (with_reducible exact (pc_b cH_v)) | (with_reducible exact (pc_z (eL_best _ _ _ _ _))) | (with_reducible exact (pc_z (eL_least _ _ _))) | (with_reducible exact (pc_z (eL_empty _ _ _))) | (with_reducible exact (pc_z (eL_run _ _ _ _ _ _ _ _ _ _))))
theorem ec_addStop {C : Nat → Int32} {G : Nat → Nat → Int32} {n : Nat} {pl : Int32} {str : Int32} : pc2 3 2 (fE_X6_addStop C G n pl str) := by
  unfold fE_X6_addStop
  (try dsimp only)
  repeat (first | (with_reducible refine pc_if ?_ ?_) | (with_reducible exact pc_0) | (with_reducible exact (pc_a (Or.inr rfl))) | (with_reducible exact (pc_b (Or.inr rfl))) | (with_reducible exact (pc_a cI_v)) | (with_reducible exact (pc_a cS_v)) | (with_reducible exact (pc_a cP_v)) | (with_reducible exact (pc_b cH_v)) | (with_reducible exact (pc_z (eL_best _ _ _ _ _))) | (with_reducible exact (pc_z (eL_least _ _ _))) | (with_reducible exact (pc_z (eL_empty _ _ _))) | (with_reducible exact (pc_z (eL_run _ _ _ _ _ _ _ _ _ _))))
theorem ec_clearRoute {C : Nat → Int32} {G : Nat → Nat → Int32} {n : Nat} {pl : Int32} : pc2 3 3 (fE_X6_clearRoute C G n pl) := by
  unfold fE_X6_clearRoute
  (try dsimp only)
  repeat (first | (with_reducible refine pc_if ?_ ?_) | (with_reducible exact pc_0) | (with_reducible exact (pc_a (Or.inr rfl))) | (with_reducible exact (pc_b (Or.inr rfl))) | (with_reducible exact (pc_a cI_v)) | (with_reducible exact (pc_a cS_v)) | (with_reducible exact (pc_a cP_v)) | (with_reducible exact (pc_z (eL_best _ _ _ _ _))) | (with_reducible exact (pc_z (eL_least _ _ _))) | (with_reducible exact (pc_z (eL_empty _ _ _))) | (with_reducible exact (pc_z (eL_run _ _ _ _ _ _ _ _ _ _))))
theorem ec_exchange {C : Nat → Int32} {G : Nat → Nat → Int32} {n : Nat} {pl : Int32} {x : Int32} : pc2 3 2 (fE_X6_exchange C G n pl x) := by
  unfold fE_X6_exchange
  (try dsimp only)
  repeat (first | (with_reducible refine pc_if ?_ ?_) | (with_reducible exact pc_0) | (with_reducible exact (pc_a (Or.inr rfl))) | (with_reducible exact (pc_b (Or.inr rfl))) | (with_reducible exact (pc_a cI_v)) | (with_reducible exact (pc_a cS_v)) | (with_reducible exact (pc_a cP_v)) | (with_reducible exact (pc_b cH_v)) | (with_reducible exact (pc_z (eL_best _ _ _ _ _))) | (with_reducible exact (pc_z (eL_least _ _ _))) | (with_reducible exact (pc_z (eL_empty _ _ _))) | (with_reducible exact (pc_z (eL_run _ _ _ _ _ _ _ _ _ _))))
theorem ec_setTerms {C : Nat → Int32} {G : Nat → Nat → Int32} {n : Nat} {pri : Int32} {tr : Int32} {li : Int32} {cr : Int32} : pc2 3 1 (fE_X6_setTerms C G n pri tr li cr) := by
  unfold fE_X6_setTerms
  (try dsimp only)
  repeat (first | (with_reducible refine pc_if ?_ ?_) | (with_reducible exact pc_0) | (with_reducible exact (pc_a (Or.inr rfl))) | (with_reducible exact (pc_b (Or.inr rfl))) | (with_reducible exact (pc_b cA_v)) | (with_reducible exact (pc_a cI_v)) | (with_reducible exact (pc_b cW_v)) | (with_reducible exact (pc_a cS_v)) | (with_reducible exact (pc_a cP_v)) | (with_reducible exact (pc_z (eL_best _ _ _ _ _))) | (with_reducible exact (pc_z (eL_least _ _ _))) | (with_reducible exact (pc_z (eL_empty _ _ _))) | (with_reducible exact (pc_z (eL_run _ _ _ _ _ _ _ _ _ _))))
theorem ec_setSpread {C : Nat → Int32} {G : Nat → Nat → Int32} {n : Nat} {sp : Int32} : pc2 1 1 (fE_X6_setSpread C G n sp) := by
  unfold fE_X6_setSpread
  (try dsimp only)
  repeat (first | (with_reducible refine pc_if ?_ ?_) | (with_reducible exact pc_0) | (with_reducible exact (pc_a (Or.inr rfl))) | (with_reducible exact (pc_b (Or.inr rfl))) | (with_reducible exact (pc_a cA_v)) | (with_reducible exact (pc_a cW_v)) | (with_reducible exact (pc_z (eL_best _ _ _ _ _))) | (with_reducible exact (pc_z (eL_least _ _ _))) | (with_reducible exact (pc_z (eL_empty _ _ _))) | (with_reducible exact (pc_z (eL_run _ _ _ _ _ _ _ _ _ _))))
theorem ec_deliver {C : Nat → Int32} {G : Nat → Nat → Int32} {n : Nat} {kg : Int32} : pc2 1 2 (fE_X6_deliver C G n kg) := by
  unfold fE_X6_deliver
  (try dsimp only)
  repeat (first | (with_reducible refine pc_if ?_ ?_) | (with_reducible exact pc_0) | (with_reducible exact (pc_a (Or.inr rfl))) | (with_reducible exact (pc_b (Or.inr rfl))) | (with_reducible exact (pc_a cA_v)) | (with_reducible exact (pc_a cW_v)) | (with_reducible exact (pc_b cH_v)) | (with_reducible exact (pc_z (eL_best _ _ _ _ _))) | (with_reducible exact (pc_z (eL_least _ _ _))) | (with_reducible exact (pc_z (eL_empty _ _ _))) | (with_reducible exact (pc_z (eL_run _ _ _ _ _ _ _ _ _ _))))
theorem ec_run {C : Nat → Int32} {G : Nat → Nat → Int32} {n : Nat} {tmp : Int32} {sn : Int32} {hrs : Int32} : pc2 1 2 (fE_X6_run C G n tmp sn hrs) := by
  unfold fE_X6_run
  (try dsimp only)
  repeat (first | (with_reducible refine pc_if ?_ ?_) | (with_reducible exact pc_0) | (with_reducible exact (pc_a (Or.inr rfl))) | (with_reducible exact (pc_b (Or.inr rfl))) | (with_reducible exact (pc_a cA_v)) | (with_reducible exact (pc_a cW_v)) | (with_reducible exact (pc_b cH_v)) | (with_reducible exact (pc_z (eL_best _ _ _ _ _))) | (with_reducible exact (pc_z (eL_least _ _ _))) | (with_reducible exact (pc_z (eL_empty _ _ _))) | (with_reducible exact (pc_z (eL_run _ _ _ _ _ _ _ _ _ _))))
theorem ec_value {C : Nat → Int32} {x : Int32} : pc2 1 1 (fE_X6_value C x) := by
  unfold fE_X6_value
  (try dsimp only)
  repeat (first | (with_reducible refine pc_if ?_ ?_) | (with_reducible exact pc_0) | (with_reducible exact (pc_a (Or.inr rfl))) | (with_reducible exact (pc_b (Or.inr rfl))) | (with_reducible exact (pc_a cA_v)) | (with_reducible exact (pc_a cW_v)) | (with_reducible exact (pc_z (eL_best _ _ _ _ _))) | (with_reducible exact (pc_z (eL_least _ _ _))) | (with_reducible exact (pc_z (eL_empty _ _ _))) | (with_reducible exact (pc_z (eL_run _ _ _ _ _ _ _ _ _ _))))
theorem ec_street {C : Nat → Int32} {x : Int32} {y : Int32} : pc2 3 1 (fE_X6_street C x y) := by
  unfold fE_X6_street
  (try dsimp only)
  repeat (first | (with_reducible refine pc_if ?_ ?_) | (with_reducible exact pc_0) | (with_reducible exact (pc_a (Or.inr rfl))) | (with_reducible exact (pc_b (Or.inr rfl))) | (with_reducible exact (pc_b cA_v)) | (with_reducible exact (pc_a cI_v)) | (with_reducible exact (pc_b cW_v)) | (with_reducible exact (pc_a cS_v)) | (with_reducible exact (pc_a cP_v)) | (with_reducible exact (pc_z (eL_best _ _ _ _ _))) | (with_reducible exact (pc_z (eL_least _ _ _))) | (with_reducible exact (pc_z (eL_empty _ _ _))) | (with_reducible exact (pc_z (eL_run _ _ _ _ _ _ _ _ _ _))))
theorem ec_plow {C : Nat → Int32} {pl : Int32} {y : Int32} : pc2 3 1 (fE_X6_plow C pl y) := by
  unfold fE_X6_plow
  (try dsimp only)
  repeat (first | (with_reducible refine pc_if ?_ ?_) | (with_reducible exact pc_0) | (with_reducible exact (pc_a (Or.inr rfl))) | (with_reducible exact (pc_b (Or.inr rfl))) | (with_reducible exact (pc_b cA_v)) | (with_reducible exact (pc_a cI_v)) | (with_reducible exact (pc_b cW_v)) | (with_reducible exact (pc_a cS_v)) | (with_reducible exact (pc_a cP_v)) | (with_reducible exact (pc_z (eL_best _ _ _ _ _))) | (with_reducible exact (pc_z (eL_least _ _ _))) | (with_reducible exact (pc_z (eL_empty _ _ _))) | (with_reducible exact (pc_z (eL_run _ _ _ _ _ _ _ _ _ _))))
theorem ec_stop {C : Nat → Int32} {pl : Int32} {y : Int32} : pc2 3 3 (fE_X6_stop C pl y) := by
  unfold fE_X6_stop
  (try dsimp only)
  repeat (first | (with_reducible refine pc_if ?_ ?_) | (with_reducible exact pc_0) | (with_reducible exact (pc_a (Or.inr rfl))) | (with_reducible exact (pc_b (Or.inr rfl))) | (with_reducible exact (pc_a cI_v)) | (with_reducible exact (pc_a cS_v)) | (with_reducible exact (pc_a cP_v)) | (with_reducible exact (pc_z (eL_best _ _ _ _ _))) | (with_reducible exact (pc_z (eL_least _ _ _))) | (with_reducible exact (pc_z (eL_empty _ _ _))) | (with_reducible exact (pc_z (eL_run _ _ _ _ _ _ _ _ _ _))))
theorem ec_terms {C : Nat → Int32} {x : Int32} {y : Int32} : pc2 3 1 (fE_X6_terms C x y) := by
  unfold fE_X6_terms
  (try dsimp only)
  repeat (first | (with_reducible refine pc_if ?_ ?_) | (with_reducible exact pc_0) | (with_reducible exact (pc_a (Or.inr rfl))) | (with_reducible exact (pc_b (Or.inr rfl))) | (with_reducible exact (pc_b cA_v)) | (with_reducible exact (pc_a cI_v)) | (with_reducible exact (pc_b cW_v)) | (with_reducible exact (pc_a cS_v)) | (with_reducible exact (pc_a cP_v)) | (with_reducible exact (pc_z (eL_best _ _ _ _ _))) | (with_reducible exact (pc_z (eL_least _ _ _))) | (with_reducible exact (pc_z (eL_empty _ _ _))) | (with_reducible exact (pc_z (eL_run _ _ _ _ _ _ _ _ _ _))))
theorem ec_creditsIn {C : Nat → Int32} {J : Nat → Int32} {tmp : Int32} {sn : Int32} {hrs : Int32} : pc2 1 1 (fE_X6_creditsIn C J tmp sn hrs) := by
  unfold fE_X6_creditsIn
  (try dsimp only)
  repeat (first | (with_reducible refine pc_if ?_ ?_) | (with_reducible exact pc_0) | (with_reducible exact (pc_a (Or.inr rfl))) | (with_reducible exact (pc_b (Or.inr rfl))) | (with_reducible exact (pc_a cA_v)) | (with_reducible exact (pc_a cW_v)) | (with_reducible exact (pc_z (eL_best _ _ _ _ _))) | (with_reducible exact (pc_z (eL_least _ _ _))) | (with_reducible exact (pc_z (eL_empty _ _ _))) | (with_reducible exact (pc_z (eL_run _ _ _ _ _ _ _ _ _ _))))
theorem ec_bestExchange {C : Nat → Int32} {J : Nat → Int32} {pl : Int32} {tmp : Int32} {sn : Int32} {hrs : Int32} : pc2 3 1 (fE_X6_bestExchange C J pl tmp sn hrs) := by
  unfold fE_X6_bestExchange
  (try dsimp only)
  repeat (first | (with_reducible refine pc_if ?_ ?_) | (with_reducible exact pc_0) | (with_reducible exact (pc_a (Or.inr rfl))) | (with_reducible exact (pc_b (Or.inr rfl))) | (with_reducible exact (pc_b cA_v)) | (with_reducible exact (pc_a cI_v)) | (with_reducible exact (pc_b cW_v)) | (with_reducible exact (pc_a cS_v)) | (with_reducible exact (pc_a cP_v)) | (with_reducible exact (pc_z (eL_best _ _ _ _ _))) | (with_reducible exact (pc_z (eL_least _ _ _))) | (with_reducible exact (pc_z (eL_empty _ _ _))) | (with_reducible exact (pc_z (eL_run _ _ _ _ _ _ _ _ _ _))))
theorem ec_leastSpeed {C : Nat → Int32} {J : Nat → Int32} {pl : Int32} {tmp : Int32} {sn : Int32} {hrs : Int32} : pc2 3 1 (fE_X6_leastSpeed C J pl tmp sn hrs) := by
  unfold fE_X6_leastSpeed
  (try dsimp only)
  repeat (first | (with_reducible refine pc_if ?_ ?_) | (with_reducible exact pc_0) | (with_reducible exact (pc_a (Or.inr rfl))) | (with_reducible exact (pc_b (Or.inr rfl))) | (with_reducible exact (pc_b cA_v)) | (with_reducible exact (pc_a cI_v)) | (with_reducible exact (pc_b cW_v)) | (with_reducible exact (pc_a cS_v)) | (with_reducible exact (pc_a cP_v)) | (with_reducible exact (pc_z (eL_best _ _ _ _ _))) | (with_reducible exact (pc_z (eL_least _ _ _))) | (with_reducible exact (pc_z (eL_empty _ _ _))) | (with_reducible exact (pc_z (eL_run _ _ _ _ _ _ _ _ _ _))))
theorem ec_emptyIn {C : Nat → Int32} {J : Nat → Int32} {tmp : Int32} {sn : Int32} : pc2 1 1 (fE_X6_emptyIn C J tmp sn) := by
  unfold fE_X6_emptyIn
  (try dsimp only)
  repeat (first | (with_reducible refine pc_if ?_ ?_) | (with_reducible exact pc_0) | (with_reducible exact (pc_a (Or.inr rfl))) | (with_reducible exact (pc_b (Or.inr rfl))) | (with_reducible exact (pc_a cA_v)) | (with_reducible exact (pc_a cW_v)) | (with_reducible exact (pc_z (eL_best _ _ _ _ _))) | (with_reducible exact (pc_z (eL_least _ _ _))) | (with_reducible exact (pc_z (eL_empty _ _ _))) | (with_reducible exact (pc_z (eL_run _ _ _ _ _ _ _ _ _ _))))
theorem ec_append {Y : Nat → Int32} {F : Nat → Int32} {x : Int32} : pc2 1 2 (fE_X6_append Y F x) := by
  unfold fE_X6_append
  (try dsimp only)
  repeat (first | (with_reducible refine pc_if ?_ ?_) | (with_reducible exact pc_0) | (with_reducible exact (pc_a (Or.inr rfl))) | (with_reducible exact (pc_b (Or.inr rfl))) | (with_reducible exact (pc_a cA_v)) | (with_reducible exact (pc_a cW_v)) | (with_reducible exact (pc_b cH_v)) | (with_reducible exact (pc_z (eL_best _ _ _ _ _))) | (with_reducible exact (pc_z (eL_least _ _ _))) | (with_reducible exact (pc_z (eL_empty _ _ _))) | (with_reducible exact (pc_z (eL_run _ _ _ _ _ _ _ _ _ _))))
theorem ec_runText {C : Nat → Int32} {G : Nat → Nat → Int32} {n : Nat} {Y : Nat → Int32} {X : Nat → Int32} {U : Nat → Int32} {Z : Nat → Int32} {F : Nat → Int32} : pc2 2 2 (fE_X6_runText C G n Y X U Z F) := by
  unfold fE_X6_runText
  (try dsimp only)
  repeat (first | (with_reducible refine pc_if ?_ ?_) | (with_reducible exact pc_0) | (with_reducible exact (pc_a (Or.inr rfl))) | (with_reducible exact (pc_b (Or.inr rfl))) | (with_reducible exact (pc_a cH_v)) | (with_reducible exact (pc_z (eL_best _ _ _ _ _))) | (with_reducible exact (pc_z (eL_least _ _ _))) | (with_reducible exact (pc_z (eL_empty _ _ _))) | (with_reducible exact (pc_z (eL_run _ _ _ _ _ _ _ _ _ _))))
theorem ec_undo {C : Nat → Int32} {G : Nat → Nat → Int32} {n : Nat} : pc2 2 2 (fE_X6_undo C G n) := by
  unfold fE_X6_undo
  (try dsimp only)
  repeat (first | (with_reducible refine pc_if ?_ ?_) | (with_reducible exact pc_0) | (with_reducible exact (pc_a (Or.inr rfl))) | (with_reducible exact (pc_b (Or.inr rfl))) | (with_reducible exact (pc_a cH_v)) | (with_reducible exact (pc_z (eL_best _ _ _ _ _))) | (with_reducible exact (pc_z (eL_least _ _ _))) | (with_reducible exact (pc_z (eL_empty _ _ _))) | (with_reducible exact (pc_z (eL_run _ _ _ _ _ _ _ _ _ _))))
/-- the answer of a helper: 0, or which exception of its list -/
def kq (c1 code : Nat) : Int32 := if code = 0 then 0 else if code = c1 then 1 else 2
abbrev wH (y : MethodName) (b : ByteArray) (n : Nat) (r : Option FieldType) (hh : List (Nat × Nat × Nat × Nat)) : List Cond := Cond.codeWith y b n r hh :: AW
theorem gHS {own : String} {idx : Nat} {y : MethodName} {b : ByteArray} {n : Nat} {r : Option FieldType} {hh : List (Nat × Nat × Nat × Nat)} (h1 : Cond.methodLink own idx y ∈ AW) (h2 : Cond.static y ∈ AW) (h4 : Cond.initialized y.cls ∈ AW) (h5 : Cond.codeWith y b n r hh ∈ AW) : GoodIn AW (va_wsS own idx y (wH y b n r hh)) := by
  intro w h
  rcases List.mem_append.mp h with h | h
  · simp only [List.mem_cons, List.not_mem_nil, or_false] at h
    rcases h with rfl | rfl | rfl
    · exact ⟨h1, good_of_word (AW_good h1)⟩
    · exact ⟨h2, good_of_word (AW_good h2)⟩
    · exact ⟨h4, good_of_word (AW_good h4)⟩
  · exact (List.mem_cons.mp h).elim (fun e => by rw [e]; exact ⟨h5, good_of_word (AW_good h5)⟩) (fun h => ⟨h, good_of_word (AW_good h)⟩)
theorem ex_cast (k : Nat) (hk : 1 ≤ k ∧ k ≤ 3) : Cond.castable (exN k) (exN k) ∈ exB := by
  rcases (show k = 1 ∨ k = 2 ∨ k = 3 by omega) with rfl | rfl | rfl
  · exact of_decide_eq_true (by decide +kernel)
  · exact of_decide_eq_true (by decide +kernel)
  · exact of_decide_eq_true (by decide +kernel)
