/-! One contract's page written from another's: two graphs apart, and a route copied over. -/
def Two (D : va_G) (b a : Nat) (P O : Nat → Int32) (H : Heap) : Prop := Graph D b P H ∧ Graph D a O H
def apart (b a : Nat) : Prop := a + 33 ≤ b ∨ b + 33 ≤ a
theorem Graph.off {D : va_G} {b a : Nat} {O : Nat → Int32} {H0 H : Heap} {locs : List Loc} (hS : va_S (inG b) H0 H locs) (hd : apart b a) (h : Graph D a O H0) : Graph D a O H :=
  h.kept (fun q hq => hS.2.1 q (h.lt hq) (fun hb => by unfold inG at hq hb; unfold apart at hd; omega))
/-- a plow's route, taken over from another page -/
def cpyP (P O : Nat → Int32) (i j : Nat) : Nat → Int32 := fun x => if 169 + 20 * i + 8 ≤ x ∧ x < 169 + 20 * i + 20 then O (169 + 20 * j + 8 + (x - (169 + 20 * i + 8))) else P x
theorem gL_cR {D : va_G} {b i j : Nat} {P O : Nat → Int32} (hi : i < 3) : (gL D b P).set (25 + 2 * i) (b + 25 + 2 * i, .inl (D.1 100, 12, .inl (va_cpy (rF O (169 + 20 * j)) (rF P (169 + 20 * i)) 0 0 12))) = gL D b (cpyP P O i j) := by
  have hn : ∀ x, ¬ (169 + 20 * i + 8 ≤ x ∧ x < 169 + 20 * i + 20) → cpyP P O i j x = P x := fun x h => if_neg h
  rw [Nat.add_assoc b 25]
  refine gL_set ?_ (fun k hk hne => gE_c ?_ ?_ ?_ ?_ ?_ ?_ ?_ ?_ ?_)
  · rw [gE_r hi]
    congr 4
    funext k
    unfold rF va_cpy
    by_cases h : k < 12
    · rw [if_pos h, if_pos (show 0 ≤ k ∧ k < 0 + 12 by omega), show 0 + (k - 0) = k by omega]
      show _ = (if k < 12 then _ else _)
      rw [if_pos h]
      unfold cpyP
      rw [if_pos (by omega)]
      congr 1
      omega
    · rw [if_neg h, if_neg (show ¬ (0 ≤ k ∧ k < 0 + 12) by omega)]
      show _ = (if k < 12 then _ else _)
      rw [if_neg h]
  all_goals intros
  all_goals exact hn _ (by omega)
section CP
variable {p : Program} {l : Launch} {e : Env} {R : Room} {s : State} {m : MethodId} {args : Array Value} {below : List Frame} {meth : Method} {c : Code} {H : Heap} {locs : List Loc} {cells slots : Nat} {Q : State → Prop}
variable {cc : ByteArray} {pc : Nat} {ls : Array Slot} {rest : List Value} {D : va_G} {A : Nat → Prop} {b a : Nat} {P O : Nat → Int32} {H0 : Heap} {own : String} {idx : Nat}
theorem cpyR {i j nL : Nat} (hx : p.tables.exec = Jvm.exec) (hb : c.code = cc) (hml : c.maxLocals = nL) (hown : s.vm.findClass own = some m.cls) (hts : ∀ w ∈ AW, w.before args s = true) (hls : ls.size = nL) (hq : Cond.methodLink own idx arraycopyName ∈ AW) (hK : Kn D s) (hG : Graph D b P H) (hO : Graph D a O H) (hS : va_S A H0 H locs) (hA : ∀ q, inG b q → A q) (hi : i < 3) (hj : j < 3) (hR : 1 ≤ R.frames) (hRl : (rest.map fun v => v.category).sum + (nativeFrameWords "java/lang/System" "arraycopy" 5 + 11) ≤ R.locals) (hdg : decode cc pc = .ok (.invokestatic idx, 3))
    (kk : ∀ (H1 : Heap) (locs1 : List Loc), Graph D b (cpyP P O i j) H1 → va_S A H0 H1 locs1 → W p l e R s m args below meth c H1 locs1 cells slots Q (F0 m (pc + 3) ls rest)) : W p l e R s m args below meth c H locs cells slots Q (F0 m pc ls (.int 12 :: .int 0 :: .ref (b + 25 + 2 * i) :: .int 0 :: .ref (a + 25 + 2 * j) :: rest)) := by
  intro T hT X
  have g0 : H[a + 25 + 2 * j]? = some (vp_cell (D.1 100) (12, .inl (rF O (169 + 20 * j)))) := hO (25 + 2 * j) _ (gL_r hj)
  have g1 : H[b + 25 + 2 * i]? = some (vp_cell (D.1 100) (12, .inl (rF P (169 + 20 * i)))) := hG (25 + 2 * i) _ (gL_r hi)
  obtain ⟨-, k0, u0, v0, w0⟩ := (hK.2 0 _ rfl).1 12 (fun k => .int (rF O (169 + 20 * j) k))
  obtain ⟨-, k1, u1, v1, w1⟩ := (hK.2 0 _ rfl).1 12 (fun k => .int (rF P (169 + 20 * i) k))
  obtain ⟨vm1, X1, step⟩ := X.arraycopy hx hown (hts _ hq) (hts _ qE_System_arraycopy) (hts _ qT_System_arraycopy) (hts _ qK_System) (cs := vp_cell (D.1 100) (12, .inl (rF O (169 + 20 * j)))) (cd := vp_cell (D.1 100) (12, .inl (rF P (169 + 20 * i)))) (src := a + 25 + 2 * j) (dst := b + 25 + 2 * i) (srcPos := 0) (destPos := 0) (n := 12) (by rw [hT]; exact g0) (by rw [hT]; exact g1)
    (fun _ h => by cases h) (fun _ h => by cases h) (fun h => by cases h) (fun h => by cases h) u0 u1 w0 w1 rfl (by decide) (by decide) (by decide)
    (by show ¬ _ > ((arrV (D.1 100) 12 (fun k => .int (rF O (169 + 20 * j) k))).slots.size : Int); rw [arrV_size]; decide)
    (by show ¬ _ > ((arrV (D.1 100) 12 (fun k => .int (rF P (169 + 20 * i) k))).slots.size : Int); rw [arrV_size]; decide)
    (fun vm2 _ k hk => by
      have hk : k < 12 := hk
      have e : (vp_cell (D.1 100) (12, .inl (rF O (169 + 20 * j)))).slots.getD ((0 : Int32).toNatClampNeg + k) .null = .int (rF O (169 + 20 * j) k) := by
        show (arrV (D.1 100) 12 (fun k => .int (rF O (169 + 20 * j) k))).slots.getD (0 + k) _ = _
        rw [Nat.zero_add, Array.getD_eq_getD_getElem?, arrV_read _ _ hk]
        rfl
      rw [e]
      exact ⟨rfl, trivial⟩)
    (g := F0 m pc ls (.int 12 :: .int 0 :: .ref (b + 25 + 2 * i) :: .int 0 :: .ref (a + 25 + 2 * j) :: rest)) rfl (by rw [hml]; exact hls) (rest := rest) rfl (by rw [hb]; exact hdg) hR (by show 2 * 0 + _ + _ ≤ _; omega)
  have ec : copied (vp_cell (D.1 100) (12, .inl (rF O (169 + 20 * j)))) (vp_cell (D.1 100) (12, .inl (rF P (169 + 20 * i)))) 0 0 12 = vp_cell (D.1 100) (12, .inl (va_cpy (rF O (169 + 20 * j)) (rF P (169 + 20 * i)) 0 0 12)) := va_copied (fun z => .int z) (D.1 100) (D.1 100) (rF O (169 + 20 * j)) (rF P (169 + 20 * i)) (by show (0 : Nat) + 12 ≤ 12; exact Nat.le_refl _)
  rw [ec] at X1 step
  have hl : b + 25 + 2 * i < H.size := (Array.getElem?_eq_some_iff.mp g1).1
  have hin : inG b (b + 25 + 2 * i) := by unfold inG; omega
  have oq : ∀ q : Nat, q ≠ b + 25 + 2 * i → (H.setIfInBounds (b + 25 + 2 * i) (vp_cell (D.1 100) (12, .inl (va_cpy (rF O (169 + 20 * j)) (rF P (169 + 20 * i)) 0 0 12))))[q]? = H[q]? := fun q h => by simp [Array.getElem?_setIfInBounds, Ne.symm h]
  have hv : va_at D vwCl (b + 25 + 2 * i, .inl (D.1 100, 12, .inl (va_cpy (rF O (169 + 20 * j)) (rF P (169 + 20 * i)) 0 0 12))) (H.setIfInBounds (b + 25 + 2 * i) (vp_cell (D.1 100) (12, .inl (va_cpy (rF O (169 + 20 * j)) (rF P (169 + 20 * i)) 0 0 12)))) := by
    show (H.setIfInBounds (b + 25 + 2 * i) (vp_cell (D.1 100) (12, .inl (va_cpy (rF O (169 + 20 * j)) (rF P (169 + 20 * i)) 0 0 12))))[b + 25 + 2 * i]? = some (vp_cell (D.1 100) (12, .inl (va_cpy (rF O (169 + 20 * j)) (rF P (169 + 20 * i)) 0 0 12)))
    simp [Array.getElem?_setIfInBounds, hl]
  have hP1 := va_P.set hG (gL_D hA) (gL_r hi) hv oq
  rw [gL_cR hi] at hP1
  obtain ⟨t, a1, b1⟩ := kk _ _ hP1 ⟨by simp; exact hS.1, fun q h1 h2 => by
      rw [oq q (fun h => h2 (by rw [h]; exact hA _ hin))]
      exact hS.2.1 q h1 h2, fun q h => by
      rcases List.mem_append.mp h with h | h
      · exact hS.2.2 q h
      · obtain ⟨z, -, hz⟩ := List.mem_map.mp h
        rw [← hz]
        exact hA _ hin⟩ _ (by rw [← hT]; rfl) X1
  exact ⟨t, step t a1, b1⟩
end CP
