/-! Doubles: an answer that is one, and a quotient that is no NaN. -/
def gQd (A : Nat → Prop) (r : UInt64) (Pic : Heap → Prop) : Array Value → State → Outcome → State → Prop := va_Qd (fun (x : UInt64) (_ : Unit) => x = r) (fun _ t => Pic t.heap) A
theorem gQd_of {A : Nat → Prop} {r x : UInt64} {Pic : Heap → Prop} {a : Array Value} {s t : State} {H : Heap} {locs : List Loc} (e : x = r) (hP : Pic H) (hS : va_S A s.heap H locs) (ht : t.heap = H) : gQd A r Pic a s (.returned (some (.double x))) t := ⟨⟨x, (), rfl, e, by show Pic t.heap; rw [ht]; exact hP⟩, hS.F ht⟩
theorem n64_of {r : UInt64} (h : FP.Core.dIsNaN r = false) : vf_n64 r := by
  unfold vf_n64
  rw [UInt64.le_iff_toNat_le, UInt64.toNat_and]
  have h1 : ¬ 9218868437227405312 < r.toNat % 2 ^ 63 := fun h2 => by
    rw [(FP.Core.isNaN_bits r).mpr h2] at h
    cases h
  have h2 : r.toNat &&& (0x7fffffffffffffff : UInt64).toNat = r.toNat % 2 ^ 63 := Nat.and_two_pow_sub_one_eq_mod r.toNat 63
  rw [h2]
  exact Nat.le_of_not_lt h1
theorem dd_n {a b : Int64} (h : ¬ lg_cmp b 0 = 0) : vf_n64 (FP.ddiv (FP.l2d a) (FP.l2d b)) := by
  have hb : b ≠ 0 := fun e => h ((lg_cmp_eq b 0).mpr e)
  refine n64_of (FP.Core.ddiv_out ?_ (FP.Core.l2d_fin b) ?_)
  · rw [FP.Core.notNaN_iff]
    exact (FP.Core.l2d_fin a).ne_nan
  · intro hz
    have h1 := FP.Core.l2d_ne_zero hb
    obtain ⟨s, q, h2⟩ := hz
    exact h1 ((FP.Core.zero_bits2 _).mp ⟨s, q, h2⟩)
