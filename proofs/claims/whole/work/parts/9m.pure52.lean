/-! The states at the start agree. -/
theorem M0_P0 : M0 = P0 := by
  funext x
  by_cases h : x < 241
  · revert h
    revert x
    decide +kernel
  · unfold M0 P0 fP_X7_layTerms
    simp only [upd]
    simp only [show x ≠ 3 by omega, show x ≠ 4 by omega, show x ≠ 7 by omega, show x ≠ 229 by omega, show x ≠ 230 by omega, show x ≠ 231 by omega, show x ≠ 233 by omega, show x ≠ 234 by omega, show x ≠ 235 by omega, show x ≠ 237 by omega, show x ≠ 238 by omega, show x ≠ 239 by omega, show ¬ x = 229 + 4 * 0 + 0 by omega, show ¬ x = 229 + 4 * 0 + 1 by omega, show ¬ x = 229 + 4 * 0 + 2 by omega, show ¬ x = 229 + 4 * 1 + 0 by omega, show ¬ x = 229 + 4 * 1 + 1 by omega, show ¬ x = 229 + 4 * 1 + 2 by omega, show ¬ x = 229 + 4 * 2 + 0 by omega, show ¬ x = 229 + 4 * 2 + 1 by omega, show ¬ x = 229 + 4 * 2 + 2 by omega, if_false]
theorem ns0 : ns P0 = 0 := by decide +kernel
theorem np0 : np P0 = 0 := by decide +kernel
theorem Good0 : Good P0 := by
  refine Good_mk ⟨by rw [ns0]; decide +kernel, by rw [ns0]; omega, by rw [np0]; decide +kernel, by rw [np0]; omega⟩ (fun i hi => absurd hi (by rw [ns0]; omega)) (fun q hq => absurd hq (by rw [np0]; omega)) ⟨0, by omega, by decide +kernel, fun i hi => absurd hi (by rw [ns0]; omega), fun q hq => absurd hq (by rw [np0]; omega), ⟨1000, by omega, by decide +kernel⟩, ⟨10, by omega, by decide +kernel⟩, fun r hr => ?_⟩
  rcases (show r = 0 ∨ r = 1 ∨ r = 2 by omega) with rfl | rfl | rfl <;> decide +kernel
theorem Rel0 : Rel P0 (fun _ => P0) 0 (fun _ => 0) (fun _ => 0) M0 (fun _ => 0) (fun _ => 0) (fun _ => 0) := by
  rw [M0_P0]
  exact ⟨⟨fun _ _ => rfl, by decide +kernel, Good0⟩, ⟨rfl, by decide⟩, rfl, fun i hi => absurd hi (by omega), ⟨rfl, by decide⟩, ⟨rfl, by decide⟩, rfl, fun _ _ => rfl⟩
