theorem ns0 : ns P0 = 0 := by decide +kernel
theorem np0 : np P0 = 0 := by decide +kernel
theorem Good0 : Good P0 := by
  refine Good_mk ⟨by rw [ns0]; decide +kernel, by rw [ns0]; omega, by rw [np0]; decide +kernel, by rw [np0]; omega⟩ (fun i hi => absurd hi (by rw [ns0]; omega)) (fun q hq => absurd hq (by rw [np0]; omega)) ⟨0, by omega, by decide +kernel, fun i hi => absurd hi (by rw [ns0]; omega), fun q hq => absurd hq (by rw [np0]; omega), ⟨1000, by omega, by decide +kernel⟩, ⟨10, by omega, by decide +kernel⟩, fun r hr => ?_⟩
  rcases (show r = 0 ∨ r = 1 ∨ r = 2 by omega) with rfl | rfl | rfl <;> decide +kernel
theorem Rel0 : Rel P0 (fun _ => P0) 0 (fun _ => 0) (fun _ => 0) P0 (fun _ => 0) (fun _ => 0) (fun _ => 0) := by
  exact ⟨⟨fun _ _ => rfl, by decide +kernel, Good0⟩, ⟨rfl, by decide⟩, rfl, fun i hi => absurd hi (by omega), ⟨rfl, by decide⟩, ⟨rfl, by decide⟩, rfl, fun _ _ => rfl⟩
