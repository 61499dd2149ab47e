/-! THE END: the start of both, all pairs, the claim. -/
theorem qR_0 : qR qL_h0 := by
  refine ⟨⟨⟨⟨0, by omega, rfl, rfl⟩, rfl, rfl, fun j _ => ⟨rfl, rfl⟩⟩, fun _ => 0, fun j _ => ⟨Nat.zero_le 2, rfl, rfl⟩, fun i hi => absurd hi (Nat.not_lt_zero i), fun i hi => absurd hi (Nat.not_lt_zero i), fun i hi => absurd hi (Nat.not_lt_zero i), fun i hi => absurd hi (Nat.not_lt_zero i), fun i hi => ?_⟩, fun k _ => Or.inl ⟨rfl, rfl⟩, fun c _ => ⟨rfl, rfl⟩, fun c _ => ⟨rfl, rfl⟩, fun c _ => ⟨rfl, rfl⟩⟩
  rcases (show i = 0 ∨ i = 1 by omega) with rfl | rfl
  · rfl
  · rfl
