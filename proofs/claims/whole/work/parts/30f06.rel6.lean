/-! at the start -/
theorem r_zero : RV x0_B x0_M := by
  refine ⟨?_, fun _ => x0_key, rfl, ?_⟩
  · refine ⟨⟨⟨⟨0, by omega, rfl⟩, 0, by omega, rfl⟩, Or.inl rfl, Or.inl rfl⟩, Or.inl rfl, ⟨0, by omega, rfl⟩, ⟨by decide, Or.inl rfl⟩, ⟨0, by omega, rfl⟩, fun j _ => ⟨⟨0, by omega, rfl⟩, 0, by omega, rfl⟩, fun j => Or.inl rfl, ⟨⟨0, by omega, rfl⟩, ⟨0, by omega, rfl⟩, 0, by omega, rfl⟩, ?_⟩
    intro i j hi hj
    left
    have h : ∀ n : Nat, n < 20 → mg24 x0_M n = -1 := by decide
    exact h _ (by omega)
  · intro i j hi hj
    have h : ∀ n : Nat, n < 20 → mg24 x0_M n = -1 := by decide
    have h5 : ∀ n : Nat, n < 5 → x0_key n = -1 := by decide
    rw [h _ (by omega)]
    exact h5 j hj
