theorem nI_nm1 {n : Nat} (h : n < 2 ^ 31) : ¬ nI n = -1 := by
  intro e
  have e1 := congrArg Int32.toInt e
  rw [nI_toInt h] at e1
  have e2 : (-1 : Int32).toInt = -1 := rfl
  omega
/-- none there is none here; place j there is number j + 1 here -/
def same (a b : Int32) (n : Nat) : Prop := (a = -1 ∧ b = 0) ∨ ∃ j : Nat, j < n ∧ a = nI j ∧ b = nI (j + 1)
theorem same.up {a b : Int32} {n : Nat} (h : same a b n) : same a b (n + 1) := by
  rcases h with h | ⟨j, hj, h⟩
  · exact Or.inl h
  · exact Or.inr ⟨j, by omega, h⟩
