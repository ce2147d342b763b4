/-! what the reference keeps -/
def I1 (v : cM) : Prop := (rg (mg8 v 0) 79 ∧ rg (mg8 v 1) 79) ∧ z01 (mg7 v 0) ∧ z01 (mg7 v 1)
def I2 (v : cM) : Prop := z01 (mg2 v)
def I3 (v : cM) : Prop := rg (mg1 v 4) 3
def I4 (v : cM) : Prop := ¬ mg12 v < 0 ∧ (mg11 v = 0 ∨ mg12 v = 0)
def I5 (v : cM) : Prop := rg (mg14 v) 100
def I6 (v : cM) : Prop := ∀ j : Nat, j < 4 → rg (mg15 v j) 200 ∧ rg (mg16 v j) 200
def I7 (v : cM) : Prop := ∀ j : Nat, z01 (mg10 v j)
def I8 (v : cM) : Prop := rg (mg18 v) 12 ∧ rg (mg22 v) 2 ∧ rg (mg23 v) 2
def I9 (v : cM) : Prop := ∀ i j : Nat, i < 4 → j < 5 → mg24 v (5 * i + j) = -1 ∨ rg (mg24 v (5 * i + j)) (if j = 4 then 100 else 200)
def Inv (v : cM) : Prop := I1 v ∧ I2 v ∧ I3 v ∧ I4 v ∧ I5 v ∧ I6 v ∧ I7 v ∧ I8 v ∧ I9 v
def KK (k : Nat → Nat → Int32) (v : cM) : Prop := ∀ i j : Nat, i < 4 → j < 5 → k i j = mg24 v (5 * i + j)
def RV (u : cB) (v : cM) : Prop := Inv v ∧ ∃ k : Nat → Nat → Int32, u = ph v k (mg6 v) ∧ KK k v
theorem RV.iv {u : cB} {v : cM} (h : RV u v) : Iv u := by
  obtain ⟨⟨-, -, -, -, -, -, h7, ⟨⟨n, hn, he⟩, -⟩, -⟩, k, rfl, -⟩ := h
  refine ⟨fun j => h7 j, ?_⟩
  show (mg18 v).toNatClampNeg ≤ 12 ∧ mg18 v = nI (mg18 v).toNatClampNeg
  rw [he, nI_clamp (by omega)]
  exact ⟨hn, rfl⟩
theorem RV.im {u : cB} {v : cM} (h : RV u v) : IM v := by
  obtain ⟨⟨-, -, -, -, -, -, h7, ⟨⟨n, hn, he⟩, -⟩, -⟩, k, rfl, -⟩ := h
  show (mg18 v).toNatClampNeg ≤ 12 ∧ mg18 v = nI (mg18 v).toNatClampNeg
  rw [he, nI_clamp (by omega)]
  exact ⟨hn, rfl⟩
/-! the outputs laid by, and counted -/
