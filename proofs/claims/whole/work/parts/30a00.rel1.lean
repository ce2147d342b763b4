/-! REL: the class's state as a picture of the reference's, but for the keys' rows k and the ticks t -/
def ph (v : cM) (k : Nat → Nat → Int32) (t : Int32) : cB :=
  (mg1 v, mg25 v, mg10 v, fun j => (mg7 v j, mg8 v j, mg9 v j), (mg11 v, mg12 v, mg13 v), fun j => (mg15 v j, mg16 v j, mg17 v j), (fun j => mg19 v (j + 1), fun j => mg20 v (j + 1), fun j => mg21 v (j + 1), mg18 v, mg22 v, mg23 v), k, mg5 v, mg14 v, t, mg2 v, mg3 v, mg4 v)
def rg (x : Int32) (n : Nat) : Prop := ∃ j : Nat, j ≤ n ∧ x = nI j
def z01 (x : Int32) : Prop := x = 0 ∨ x = 1
theorem rg_nI {j n : Nat} (h : j ≤ n) : rg (nI j) n := ⟨j, h, rfl⟩
theorem rg_i {x : Int32} {n : Nat} (hn : n < 2 ^ 31) (h : rg x n) : 0 ≤ x.toInt ∧ x.toInt ≤ (n : Int) := by
  obtain ⟨j, hj, rfl⟩ := h
  rw [nI_toInt (by omega)]
  omega
theorem rg_of {x : Int32} {n : Nat} (h0 : 0 ≤ x.toInt) (h1 : x.toInt ≤ (n : Int)) : rg x n := by
  obtain ⟨j, hj, rfl⟩ := nI_of (x := x) (by rw [Int32.lt_iff_toInt_lt]; show ¬ x.toInt < 0; omega)
  rw [nI_toInt hj] at h1
  exact ⟨j, by omega, rfl⟩
theorem upd_id (f : Nat → Int32) (i : Nat) : upd f i (f i) = f := by
  funext j
  unfold upd
  split
  · next h => rw [h]
  · rfl
theorem upd_uu (f : Nat → Int32) (i : Nat) (x y : Int32) : upd (upd f i x) i y = upd f i y := by
  funext j
  unfold upd
  split <;> rfl
theorem upd_at (f : Nat → Int32) (i : Nat) (x : Int32) : upd f i x i = x := if_pos rfl
theorem upd_ne (f : Nat → Int32) {i j : Nat} (x : Int32) (h : ¬ j = i) : upd f i x j = f j := if_neg h
theorem up3 (f g h : Nat → Int32) (i : Nat) (a b c : Int32) : va_up (fun j => (f j, g j, h j)) i (a, b, c) = fun j => (upd f i a j, upd g i b j, upd h i c j) := by
  funext j
  unfold va_up upd
  split <;> rfl
theorem w3 (v : cM) (k : Nat → Nat → Int32) (t : Int32) (i : Nat) (a b c : Int32) : s3 (ph v k t) (va_up (b3 (ph v k t)) i (a, b, c)) = ph (ms9 (ms8 (ms7 v (upd (mg7 v) i a)) (upd (mg8 v) i b)) (upd (mg9 v) i c)) k t := by
  rw [show va_up (b3 (ph v k t)) i (a, b, c) = fun j => (upd (mg7 v) i a j, upd (mg8 v) i b j, upd (mg9 v) i c j) from up3 (mg7 v) (mg8 v) (mg9 v) i a b c]
  rfl
theorem w5 (v : cM) (k : Nat → Nat → Int32) (t : Int32) (i : Nat) (a b c : Int32) : s5 (ph v k t) (va_up (b5 (ph v k t)) i (a, b, c)) = ph (ms17 (ms16 (ms15 v (upd (mg15 v) i a)) (upd (mg16 v) i b)) (upd (mg17 v) i c)) k t := by
  rw [show va_up (b5 (ph v k t)) i (a, b, c) = fun j => (upd (mg15 v) i a j, upd (mg16 v) i b j, upd (mg17 v) i c j) from up3 (mg15 v) (mg16 v) (mg17 v) i a b c]
  rfl
theorem ab_up (p M : Int32) : m_B_isUpTo p M = m_M_within p 0 M := rfl
theorem ab_be {p : Int32} (n : Nat) (hn : n + 1 < 2 ^ 31) : m_B_isBelow p (nI (n + 1)) = m_M_within p 0 (nI n) := by
  unfold m_B_isBelow m_M_within
  by_cases h : p < 0
  · rw [if_pos h, if_pos h]
  · rw [if_neg h, if_neg h]
    obtain ⟨j, hj, rfl⟩ := nI_of h
    by_cases h2 : n + 1 ≤ j
    · rw [if_pos (nI_le h2 hj), if_pos (nI_lt (by omega) hj)]
    · rw [if_neg (by rw [nI_leI (by omega) hj]; exact h2), if_neg (by rw [nI_ltI (by omega) hj]; omega)]
theorem q_isWanted (p : Int32) (v : cM) (k : Nat → Nat → Int32) (t : Int32) : m_B_isWanted p (ph v k t) = m_M_isWanted p v := by
  have e1 : m_B_isWanted p (ph v k t) = if mg3 v = 0 then (if mg1 v 3 = 1 then 1 else (if mg1 v 2 = p + 1 then 1 else 0)) else 1 := rfl
  have e2 : m_M_isWanted p v = if mg1 v 3 = 1 then 1 else (if mg3 v = 0 then (if mg1 v 2 = p + 1 then 1 else 0) else 1) := rfl
  rw [e1, e2]
  by_cases h1 : mg3 v = 0 <;> by_cases h2 : mg1 v 3 = 1 <;> simp [h1, h2]
theorem q_half {P a : Nat} (hP : P = 80 ∨ P = 40) (ha : a ≤ 79) : (nI P / 2 ≤ nI a) ↔ (nI P ≤ 2 * nI a) := by
  have e2 : (2 : Int32) * nI a = nI (2 * a) := by rw [show (2 : Int32) = nI 2 from rfl, pk_mul]
  have e1 : nI P / 2 = nI (P / 2) := by rw [show (2 : Int32) = nI 2 from rfl, pk_div (by omega) (by decide) (by decide)]
  rw [e1, e2, nI_leI (by omega) (by omega), nI_leI (by omega) (by omega)]
  omega
theorem q_per (p : Int32) (v : cM) : ∃ P : Nat, (P = 80 ∨ P = 40) ∧ m_M_period p v = nI P := by
  unfold m_M_period
  split
  · exact ⟨80, Or.inl rfl, rfl⟩
  · exact ⟨40, Or.inr rfl, rfl⟩
theorem q_lit (p : Int32) (v : cM) (k : Nat → Nat → Int32) (t : Int32) (ha : rg (mg8 v p.toNatClampNeg) 79) : m_B_isSideLit p (ph v k t) = m_M_lit p v := by
  have e1 : m_B_isSideLit p (ph v k t) = if mg7 v p.toNatClampNeg = 0 then 0 else (if m_M_period p v / 2 ≤ mg8 v p.toNatClampNeg then 0 else 1) := rfl
  have e2 : m_M_lit p v = if mg7 v p.toNatClampNeg = 0 then 0 else (if m_M_period p v ≤ 2 * mg8 v p.toNatClampNeg then 0 else 1) := rfl
  obtain ⟨a, ha, hae⟩ := ha
  obtain ⟨P, hP, hPe⟩ := q_per p v
  rw [e1, e2, hae, hPe]
  by_cases h : mg7 v p.toNatClampNeg = 0
  · rw [if_pos h, if_pos h]
  · rw [if_neg h, if_neg h]
    by_cases h2 : nI P / 2 ≤ nI a
    · rw [if_pos h2, if_pos ((q_half hP ha).mp h2)]
    · rw [if_neg h2, if_neg (fun q => h2 ((q_half hP ha).mpr q))]
theorem q_lit01 (p : Int32) (v : cM) : z01 (m_M_lit p v) := by
  unfold m_M_lit
  split
  · exact Or.inl rfl
  · split
    · exact Or.inl rfl
    · exact Or.inr rfl
theorem q_bit {x : Int32} (h : z01 x) : m_B_bit x = x := by rcases h with rfl | rfl <;> rfl
