/-- the side that ends, in the reference -/
def me (i : Nat) (p : Int32) (v : cM) : cM := if mg7 v i = 0 then ms7 v (upd (mg7 v) i 0) else (if m_M_isWanted p v = 0 then ms7 v (upd (mg7 v) i 0) else ms7 v (upd (mg7 v) i 1))
theorem me_eq {v : cM} {i : Nat} (h : z01 (mg7 v i)) (p : Int32) : me i p v = ms7 v (upd (mg7 v) i (if m_M_isWanted p v = 0 then 0 else mg7 v i)) := by
  unfold me
  by_cases a : mg7 v i = 0
  · rw [if_pos a, a]
    split <;> rfl
  · rw [if_neg a]
    by_cases b : m_M_isWanted p v = 0
    · rw [if_pos b, if_pos b]
    · rw [if_neg b, if_neg b, h.resolve_left a]
theorem wantedP (p : Int32) (v : cM) (f g c : Nat → Int32) : m_M_isWanted p (ms9 (ms8 (ms7 v f) g) c) = m_M_isWanted p v := rfl
theorem wanted7 (p : Int32) (v : cM) (f : Nat → Int32) : m_M_isWanted p (ms7 v f) = m_M_isWanted p v := rfl
theorem mb_w (i : Nat) (p q : Int32) (v : cM) : m_M_isWanted q (mb i p v) = m_M_isWanted q v := by
  obtain ⟨f, g, c, e, -⟩ := mb_keep i p v
  rw [e]
  rfl
theorem upd_comm (f : Nat → Int32) {i j : Nat} (h : ¬ i = j) (x y : Int32) : upd (upd f i x) j y = upd (upd f j y) i x := by
  funext n
  unfold upd
  by_cases a : n = i <;> by_cases b : n = j
  · exact absurd (a.symm.trans b) h
  · simp [a, h]
  · have c : ¬ j = i := fun z => h z.symm
    simp [b, c]
  · simp [a, b]
/-- ending an unwanted side and beginning the wanted ones, in either order -/
theorem mb_off (i j : Nat) (p q : Int32) (v : cM) (hij : (i = j ∧ p = q) ∨ ¬ i = j) (h : m_M_isWanted q v = 0) : mb i p (ms7 v (upd (mg7 v) j 0)) = ms7 (mb i p v) (upd (mg7 (mb i p v)) j 0) := by
  unfold mb
  rw [wanted7]
  rcases hij with ⟨rfl, rfl⟩ | hij
  · rw [if_pos h, if_pos h]
  · by_cases h0 : m_M_isWanted p v = 0
    · rw [if_pos h0, if_pos h0]
    · rw [if_neg h0, if_neg h0]
      have e : mg7 (ms7 v (upd (mg7 v) j 0)) i = mg7 v i := upd_ne _ _ hij
      rw [e]
      by_cases h1 : mg7 v i = 0
      · rw [if_pos h1, if_pos h1]
        have e2 : upd (mg7 (ms7 v (upd (mg7 v) j 0))) i 1 = upd (upd (mg7 v) i 1) j 0 := upd_comm (mg7 v) (fun z => hij z.symm) 0 1
        rw [e2]
        rfl
      · rw [if_neg h1, if_neg h1]
theorem b_end_def (s : Int32) (u : cB) (hs : s = 0 ∨ s = 1) : m_B_endUnwantedSide s u = if m_B_isWanted s u = 0 then s3 u (va_up (b3 u) s.toNatClampNeg (0, (b3 u s.toNatClampNeg).2.1, (b3 u s.toNatClampNeg).2.2)) else u := by
  have hb : ¬ m_B_isBelow s 2 = 0 := by rcases hs with rfl | rfl <;> decide
  exact (if_neg hb).trans rfl
theorem q_end {v : cM} (k : Nat → Nat → Int32) (t : Int32) (h : Inv v) (j : Nat) (s : Int32) (hs : (j = 0 ∧ s = 0) ∨ (j = 1 ∧ s = 1)) : m_B_endUnwantedSide s (m_B_beginWantedSides (ph v k t)) = ph (m_M_begin (me j s v)) k t := by
  have hsn : s.toNatClampNeg = j := by rcases hs with ⟨rfl, rfl⟩ | ⟨rfl, rfl⟩ <;> rfl
  have hz : z01 (mg7 v j) := by
    rcases hs with ⟨rfl, rfl⟩ | ⟨rfl, rfl⟩
    · exact h.1.2.1
    · exact h.1.2.2
  rw [q_begin, b_end_def s _ (by rcases hs with ⟨-, rfl⟩ | ⟨-, rfl⟩; exact Or.inl rfl; exact Or.inr rfl), q_isWanted, hsn, me_eq hz, q_mbegin, q_mbegin, mb_w, mb_w]
  by_cases c : m_M_isWanted s v = 0
  · rw [if_pos c, if_pos c]
    have e : ∀ w : cM, s3 (ph w k t) (va_up (b3 (ph w k t)) j (0, (b3 (ph w k t) j).2.1, (b3 (ph w k t) j).2.2)) = ph (ms7 w (upd (mg7 w) j 0)) k t := by
      intro w
      have e1 : (b3 (ph w k t) j).2.1 = mg8 w j := rfl
      have e2 : (b3 (ph w k t) j).2.2 = mg9 w j := rfl
      rw [e1, e2, w3, upd_id, upd_id]
      rfl
    rw [e]
    have o0 : mb 0 0 (ms7 v (upd (mg7 v) j 0)) = ms7 (mb 0 0 v) (upd (mg7 (mb 0 0 v)) j 0) := mb_off 0 j 0 s v (by rcases hs with ⟨rfl, rfl⟩ | ⟨rfl, rfl⟩; exact Or.inl ⟨rfl, rfl⟩; exact Or.inr (by decide)) c
    have o1 : mb 1 1 (ms7 (mb 0 0 v) (upd (mg7 (mb 0 0 v)) j 0)) = ms7 (mb 1 1 (mb 0 0 v)) (upd (mg7 (mb 1 1 (mb 0 0 v))) j 0) := mb_off 1 j 1 s (mb 0 0 v) (by rcases hs with ⟨rfl, rfl⟩ | ⟨rfl, rfl⟩; exact Or.inr (by decide); exact Or.inl ⟨rfl, rfl⟩) (by rw [mb_w]; exact c)
    rw [o0, o1]
  · rw [if_neg c, if_neg c, upd_id]
    rfl
theorem me_inv {v : cM} (h : Inv v) (j : Nat) (s : Int32) (hz : z01 (mg7 v j)) : Inv (me j s v) ∧ mg6 (me j s v) = mg6 v ∧ mg24 (me j s v) = mg24 v := by
  rw [me_eq hz]
  have hh : ∀ n : Nat, z01 (mg7 v n) → z01 (upd (mg7 v) j (if m_M_isWanted s v = 0 then 0 else mg7 v j) n) := by
    intro n hn
    by_cases e : n = j
    · rw [e, upd_at]
      split
      · exact Or.inl rfl
      · exact hz
    · rw [upd_ne _ _ e]
      exact hn
  exact ⟨⟨⟨h.1.1, hh 0 h.1.2.1, hh 1 h.1.2.2⟩, h.2⟩, rfl, rfl⟩
