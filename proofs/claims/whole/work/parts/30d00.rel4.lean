/-! REL4: sides that begin and end; input, crash -/
def bg (a : Int32) : Bool := decide (a = 0)
theorem q_sbegin (a g c : Int32) : m_Side_begin (a, g, c) = if a = 0 then (1, 0, 0) else (a, g, c) := rfl
/-- the reference's begin, a side by itself -/
def mb (i : Nat) (p : Int32) (v : cM) : cM := if m_M_isWanted p v = 0 then v else (if mg7 v i = 0 then ms9 (ms8 (ms7 v (upd (mg7 v) i 1)) (upd (mg8 v) i 0)) (upd (mg9 v) i 0) else v)
theorem be_1 (z : cM) : f_M_begin_44 (f_M_begin_37 (f_M_begin_30 z)) = ms9 (ms8 (ms7 z (upd (mg7 z) 1 1)) (upd (mg8 z) 1 0)) (upd (mg9 z) 1 0) := rfl
theorem be_0 (z : cM) : f_M_begin_44_1 (f_M_begin_37_1 (f_M_begin_30_1 z)) = ms9 (ms8 (ms7 z (upd (mg7 z) 0 1)) (upd (mg8 z) 0 0)) (upd (mg9 z) 0 0) := rfl
theorem be_d (v : cM) : m_M_begin v = if m_M_isWanted 0 v = 0 then mb 1 1 v else (if mg7 v 0 = 0 then mb 1 1 (f_M_begin_44_1 (f_M_begin_37_1 (f_M_begin_30_1 v))) else mb 1 1 v) := by
  unfold m_M_begin mb
  simp only [be_1]
theorem q_mbegin (v : cM) : m_M_begin v = mb 1 1 (mb 0 0 v) := by
  rw [be_d]
  by_cases h0 : m_M_isWanted 0 v = 0
  · have m0 : mb 0 0 v = v := if_pos h0
    rw [if_pos h0, m0]
  · by_cases h3 : mg7 v 0 = 0
    · have m0 : mb 0 0 v = ms9 (ms8 (ms7 v (upd (mg7 v) 0 1)) (upd (mg8 v) 0 0)) (upd (mg9 v) 0 0) := (if_neg h0).trans (if_pos h3)
      rw [if_neg h0, if_pos h3, m0, be_0]
    · have m0 : mb 0 0 v = v := (if_neg h0).trans (if_neg h3)
      rw [if_neg h0, if_neg h3, m0]
/-- the class's, a side by itself -/
def bb (i : Nat) (p : Int32) (u : cB) : cB := if m_B_isWanted p u = 0 then u else s3 u (va_up (b3 u) i (m_Side_begin (b3 u i)))
theorem bbe_d (u : cB) : m_B_beginWantedSides u = if m_B_isWanted 0 u = 0 then bb 1 1 u else bb 1 1 (f_B_beginWantedSides_21_1 u) := by
  unfold m_B_beginWantedSides bb f_B_beginWantedSides_21 <;> rfl
theorem q_bbegin (u : cB) : m_B_beginWantedSides u = bb 1 1 (bb 0 0 u) := by
  rw [bbe_d]
  by_cases h0 : m_B_isWanted 0 u = 0
  · have m0 : bb 0 0 u = u := if_pos h0
    rw [if_pos h0, m0]
  · have m0 : bb 0 0 u = f_B_beginWantedSides_21_1 u := if_neg h0
    rw [if_neg h0, m0]
theorem q_bb {v : cM} (k : Nat → Nat → Int32) (t : Int32) (i : Nat) (p : Int32) : bb i p (ph v k t) = ph (mb i p v) k t := by
  unfold bb mb
  rw [q_isWanted]
  by_cases h0 : m_M_isWanted p v = 0
  · rw [if_pos h0, if_pos h0]
  · rw [if_neg h0, if_neg h0]
    have e : b3 (ph v k t) i = (mg7 v i, mg8 v i, mg9 v i) := rfl
    rw [e, q_sbegin]
    by_cases h1 : mg7 v i = 0
    · rw [if_pos h1, if_pos h1, w3]
    · rw [if_neg h1, if_neg h1, w3, upd_id, upd_id, upd_id]
      rfl
theorem q_begin {v : cM} (k : Nat → Nat → Int32) (t : Int32) : m_B_beginWantedSides (ph v k t) = ph (m_M_begin v) k t := by rw [q_bbegin, q_bb, q_bb, q_mbegin]
theorem mb_keep (i : Nat) (p : Int32) (v : cM) : ∃ f g c : Nat → Int32, mb i p v = ms9 (ms8 (ms7 v f) g) c ∧ ∀ j : Nat, (f j = mg7 v j ∨ f j = 1) ∧ (g j = mg8 v j ∨ g j = 0) := by
  unfold mb
  by_cases h0 : m_M_isWanted p v = 0
  · rw [if_pos h0]
    exact ⟨mg7 v, mg8 v, mg9 v, rfl, fun j => ⟨Or.inl rfl, Or.inl rfl⟩⟩
  · rw [if_neg h0]
    by_cases h1 : mg7 v i = 0
    · rw [if_pos h1]
      refine ⟨_, _, _, rfl, fun j => ?_⟩
      by_cases hj : j = i
      · subst hj
        rw [upd_at, upd_at]
        exact ⟨Or.inr rfl, Or.inr rfl⟩
      · rw [upd_ne _ _ hj, upd_ne _ _ hj]
        exact ⟨Or.inl rfl, Or.inl rfl⟩
    · rw [if_neg h1]
      exact ⟨mg7 v, mg8 v, mg9 v, rfl, fun j => ⟨Or.inl rfl, Or.inl rfl⟩⟩
theorem mb_inv {v : cM} (h : Inv v) (i : Nat) (p : Int32) : Inv (mb i p v) ∧ mg6 (mb i p v) = mg6 v ∧ mg24 (mb i p v) = mg24 v := by
  obtain ⟨f, g, c, e, hh⟩ := mb_keep i p v
  rw [e]
  refine ⟨⟨⟨⟨?_, ?_⟩, ?_, ?_⟩, h.2⟩, rfl, rfl⟩
  · show rg (g 0) 79
    rcases (hh 0).2 with q | q <;> rw [q]
    · exact h.1.1.1
    · exact ⟨0, by omega, rfl⟩
  · show rg (g 1) 79
    rcases (hh 1).2 with q | q <;> rw [q]
    · exact h.1.1.2
    · exact ⟨0, by omega, rfl⟩
  · show z01 (f 0)
    rcases (hh 0).1 with q | q <;> rw [q]
    · exact h.1.2.1
    · exact Or.inr rfl
  · show z01 (f 1)
    rcases (hh 1).1 with q | q <;> rw [q]
    · exact h.1.2.2
    · exact Or.inr rfl
theorem q_beginR {u : cB} {v : cM} (h : RV u v) : RV (m_B_beginWantedSides u) (m_M_begin v) := by
  obtain ⟨hI, k, rfl, hk⟩ := h
  rw [q_begin, q_mbegin]
  obtain ⟨a1, a2, a3⟩ := mb_inv hI 0 0
  obtain ⟨c1, c2, c3⟩ := mb_inv a1 1 1
  refine ⟨c1, k, by rw [c2, a2], ?_⟩
  unfold KK
  rw [c3, a3]
  exact hk
