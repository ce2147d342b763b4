theorem r_input {u : cB} {v : cM} (h : RV u v) (p q : Int32) : (m_B_input p q u).1 = (m_M_input p q v).1 ∧ RV (m_B_input p q u).2 (m_M_input p q v).2 := by
  rw [b_input_def, m_input_def, show m_B_isBelow p 9 = m_M_within p 0 8 from ab_be 8 (by decide)]
  by_cases a : m_M_within p 0 8 = 0
  · rw [if_pos a, if_pos a]
    exact ⟨rfl, h.z 0⟩
  · rw [if_neg a, if_neg a, q_most a]
    by_cases b : m_M_within q 0 (m_M_most p) = 0
    · rw [if_pos b, if_pos b]
      exact ⟨rfl, h.z 0⟩
    · rw [if_neg b, if_neg b]
      exact q_in2 (q_in1 (q_byR (h.z 0)) a b) b
