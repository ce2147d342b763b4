theorem r_crash {u : cB} {v : cM} (h : RV u v) : (m_B_crash u).1 = (m_M_crash v).1 ∧ RV (m_B_crash u).2 (m_M_crash v).2 := by
  have r := q_cr2 (q_cr1 (q_byR (h.z 0)))
  have e3 : b12 u = mg3 v := by
    obtain ⟨-, k, rfl, -⟩ := h
    rfl
  rw [b_crash_def, m_crash_def, e3]
  by_cases c : mg3 v = 0
  · rw [if_pos c, if_pos c]
    exact r
  · rw [if_neg c, if_neg c]
    exact ⟨rfl, h.z 0⟩
