theorem r_step {u : cB} {v : cM} (h : RV u v) (p : Int32) : (m_B_step p u).1 = (m_M_step p v).1 ∧ RV (m_B_step p u).2 (m_M_step p v).2 := by
  by_cases c : m_M_within p 0 1000 = 0
  · have e1 : m_B_step p u = (-2, u) := if_pos c
    have e2 : m_M_step p v = (-2, ms0 v 0) := if_pos c
    rw [e1, e2]
    exact ⟨rfl, h.z 0⟩
  · have e1 : m_B_step p u = (m_B_countChangedOutputs (li_B_step_19 p (m_B_noteOutputs u) p.toNatClampNeg), li_B_step_19 p (m_B_noteOutputs u) p.toNatClampNeg) := if_neg c
    have e2 : m_M_step p v = (m_M_others (li_M_step_25 p (m_M_layBy (ms0 v 0)) p.toNatClampNeg), li_M_step_25 p (m_M_layBy (ms0 v 0)) p.toNatClampNeg) := if_neg c
    rw [e1, e2]
    have r := q_stepn p (q_byR (h.z 0)) p.toNatClampNeg
    exact ⟨q_cntR r, r⟩
