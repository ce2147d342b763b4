theorem q_tr {u1 : cB} {v1 : cM} (r : RV u1 v1) (p : Int32) : RV (f_B_trailer_6 p u1) (f_M_trailer_11 p v1) := by
  obtain ⟨hI, k, rfl, hk⟩ := r
  exact ⟨hI, k, rfl, hk⟩
theorem r_trailer {u : cB} {v : cM} (h : RV u v) (p : Int32) : (m_B_trailer p u).1 = (m_M_trailer p v).1 ∧ RV (m_B_trailer p u).2 (m_M_trailer p v).2 := by
  have r := q_byR (h.z 0)
  have e1 : m_B_trailer p u = (m_B_countChangedOutputs (f_B_trailer_6 p (m_B_noteOutputs u)), f_B_trailer_6 p (m_B_noteOutputs u)) := rfl
  have e2 : m_M_trailer p v = (m_M_others (f_M_trailer_11 p (m_M_layBy (ms0 v 0))), f_M_trailer_11 p (m_M_layBy (ms0 v 0))) := rfl
  rw [e1, e2]
  have r2 : RV (f_B_trailer_6 p (m_B_noteOutputs u)) (f_M_trailer_11 p (m_M_layBy (ms0 v 0))) := q_tr r p
  exact ⟨q_cntR r2, r2⟩
