theorem r_outputX {u : cB} {v : cM} (h : RV u v) (p : Int32) (hp : m_M_within p 0 9 = 0) : mg0 (m_M_output p v).2 = 1 ∧ RV u (m_M_output p v).2 := by
  have e2 : m_M_output p v = (0, ms0 v 1) := (if_pos hp).trans (if_neg (by show ¬ (1 : Int32) ≤ 0; decide))
  rw [e2]
  exact ⟨rfl, h.z 1⟩
