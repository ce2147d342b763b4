theorem r_rain {u : cB} {v : cM} (h : RV u v) (p : Int32) : (m_B_rain p u).1 = (m_M_rain p v).1 ∧ RV (m_B_rain p u).2 (m_M_rain p v).2 := by
  obtain ⟨hI, k, rfl, hk⟩ := h
  by_cases c : m_M_within p 0 9 = 0
  · have e1 : m_B_rain p (ph v k (mg6 v)) = (-2, ph v k (mg6 v)) := if_pos c
    have e2 : m_M_rain p v = (-2, ms0 v 0) := if_pos c
    rw [e1, e2]
    exact ⟨rfl, hI, k, rfl, hk⟩
  · have e1 : m_B_rain p (ph v k (mg6 v)) = (mg5 v, ph (ms5 v p) k (mg6 v)) := if_neg c
    have e2 : m_M_rain p v = (mg5 v, ms5 (ms0 v 0) p) := if_neg c
    rw [e1, e2]
    exact ⟨rfl, hI, k, rfl, hk⟩
