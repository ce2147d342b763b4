theorem r_output {u : cB} {v : cM} (h : RV u v) (p : Int32) (hp : ¬ m_M_within p 0 9 = 0) : m_B_outputNow p u = (m_M_output p v).1 ∧ mg0 (m_M_output p v).2 = 0 ∧ RV u (m_M_output p v).2 := by
  obtain ⟨hI, k, rfl, hk⟩ := h
  have e2 : m_M_output p v = (m_M_value p (ms0 v 0), ms0 v 0) := (if_neg hp).trans (if_pos (by show (0 : Int32) ≤ 0; decide))
  obtain ⟨j, hj, rfl⟩ := hk_wl hp (N := 9) rfl (by decide)
  rw [e2]
  exact ⟨q_out v k (mg6 v) hI.1.1.1 hI.1.1.2 j (by omega), rfl, hI, k, rfl, hk⟩
