/-! REL3: each call of both -/
theorem RV.z {u : cB} {v : cM} (h : RV u v) (x : Int32) : RV u (ms0 v x) := h
theorem q_stepn {u : cB} {v : cM} (p : Int32) (h : RV u v) : ∀ n : Nat, RV (li_B_step_19 p u n) (li_M_step_25 p v n)
  | 0 => h
  | n + 1 => q_tick (q_stepn p h n)
theorem RV.i1 {u : cB} {v : cM} (h : RV u v) : I1 v := h.1.1
theorem q_cntR {u : cB} {v : cM} (h : RV u v) : m_B_countChangedOutputs u = m_M_others v := by
  obtain ⟨hI, k, rfl, -⟩ := h
  exact q_cnt v k _ hI.1
theorem q_byR {u : cB} {v : cM} (h : RV u v) : RV (m_B_noteOutputs u) (m_M_layBy v) := by
  obtain ⟨hI, k, rfl, hk⟩ := h
  obtain ⟨e, x, hx⟩ := q_by k (mg6 v) hI
  rw [e, hx]
  exact ⟨hI, k, rfl, hk⟩
