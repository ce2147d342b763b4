theorem q_on {v : cM} (h : rg (mg18 v) 12) : ∃ f, m_M_putOn v = ms21 v f ∧ m_Loads_setOff (m_Loads_findNextToRestore (Lp v)) 0 (Lp v) = Lp (ms21 v f) := by
  obtain ⟨n, hn, hne⟩ := h
  have hc : (mg18 v).toNatClampNeg = n := by rw [hne, nI_clamp (by omega)]
  have e0 : m_Loads_findNextToRestore (Lp v) = li_Loads_findNextToRestore_4 (Lp v) (mg18 v).toNatClampNeg := rfl
  have e1 : m_M_putOn v = ms21 v (upd (mg21 v) (li_M_putOn_4 v (mg18 v).toNatClampNeg).toNatClampNeg 0) := rfl
  rw [e0, e1, hc]
  exact ⟨_, rfl, q_set hn (q_resn v n hn) 0 0 (fun _ => rfl)⟩
