theorem q_off {v : cM} (h : rg (mg18 v) 12) : ∃ f, m_M_putOff v = ms21 v f ∧ m_Loads_setOff (m_Loads_findNextToShed (Lp v)) 1 (Lp v) = Lp (ms21 v f) := by
  obtain ⟨n, hn, hne⟩ := h
  have hc : (mg18 v).toNatClampNeg = n := by rw [hne, nI_clamp (by omega)]
  have e0 : m_Loads_findNextToShed (Lp v) = li_Loads_findNextToShed_4 (Lp v) (mg18 v).toNatClampNeg := rfl
  have e1 : m_M_putOff v = if li_M_putOff_4 v (mg18 v).toNatClampNeg ≤ 0 then ms21 v (upd (mg21 v) (li_M_putOff_4 v (mg18 v).toNatClampNeg).toNatClampNeg 0) else ms21 v (upd (mg21 v) (li_M_putOff_4 v (mg18 v).toNatClampNeg).toNatClampNeg 1) := rfl
  rw [e0, e1, hc]
  have s := q_shedn v n hn
  by_cases c : li_M_putOff_4 v n ≤ 0
  · rw [if_pos c]
    refine ⟨_, rfl, q_set hn s 1 0 (fun z => ?_)⟩
    rcases s with ⟨-, h2⟩ | ⟨j, hj, -, h2⟩
    · exact absurd h2 z
    · rw [h2] at c
      exact absurd c (nI_nle (by omega) (by omega))
  · rw [if_neg c]
    exact ⟨_, rfl, q_set hn s 1 1 (fun _ => rfl)⟩
