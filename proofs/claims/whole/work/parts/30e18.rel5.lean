theorem q_m3 {v : cM} (h : rg (mg18 v) 12) (h3 : rg (mg22 v) 3) : ∃ f x, rg x 2 ∧ mm3 v = ms22 (ms21 v f) x ∧ ml3 (Lp v) = Lp (ms22 (ms21 v f) x) := by
  obtain ⟨n, hn, hne⟩ := h3
  unfold mm3 ml3
  have e3 : (3 : Int32) = nI 3 := rfl
  have el : l4 (Lp v) = mg22 v := rfl
  rw [el]
  by_cases c : n = 3
  · have c1 : mg22 v = 3 := by rw [hne, c]; rfl
    rw [if_pos c1, if_neg (by rw [c1]; decide)]
    obtain ⟨f, h1, h2⟩ := q_off (v := ms22 v 0) h
    have e4 : t4 (Lp v) 0 = Lp (ms22 v 0) := rfl
    refine ⟨f, 0, ⟨0, by omega, rfl⟩, ?_, ?_⟩
    · have e5 : m_M_putOff (ms22 v 0) = ms22 (m_M_putOff v) 0 := pf_22 v 0
      rw [← e5, h1, sn_a]
    · rw [e4, h2, sn_a]
  · have c1 : ¬ mg22 v = 3 := by
      rw [hne, e3, nI_eq (by omega) (by omega)]
      exact c
    have c2 : mg22 v < 3 := by
      rw [hne, e3, nI_ltI (by omega) (by omega)]
      omega
    rw [if_neg c1, if_pos c2]
    refine ⟨mg21 v, mg22 v, ?_, (et_22 v).symm, by rw [et_22]⟩
    rw [hne]
    exact rg_nI (by omega)
