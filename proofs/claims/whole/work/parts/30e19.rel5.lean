theorem q_m4 {v : cM} (h : rg (mg18 v) 12) (h3 : rg (mg23 v) 3) : ∃ f x, rg x 2 ∧ mm4 v = ms23 (ms21 v f) x ∧ ml4 (Lp v) = Lp (ms23 (ms21 v f) x) := by
  obtain ⟨n, hn, hne⟩ := h3
  unfold mm4 ml4
  have e3 : (3 : Int32) = nI 3 := rfl
  have el : l5 (Lp v) = mg23 v := rfl
  rw [el]
  by_cases c : n = 3
  · have c1 : mg23 v = 3 := by rw [hne, c]; rfl
    rw [if_pos c1, if_neg (by rw [c1]; decide)]
    obtain ⟨f, h1, h2⟩ := q_on (v := ms23 v 0) h
    have e4 : t5 (Lp v) 0 = Lp (ms23 v 0) := rfl
    refine ⟨f, 0, ⟨0, by omega, rfl⟩, ?_, ?_⟩
    · have e5 : m_M_putOn (ms23 v 0) = ms23 (m_M_putOn v) 0 := pn_23 v 0
      rw [← e5, h1, sn_d]
    · rw [e4, h2, sn_d]
  · have c1 : ¬ mg23 v = 3 := by
      rw [hne, e3, nI_eq (by omega) (by omega)]
      exact c
    have c2 : mg23 v < 3 := by
      rw [hne, e3, nI_ltI (by omega) (by omega)]
      omega
    rw [if_neg c1, if_pos c2]
    refine ⟨mg21 v, mg23 v, ?_, (et_23 v).symm, by rw [et_23]⟩
    rw [hne]
    exact rg_nI (by omega)
