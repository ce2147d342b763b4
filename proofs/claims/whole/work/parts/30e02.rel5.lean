theorem r_isOn {u : cB} {v : cM} (h : RV u v) (p : Int32) : m_B_isOn p u = (m_M_isOn p v).1 ∧ RV u (m_M_isOn p v).2 := by
  obtain ⟨hI, k, rfl, hk⟩ := h
  obtain ⟨⟨n, hn, hne⟩, hlh⟩ := hI.2.2.2.2.2.2.2.1
  have eh : m_Loads_has p (b6 (ph v k (mg6 v))) = m_M_within p 1 (mg18 v) := rfl
  by_cases c : m_M_within p 1 (mg18 v) = 0
  · have e1 : m_B_isOn p (ph v k (mg6 v)) = -1 := if_pos c
    have e2 : m_M_isOn p v = (-1, ms0 v 0) := if_pos c
    rw [e1, e2]
    exact ⟨rfl, hI, k, rfl, hk⟩
  · have er : m_Loads_runs p (b6 (ph v k (mg6 v))) = if mg21 v ((p - 1).toNatClampNeg + 1) = 0 then 1 else 0 := (if_neg c).trans rfl
    have e1 : m_B_isOn p (ph v k (mg6 v)) = m_B_bit (m_Loads_runs p (b6 (ph v k (mg6 v)))) := if_neg c
    have e2 : m_M_isOn p v = if mg21 v p.toNatClampNeg = 0 then (1, ms0 v 0) else (0, ms0 v 0) := (if_neg c).trans rfl
    obtain ⟨h1, h2⟩ := hk_wb c
    obtain ⟨j, hj, rfl⟩ := nI_of (x := p) (fun z => h1 (Int32.lt_trans z (by decide)))
    have hj1 : 1 ≤ j := by
      rw [show (1 : Int32) = nI 1 from rfl, nI_ltI hj (by omega)] at h1
      omega
    obtain ⟨i, rfl⟩ : ∃ i, j = i + 1 := ⟨j - 1, by omega⟩
    have ep : (nI (i + 1) - 1).toNatClampNeg + 1 = (nI (i + 1)).toNatClampNeg := by rw [nI_pred, nI_clamp (by omega), nI_clamp hj]
    rw [e1, er, e2, ep]
    by_cases d : mg21 v (nI (i + 1)).toNatClampNeg = 0
    · rw [if_pos d, if_pos d]
      exact ⟨rfl, hI, k, rfl, hk⟩
    · rw [if_neg d, if_neg d]
      exact ⟨rfl, hI, k, rfl, hk⟩
