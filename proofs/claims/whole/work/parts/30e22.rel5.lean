theorem r_shed {u : cB} {v : cM} (h : RV u v) (p : Int32) : (m_B_shed p u).1 = (m_M_shed p v).1 ∧ RV (m_B_shed p u).2 (m_M_shed p v).2 := by
  obtain ⟨hI, k, rfl, hk⟩ := h
  by_cases c : m_M_within p 0 20000 = 0
  · have e1 : m_B_shed p (ph v k (mg6 v)) = (-2, ph v k (mg6 v)) := if_pos c
    have e2 : m_M_shed p v = (-2, ms0 v 0) := if_pos c
    rw [e1, e2]
    exact ⟨rfl, hI, k, rfl, hk⟩
  · have e1 : m_B_shed p (ph v k (mg6 v)) = (m_Loads_countOff (m_Loads_measure p (Lp v)), s6 (ph v k (mg6 v)) (m_Loads_measure p (Lp v))) := if_neg c
    obtain ⟨h18, h22, h23⟩ := hI.2.2.2.2.2.2.2.1
    have hX := q_lim h22 (11500 ≤ p)
    have hY := q_lim h23 (p ≤ 12500)
    rw [e1, q_mshed p v c, q_meas, sh_7]
    obtain ⟨X, hXe⟩ : ∃ X, (if 11500 ≤ p then 0 else mg22 v + 1) = X := ⟨_, rfl⟩
    obtain ⟨Y, hYe⟩ : ∃ Y, (if p ≤ 12500 then 0 else mg23 v + 1) = Y := ⟨_, rfl⟩
    rw [hXe] at hX
    rw [hYe] at hY
    rw [hXe, hYe, sh_6]
    obtain ⟨f, x, y, hx, hy, d1, d2⟩ := sh_2 h18 X Y hX hY
    rw [d1, d2, sh_5]
    exact ⟨sh_4 p _, sh_3 hI k hk f x y hx hy⟩
