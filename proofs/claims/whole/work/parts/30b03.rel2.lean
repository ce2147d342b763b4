def gm (v : cM) : cM := g_M_tickWiper_65 (ms13 v (w1 v))
theorem mw_def (v : cM) : m_M_tickWiper v = g_M_tickWiper_5 (m_M_speed v) v := rfl
theorem mw_a (v : cM) : f_M_tickWiper_23 (f_M_tickWiper_7 v) = ms12 (ms13 v 0) 0 := rfl
theorem mw_b (v : cM) : f_M_tickWiper_48 (f_M_tickWiper_7 v) = ms12 (ms13 v 0) (mg12 v - 1) := rfl
theorem mw_c (v : cM) : f_M_tickWiper_62 (f_M_tickWiper_7 v) = ms13 v 1 := rfl
theorem mw_d (v : cM) (z : Int32) : f_M_tickWiper_62_1 z (f_M_tickWiper_7 v) = ms13 v z := rfl
theorem mw_5 (v : cM) (z : Int32) : g_M_tickWiper_5 z v = if mg11 v = 0 then (if z = 0 then ms12 (ms13 v 0) 0 else (if mg12 v ≤ 0 then g_M_tickWiper_65 (ms13 v (if z = 0 then 1 else z)) else ms12 (ms13 v 0) (mg12 v - 1))) else g_M_tickWiper_65 (ms13 v (if z = 0 then 1 else z)) := by
  by_cases h1 : mg11 v = 0
  · refine hk_tp h1 ?_
    by_cases h2 : z = 0
    · exact hk_tp h2 (mw_a v)
    · refine hk_tn h2 ((if_pos h1).trans ?_)
      by_cases h3 : mg12 v ≤ 0
      · refine hk_tp h3 ?_
        rw [if_neg h2, if_neg h2, mw_d]
      · exact hk_tn h3 (mw_b v)
  · refine hk_tn h1 ((if_neg h1).trans ?_)
    by_cases h2 : z = 0
    · rw [if_pos h2, if_pos h2, mw_c]
    · rw [if_neg h2, if_neg h2, mw_d]
theorem q_mw (v : cM) : m_M_tickWiper v = if mg11 v = 0 then (if m_M_speed v = 0 then ms12 (ms13 v 0) 0 else (if mg12 v ≤ 0 then gm v else ms12 (ms13 v 0) (mg12 v - 1))) else gm v := by
  rw [mw_def, mw_5]
  rfl
theorem q_g65 (u : cM) : g_M_tickWiper_65 u = if 100 ≤ mg11 u + mg13 u then (if mg1 u 4 = 1 then (if m_M_within (mg5 u) 1 4 = 0 then ms11 u 0 else ms12 (ms11 u 0) (400 - 80 * mg5 u)) else ms11 u 0) else ms11 u (mg11 u + mg13 u) := by
  have k0 : ∀ x : Int32, f_M_tickWiper_90 (ms11 u x) = ms11 u 0 := fun x => rfl
  have k1 : f_M_tickWiper_75 u = ms11 u (mg11 u + mg13 u) := rfl
  have k2 : f_M_tickWiper_127 (ms11 u 0) = ms12 (ms11 u 0) (400 - 80 * mg5 u) := rfl
  have k3 : ∀ x : Int32, mg11 (ms11 u x) = x := fun x => rfl
  have k4 : ∀ x : Int32, mg1 (ms11 u x) 4 = mg1 u 4 := fun x => rfl
  have k5 : ∀ x : Int32, mg5 (ms11 u x) = mg5 u := fun x => rfl
  unfold g_M_tickWiper_65
  rw [k1, k0, k2, k3, k4, k5]
