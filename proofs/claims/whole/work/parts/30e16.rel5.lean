def mm3 (v : cM) : cM := if mg22 v = 3 then ms22 (m_M_putOff v) 0 else v
def mm4 (v : cM) : cM := if mg23 v = 3 then ms23 (m_M_putOn v) 0 else v
theorem g23_0 (u : cM) (x : Int32) : mg23 (ms0 u x) = mg23 u := rfl
theorem sg40 (p : Int32) (z : cM) : g_M_shed_40 p z = g_M_shed_61 p (ms23 z (if p ≤ 12500 then 0 else mg23 z + 1)) := by
  have a1 : f_M_shed_58 z = ms23 z 0 := rfl
  have a2 : f_M_shed_58_1 z = ms23 z (mg23 z + 1) := rfl
  unfold g_M_shed_40
  rw [a1, a2]
  by_cases b : p ≤ 12500
  · rw [if_pos b, if_pos b]
  · rw [if_neg b, if_neg b]
theorem sg78 (p : Int32) (y : cM) : g_M_shed_78 p y = g_M_shed_95 p (mm4 y) := by
  have a : f_M_shed_92 (m_M_putOn y) = ms23 (m_M_putOn y) 0 := rfl
  unfold g_M_shed_78 mm4
  rw [a]
  by_cases c : mg23 y = 3
  · rw [if_pos c, if_pos c]
  · rw [if_neg c, if_neg c]
theorem sg61 (p : Int32) (z : cM) : g_M_shed_61 p z = g_M_shed_95 p (mm4 (mm3 z)) := by
  have a : f_M_shed_75 (m_M_putOff z) = ms22 (m_M_putOff z) 0 := rfl
  unfold g_M_shed_61 mm3
  rw [a]
  by_cases c : mg22 z = 3
  · rw [if_pos c, if_pos c, sg78]
  · rw [if_neg c, if_neg c, sg78]
theorem sgd (p : Int32) (v : cM) (c : ¬ m_M_within p 0 20000 = 0) : m_M_shed p v = (if 11500 ≤ p then g_M_shed_40 p (ms22 (ms0 v 0) 0) else g_M_shed_40 p (ms22 (ms0 v 0) (mg22 v + 1))) := by
  have a0 : f_M_shed_2 v = ms0 v 0 := rfl
  have a1 : ∀ z : cM, f_M_shed_37 z = ms22 z 0 := fun z => rfl
  have a2 : ∀ z : cM, f_M_shed_37_1 z = ms22 z (mg22 z + 1) := fun z => rfl
  have a3 : mg22 (ms0 v 0) = mg22 v := rfl
  unfold m_M_shed
  rw [if_neg c, a0, a1, a2, a3]
theorem q_mshed (p : Int32) (v : cM) (c : ¬ m_M_within p 0 20000 = 0) : m_M_shed p v = g_M_shed_95 p (mm4 (mm3 (ms23 (ms22 (ms0 v 0) (if 11500 ≤ p then 0 else mg22 v + 1)) (if p ≤ 12500 then 0 else mg23 v + 1)))) := by
  rw [sgd p v c]
  by_cases a : 11500 ≤ p
  · rw [if_pos a, if_pos a, sg40, sg61, g23_22, g23_0]
  · rw [if_neg a, if_neg a, sg40, sg61, g23_22, g23_0]
