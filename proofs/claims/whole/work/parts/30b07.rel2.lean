/-! a whole tick -/
theorem m_tick_def (v : cM) : m_M_tick v = (if mg1 (m_M_tickWiper (m_M_tickSide 1 (m_M_tickSide 0 (ms6 v (mg6 v + 1))))) 8 = 1 then g_M_tick_48_1 (m_M_tickWiper (m_M_tickSide 1 (m_M_tickSide 0 (ms6 v (mg6 v + 1))))) else (if mg3 (m_M_tickWiper (m_M_tickSide 1 (m_M_tickSide 0 (ms6 v (mg6 v + 1))))) = 0 then g_M_tick_48_0 (m_M_tickWiper (m_M_tickSide 1 (m_M_tickSide 0 (ms6 v (mg6 v + 1))))) else g_M_tick_48_1 (m_M_tickWiper (m_M_tickSide 1 (m_M_tickSide 0 (ms6 v (mg6 v + 1))))))) := rfl
theorem tk_g (w : cM) : g_M_tick_90 w = m_M_tickWindow 3 (m_M_tickWindow 2 (m_M_tickWindow 1 (m_M_tickWindow 0 w))) := by rw [g_M_tick_90, g_M_tick_92_0, g_M_tick_92_1, g_M_tick_92_2, g_M_tick_92_3, g_M_tick_92_4]
theorem tk_0 (u : cB) : f_B_tick_64 u = s5 u (va_up (b5 u) 0 (m_Window_tick (b5 u 0))) := rfl
theorem tk_1 (u : cB) : f_B_tick_64_1 u = s5 u (va_up (b5 u) 1 (m_Window_tick (b5 u 1))) := rfl
theorem tk_2 (u : cB) : f_B_tick_64_2 u = s5 u (va_up (b5 u) 2 (m_Window_tick (b5 u 2))) := rfl
theorem tk_3 (u : cB) : f_B_tick_64_3 u = s5 u (va_up (b5 u) 3 (m_Window_tick (b5 u 3))) := rfl
theorem tk_F (z : cM) (k : Nat → Nat → Int32) (t : Int32) : f_B_tick_80 (ph z k t) = ph z k (t + 1) := rfl
theorem tk_w {w : cM} (k : Nat → Nat → Int32) (t : Int32) (h : Inv w) : ∃ x : cM, f_B_tick_64_3 (f_B_tick_64_2 (f_B_tick_64_1 (f_B_tick_64 (ph w k t)))) = ph x k t ∧ g_M_tick_90 w = x ∧ Inv x ∧ mg6 x = mg6 w ∧ mg24 x = mg24 w := by
  obtain ⟨e1, e2, e3, e4⟩ := q_win k t 0 0 rfl (by decide) h
  obtain ⟨f1, f2, f3, f4⟩ := q_win k t 1 1 rfl (by decide) e2
  obtain ⟨g1, g2, g3, g4⟩ := q_win k t 2 2 rfl (by decide) f2
  obtain ⟨i1, i2, i3, i4⟩ := q_win k t 3 3 rfl (by decide) g2
  refine ⟨_, ?_, tk_g w, i2, ?_, ?_⟩
  · rw [tk_0, e1, tk_1, f1, tk_2, g1, tk_3, i1]
  · rw [i3, g3, f3, e3]
  · rw [i4, g4, f4, e4]
