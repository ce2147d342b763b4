/-! a whole tick -/
theorem m_tick_def (v : cM) : m_M_tick v = (if mg1 (m_M_tickWiper (m_M_tickSide 1 (m_M_tickSide 0 (ms6 v (mg6 v + 1))))) 8 = 1 then g_M_tick_48_1 (m_M_tickWiper (m_M_tickSide 1 (m_M_tickSide 0 (ms6 v (mg6 v + 1))))) else (if mg3 (m_M_tickWiper (m_M_tickSide 1 (m_M_tickSide 0 (ms6 v (mg6 v + 1))))) = 0 then g_M_tick_48_0 (m_M_tickWiper (m_M_tickSide 1 (m_M_tickSide 0 (ms6 v (mg6 v + 1))))) else g_M_tick_48_1 (m_M_tickWiper (m_M_tickSide 1 (m_M_tickSide 0 (ms6 v (mg6 v + 1))))))) := rfl
theorem q_tick2 {v3 v : cM} (k : Nat → Nat → Int32) (t : Int32) (h : Inv v3) (h6 : mg6 v3 = t + 1) (h24 : mg24 v3 = mg24 v) (hk : KK k v) :
    RV (f_B_tick_80 (f_B_tick_64_3 (f_B_tick_64_2 (f_B_tick_64_1 (f_B_tick_64 (m_B_tickInterior (ph v3 k t))))))) (if mg1 v3 8 = 1 then g_M_tick_48_1 v3 else (if mg3 v3 = 0 then g_M_tick_48_0 v3 else g_M_tick_48_1 v3)) := by
  obtain ⟨w, d1, d2, d3, d4, d5⟩ := q_int k t h
  obtain ⟨e1, e2, e3, e4⟩ := q_win k t 0 0 rfl (by decide) d3
  obtain ⟨f1, f2, f3, f4⟩ := q_win k t 1 1 rfl (by decide) e2
  obtain ⟨g1, g2, g3, g4⟩ := q_win k t 2 2 rfl (by decide) f2
  obtain ⟨i1, i2, i3, i4⟩ := q_win k t 3 3 rfl (by decide) g2
  have hg : g_M_tick_90 w = m_M_tickWindow 3 (m_M_tickWindow 2 (m_M_tickWindow 1 (m_M_tickWindow 0 w))) := rfl
  have E0 : ∀ z, f_B_tick_64 (ph z k t) = s5 (ph z k t) (va_up (b5 (ph z k t)) 0 (m_Window_tick (b5 (ph z k t) 0))) := fun z => rfl
  have E1 : ∀ z, f_B_tick_64_1 (ph z k t) = s5 (ph z k t) (va_up (b5 (ph z k t)) 1 (m_Window_tick (b5 (ph z k t) 1))) := fun z => rfl
  have E2 : ∀ z, f_B_tick_64_2 (ph z k t) = s5 (ph z k t) (va_up (b5 (ph z k t)) 2 (m_Window_tick (b5 (ph z k t) 2))) := fun z => rfl
  have E3 : ∀ z, f_B_tick_64_3 (ph z k t) = s5 (ph z k t) (va_up (b5 (ph z k t)) 3 (m_Window_tick (b5 (ph z k t) 3))) := fun z => rfl
  have F : ∀ z, f_B_tick_80 (ph z k t) = ph z k (t + 1) := fun z => rfl
  rw [d2, hg, d1, E0, e1, E1, f1, E2, g1, E3, i1, F]
  refine ⟨i2, k, ?_, ?_⟩
  · rw [i3, g3, f3, e3, d4, h6]
  · unfold KK
    rw [i4, g4, f4, e4, d5, h24]
    exact hk
theorem b_tick_def (u : cB) : m_B_tick u = f_B_tick_80 (f_B_tick_64_3 (f_B_tick_64_2 (f_B_tick_64_1 (f_B_tick_64 (m_B_tickInterior (f_B_tick_44 (f_B_tick_23_1 (f_B_tick_23 u)))))))) := rfl
theorem q_tick {u : cB} {v : cM} (h : RV u v) : RV (m_B_tick u) (m_M_tick v) := by
  obtain ⟨hI, k, rfl, hk⟩ := h
  have hI0 : Inv (ms6 v (mg6 v + 1)) := hI
  obtain ⟨a1, a2, a3, a4⟩ := q_side k (mg6 v) 0 0 rfl (Or.inl rfl) hI0
  obtain ⟨y1, y2, y3, y4⟩ := q_side k (mg6 v) 1 1 rfl (Or.inr rfl) a2
  obtain ⟨c1, c2, c3, c4⟩ := q_wiper k (mg6 v) y2
  have A0 : ph v k (mg6 v) = ph (ms6 v (mg6 v + 1)) k (mg6 v) := rfl
  have A1 : ∀ z, f_B_tick_23 (ph z k (mg6 v)) = s3 (ph z k (mg6 v)) (va_up (b3 (ph z k (mg6 v))) 0 (m_Side_tick (m_B_turnBulbIsOut 0 (ph z k (mg6 v))) (m_B_isWanted 0 (ph z k (mg6 v))) (b3 (ph z k (mg6 v)) 0))) := fun z => rfl
  have B1 : ∀ z, f_B_tick_23_1 (ph z k (mg6 v)) = s3 (ph z k (mg6 v)) (va_up (b3 (ph z k (mg6 v))) 1 (m_Side_tick (m_B_turnBulbIsOut 1 (ph z k (mg6 v))) (m_B_isWanted 1 (ph z k (mg6 v))) (b3 (ph z k (mg6 v)) 1))) := fun z => rfl
  have C1 : ∀ z, f_B_tick_44 (ph z k (mg6 v)) = s4 (ph z k (mg6 v)) (m_Wiper_tick (m_B_wiperSpeed (ph z k (mg6 v))) (m_B_pauseAfterWiping (ph z k (mg6 v))) (b4 (ph z k (mg6 v)))) := fun z => rfl
  rw [m_tick_def, b_tick_def, A0, A1, a1, B1, y1, C1, c1]
  refine q_tick2 (v := v) k (mg6 v) c2 ?_ ?_ hk
  · rw [c3, y3, a3]
    rfl
  · rw [c4, y4, a4]
    rfl
