theorem b_tick_def (u : cB) : m_B_tick u = f_B_tick_80 (f_B_tick_64_3 (f_B_tick_64_2 (f_B_tick_64_1 (f_B_tick_64 (m_B_tickInterior (f_B_tick_44 (f_B_tick_23_1 (f_B_tick_23 u)))))))) := rfl
theorem q_tick {u : cB} {v : cM} (h : RV u v) : RV (m_B_tick u) (m_M_tick v) := by
  obtain ⟨hI, k, rfl, hk⟩ := h
  have hI0 : Inv (ms6 v (mg6 v + 1)) := hI
  obtain ⟨a1, a2, a3, a4⟩ := q_side k (mg6 v) 0 0 rfl (Or.inl rfl) hI0
  obtain ⟨y1, y2, y3, y4⟩ := q_side k (mg6 v) 1 1 rfl (Or.inr rfl) a2
  obtain ⟨c1, c2, c3, c4⟩ := q_wiper k (mg6 v) y2
  have A0 : ph v k (mg6 v) = ph (ms6 v (mg6 v + 1)) k (mg6 v) := rfl
  have A1 : ∀ z, f_B_tick_23 (ph z k (mg6 v)) = s3 (ph z k (mg6 v)) (va_up (b3 (ph z k (mg6 v))) 0 (m_Side_tick (m_B_turnBulbIsOut 0 (ph z k (mg6 v))) (m_B_isWanted 0 (ph z k (mg6 v))) (b3 (ph z k (mg6 v)) 0))) := fun z => rfl
  have B1 : ∀ z, f_B_tick_23_1 (ph z k (mg6 v)) = s3 (ph z k (mg6 v)) (va_up (b3 (ph z k (mg6 v))) 1 (m_Side_tick (m_B_turnBulbIsOut 1 (ph z k (mg6 v))) (m_B_isWanted 1 (ph z k (mg6 v))) (b3 (ph z k (mg6 v)) 1))) := fun z => rfl
  have C1 : ∀ z, f_B_tick_44 (ph z k (mg6 v)) = s4 (ph z k (mg6 v)) (m_Wiper_tick (m_B_wiperSpeed (ph z k (mg6 v))) (m_B_pauseAfterWiping (ph z k (mg6 v))) (b4 (ph z k (mg6 v)))) := fun z => rfl
  rw [m_tick_def, b_tick_def, A0, A1, a1, B1, y1, C1, c1]
  refine q_tick2 (v := v) k (mg6 v) c2 ?_ ?_ hk
  · rw [c3, y3, a3]
    rfl
  · rw [c4, y4, a4]
    rfl
