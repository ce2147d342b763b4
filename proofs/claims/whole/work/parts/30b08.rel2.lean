theorem q_tick2 {v3 v : cM} (k : Nat → Nat → Int32) (t : Int32) (h : Inv v3) (h6 : mg6 v3 = t + 1) (h24 : mg24 v3 = mg24 v) (hk : KK k v) :
    RV (f_B_tick_80 (f_B_tick_64_3 (f_B_tick_64_2 (f_B_tick_64_1 (f_B_tick_64 (m_B_tickInterior (ph v3 k t))))))) (if mg1 v3 8 = 1 then g_M_tick_48_1 v3 else (if mg3 v3 = 0 then g_M_tick_48_0 v3 else g_M_tick_48_1 v3)) := by
  obtain ⟨w, d1, d2, d3, d4, d5⟩ := q_int k t h
  obtain ⟨x, e1, e2, e3, e4, e5⟩ := tk_w k t d3
  rw [d2, d1, e1, e2, tk_F]
  have h7 : mg6 x = t + 1 := by rw [e4, d4, h6]
  have h8 : mg24 x = mg24 v := by rw [e5, d5, h24]
  have hk2 : KK k x := by
    unfold KK
    rw [h8]
    exact hk
  exact ⟨e3, k, by rw [h7], hk2⟩
