theorem q_crc (v2 : cM) : m_M_begin (f_M_crash_37_3 (f_M_crash_37_2 (f_M_crash_37_1 (f_M_crash_37 v2)))) = f_M_crash_37_3 (f_M_crash_37_2 (f_M_crash_37_1 (f_M_crash_37 (m_M_begin v2)))) := by
  have d0 : ∀ z : cM, f_M_crash_37 z = ms16 z (upd (mg16 z) 0 0) := fun z => rfl
  have d1 : ∀ z : cM, f_M_crash_37_1 z = ms16 z (upd (mg16 z) 1 0) := fun z => rfl
  have d2 : ∀ z : cM, f_M_crash_37_2 z = ms16 z (upd (mg16 z) 2 0) := fun z => rfl
  have d3 : ∀ z : cM, f_M_crash_37_3 z = ms16 z (upd (mg16 z) 3 0) := fun z => rfl
  have bc : ∀ (z : cM) (x : Nat → Int32), m_M_begin (ms16 z x) = ms16 (m_M_begin z) x := fun z x => by rw [q_mbegin, q_mbegin, mb_16, mb_16]
  have bg : ∀ z : cM, mg16 (m_M_begin z) = mg16 z := fun z => by rw [q_mbegin, mb_g16, mb_g16]
  have one : ∀ (z : cM) (i : Nat), m_M_begin (ms16 z (upd (mg16 z) i 0)) = ms16 (m_M_begin z) (upd (mg16 (m_M_begin z)) i 0) := fun z i => by rw [bc, bg]
  rw [d3, one, d2, one, d1, one, d0, one, ← d0, ← d1, ← d2, ← d3]
theorem q_cr2 {u2 : cB} {v2 : cM} (r : RV u2 v2) : m_B_countChangedOutputs (f_B_crash_37_3 (f_B_crash_37_2 (f_B_crash_37_1 (f_B_crash_37 (m_B_beginWantedSides u2))))) = m_M_others (m_M_begin (f_M_crash_37_3 (f_M_crash_37_2 (f_M_crash_37_1 (f_M_crash_37 v2))))) ∧ RV (f_B_crash_37_3 (f_B_crash_37_2 (f_B_crash_37_1 (f_B_crash_37 (m_B_beginWantedSides u2))))) (m_M_begin (f_M_crash_37_3 (f_M_crash_37_2 (f_M_crash_37_1 (f_M_crash_37 v2))))) := by
  rw [q_crc]
  have r4 := q_cw (q_cw (q_cw (q_cw (q_beginR r) 0) 1) 2) 3
  exact ⟨q_cntR r4, r4⟩
