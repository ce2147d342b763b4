/-- the class's measure, its steps apart -/
def ml1 (p : Int32) (w : cL) : cL := t4 w (if 11500 ≤ p then 0 else l4 w + 1)
def ml2 (p : Int32) (w : cL) : cL := t5 w (if p ≤ 12500 then 0 else l5 w + 1)
def ml3 (w : cL) : cL := if l4 w < 3 then w else m_Loads_setOff (m_Loads_findNextToShed (t4 w 0)) 1 (t4 w 0)
def ml4 (w : cL) : cL := if l5 w < 3 then w else m_Loads_setOff (m_Loads_findNextToRestore (t5 w 0)) 0 (t5 w 0)
theorem q_ms34 (w : cL) : (if l4 w < 3 then (if l5 w < 3 then w else (m_Loads_setOff (m_Loads_findNextToRestore (f_Loads_measure_74 w)) (0 : Int32) (f_Loads_measure_74 w))) else (if l5 (m_Loads_setOff (m_Loads_findNextToShed (f_Loads_measure_52 w)) (1 : Int32) (f_Loads_measure_52 w)) < 3 then (m_Loads_setOff (m_Loads_findNextToShed (f_Loads_measure_52 w)) (1 : Int32) (f_Loads_measure_52 w)) else (m_Loads_setOff (m_Loads_findNextToRestore (f_Loads_measure_74 (m_Loads_setOff (m_Loads_findNextToShed (f_Loads_measure_52 w)) (1 : Int32) (f_Loads_measure_52 w)))) (0 : Int32) (f_Loads_measure_74 (m_Loads_setOff (m_Loads_findNextToShed (f_Loads_measure_52 w)) (1 : Int32) (f_Loads_measure_52 w)))))) = ml4 (ml3 w) := by
  unfold ml3
  by_cases a : l4 w < 3
  · rw [if_pos a, if_pos a]
    rfl
  · rw [if_neg a, if_neg a]
    rfl
