theorem q_meas (p : Int32) (w : cL) : m_Loads_measure p w = ml4 (ml3 (ml2 p (ml1 p w))) := by
  unfold ml1 ml2
  by_cases a : 11500 ≤ p
  · rw [if_pos a]
    refine (if_pos a).trans ?_
    by_cases b : p ≤ 12500
    · rw [if_pos b, if_pos b]
      exact q_ms34 (t5 (t4 w 0) 0)
    · rw [if_neg b, if_neg b]
      exact q_ms34 (t5 (t4 w 0) (l5 (t4 w 0) + 1))
  · rw [if_neg a]
    refine (if_neg a).trans ?_
    by_cases b : p ≤ 12500
    · rw [if_pos b, if_pos b]
      exact q_ms34 (t5 (t4 w (l4 w + 1)) 0)
    · rw [if_neg b, if_neg b]
      exact q_ms34 (t5 (t4 w (l4 w + 1)) (l5 (t4 w (l4 w + 1)) + 1))
