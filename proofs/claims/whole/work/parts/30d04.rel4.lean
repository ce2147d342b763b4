theorem q_47 {u : cB} {v : cM} (h : RV u v) (p q : Int32) (hq : p = 2 → q = 0 ∨ q = 1 ∨ q = 2) : (g_B_input_47 p q u).1 = (g_M_input_78 p q v).1 ∧ RV (g_B_input_47 p q u).2 (g_M_input_78 p q v).2 := by
  have hb := q_beginR h
  by_cases c : p = 2
  · rcases hq c with d | d | d
    · rw [c, d, g47_0, g78_a]
      exact pr47 hb
    · rw [c, d, g47_1, g78_b]
      exact pr47 (q_endR h 1 1 (Or.inr ⟨rfl, rfl⟩))
    · rw [c, d, g47_2, g78_c]
      exact pr47 (q_endR h 0 0 (Or.inl ⟨rfl, rfl⟩))
  · rw [g47_n q u c, g78_n q v c]
    exact pr47 hb
