theorem g47_def (p q : Int32) (u : cB) : g_B_input_47 p q u = if p = 2 then (if q = 0 then (m_B_countChangedOutputs (m_B_beginWantedSides u), m_B_beginWantedSides u) else (m_B_countChangedOutputs (m_B_endUnwantedSide (2 - q) (m_B_beginWantedSides u)), m_B_endUnwantedSide (2 - q) (m_B_beginWantedSides u))) else (m_B_countChangedOutputs (m_B_beginWantedSides u), m_B_beginWantedSides u) := rfl
theorem g126 (p q : Int32) (z : cM) : g_M_input_126 p q z = (m_M_others (m_M_begin z), m_M_begin z) := rfl
theorem g78_1 (p q : Int32) (v : cM) : (if mg7 v 1 = 0 then g_M_input_126 p q (f_M_input_125 v) else (if m_M_isWanted 1 v = 0 then g_M_input_126 p q (f_M_input_125 v) else g_M_input_126 p q (f_M_input_125_1 v))) = (m_M_others (m_M_begin (me 1 1 v)), m_M_begin (me 1 1 v)) := by
  by_cases f : mg7 v 1 = 0
  · have m : me 1 1 v = f_M_input_125 v := if_pos f
    rw [if_pos f, m, g126]
  · by_cases g : m_M_isWanted 1 v = 0
    · have m : me 1 1 v = f_M_input_125 v := (if_neg f).trans (if_pos g)
      rw [if_neg f, if_pos g, m, g126]
    · have m : me 1 1 v = f_M_input_125_1 v := (if_neg f).trans (if_neg g)
      rw [if_neg f, if_neg g, m, g126]
theorem g78_0 (p q : Int32) (v : cM) : (if mg7 v 0 = 0 then g_M_input_126 p q (f_M_input_125_2 v) else (if m_M_isWanted 0 v = 0 then g_M_input_126 p q (f_M_input_125_2 v) else g_M_input_126 p q (f_M_input_125_3 v))) = (m_M_others (m_M_begin (me 0 0 v)), m_M_begin (me 0 0 v)) := by
  by_cases f : mg7 v 0 = 0
  · have m : me 0 0 v = f_M_input_125_2 v := if_pos f
    rw [if_pos f, m, g126]
  · by_cases g : m_M_isWanted 0 v = 0
    · have m : me 0 0 v = f_M_input_125_2 v := (if_neg f).trans (if_pos g)
      rw [if_neg f, if_pos g, m, g126]
    · have m : me 0 0 v = f_M_input_125_3 v := (if_neg f).trans (if_neg g)
      rw [if_neg f, if_neg g, m, g126]
theorem g78_def (p q : Int32) (v : cM) : g_M_input_78 p q v = if p = 2 then (if q ≤ 0 then (m_M_others (m_M_begin v), m_M_begin v) else (if q = 1 then (m_M_others (m_M_begin (me 1 1 v)), m_M_begin (me 1 1 v)) else (m_M_others (m_M_begin (me 0 0 v)), m_M_begin (me 0 0 v)))) else (m_M_others (m_M_begin v), m_M_begin v) := by
  unfold g_M_input_78
  rw [g78_1, g78_0, g126]
theorem g47_n (q : Int32) (u : cB) {p : Int32} (h : ¬ p = 2) : g_B_input_47 p q u = (m_B_countChangedOutputs (m_B_beginWantedSides u), m_B_beginWantedSides u) := by rw [g47_def, if_neg h]
theorem g47_0 (u : cB) : g_B_input_47 2 0 u = (m_B_countChangedOutputs (m_B_beginWantedSides u), m_B_beginWantedSides u) := by
  have a : (2 : Int32) = 2 := rfl
  have b : (0 : Int32) = 0 := rfl
  rw [g47_def, if_pos a, if_pos b]
theorem g47_1 (u : cB) : g_B_input_47 2 1 u = (m_B_countChangedOutputs (m_B_endUnwantedSide 1 (m_B_beginWantedSides u)), m_B_endUnwantedSide 1 (m_B_beginWantedSides u)) := by
  have a : (2 : Int32) = 2 := rfl
  have b : ¬ (1 : Int32) = 0 := by decide
  have e : (2 : Int32) - 1 = 1 := by decide
  rw [g47_def, if_pos a, if_neg b, e]
theorem g47_2 (u : cB) : g_B_input_47 2 2 u = (m_B_countChangedOutputs (m_B_endUnwantedSide 0 (m_B_beginWantedSides u)), m_B_endUnwantedSide 0 (m_B_beginWantedSides u)) := by
  have a : (2 : Int32) = 2 := rfl
  have b : ¬ (2 : Int32) = 0 := by decide
  have e : (2 : Int32) - 2 = 0 := by decide
  rw [g47_def, if_pos a, if_neg b, e]
theorem g78_n (q : Int32) (v : cM) {p : Int32} (h : ¬ p = 2) : g_M_input_78 p q v = (m_M_others (m_M_begin v), m_M_begin v) := by rw [g78_def, if_neg h]
theorem g78_a (v : cM) : g_M_input_78 2 0 v = (m_M_others (m_M_begin v), m_M_begin v) := by
  have a : (2 : Int32) = 2 := rfl
  have b : (0 : Int32) ≤ 0 := by decide
  rw [g78_def, if_pos a, if_pos b]
theorem g78_b (v : cM) : g_M_input_78 2 1 v = (m_M_others (m_M_begin (me 1 1 v)), m_M_begin (me 1 1 v)) := by
  have a : (2 : Int32) = 2 := rfl
  have b : ¬ (1 : Int32) ≤ 0 := by decide
  have e : (1 : Int32) = 1 := rfl
  rw [g78_def, if_pos a, if_neg b, if_pos e]
theorem g78_c (v : cM) : g_M_input_78 2 2 v = (m_M_others (m_M_begin (me 0 0 v)), m_M_begin (me 0 0 v)) := by
  have a : (2 : Int32) = 2 := rfl
  have b : ¬ (2 : Int32) ≤ 0 := by decide
  have e : ¬ (2 : Int32) = 1 := by decide
  rw [g78_def, if_pos a, if_neg b, if_neg e]
theorem pr47 {u : cB} {v : cM} (r : RV u v) : (m_B_countChangedOutputs u, u).1 = (m_M_others v, v).1 ∧ RV (m_B_countChangedOutputs u, u).2 (m_M_others v, v).2 := ⟨q_cntR r, r⟩
theorem q_endR {u : cB} {v : cM} (h : RV u v) (j : Nat) (s : Int32) (hs : (j = 0 ∧ s = 0) ∨ (j = 1 ∧ s = 1)) : RV (m_B_endUnwantedSide s (m_B_beginWantedSides u)) (m_M_begin (me j s v)) := by
  obtain ⟨hI, k, rfl, hk⟩ := h
  have hz : z01 (mg7 v j) := by
    rcases hs with ⟨rfl, rfl⟩ | ⟨rfl, rfl⟩
    · exact hI.1.2.1
    · exact hI.1.2.2
  obtain ⟨i1, i2, i3⟩ := me_inv hI j s hz
  have hk2 : KK k (me j s v) := by
    unfold KK
    rw [i3]
    exact hk
  have r : RV (ph (me j s v) k (mg6 (me j s v))) (me j s v) := ⟨i1, k, rfl, hk2⟩
  have r2 := q_beginR r
  rw [q_begin, i2] at r2
  rw [q_end k (mg6 v) hI j s hs]
  exact r2
