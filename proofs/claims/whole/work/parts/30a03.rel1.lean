theorem q_out8 {x : Int32} (h : z01 x) : (if x = 0 then m_B_bit 0 else m_B_bit 1) = x := by rcases h with rfl | rfl <;> rfl
theorem q_out (v : cM) (k : Nat → Nat → Int32) (t : Int32) (h0 : rg (mg8 v 0) 79) (h1 : rg (mg8 v 1) 79) : ∀ j : Nat, j < 10 → m_B_outputNow (nI j) (ph v k t) = m_M_value (nI j) v := by
  intro j hj
  have l0 := q_lit 0 v k t h0
  have l1 := q_lit 1 v k t h1
  have b0 := q_bit (q_lit01 0 v)
  have b1 := q_bit (q_lit01 1 v)
  have c0 := q_out8 (q_lit01 0 v)
  have c1 := q_out8 (q_lit01 1 v)
  have e33 : nI 3 - 3 = 0 := by decide
  have e43 : nI 4 - 3 = 1 := by decide
  have e88 : nI 8 - 8 = 0 := by decide
  have e98 : nI 9 - 8 = 1 := by decide
  have hj : j = 0 ∨ j = 1 ∨ j = 2 ∨ j = 3 ∨ j = 4 ∨ j = 5 ∨ j = 6 ∨ j = 7 ∨ j = 8 ∨ j = 9 := by omega
  rcases hj with rfl | rfl | rfl | rfl | rfl | rfl | rfl | rfl | rfl | rfl
  · rw [u_out_0, v_def, v_0_0_0, v_1_0_0, v_1_1_0, q_park, q_low]
    by_cases a : mg1 v 0 = 2 <;> by_cases b : mg1 v 0 = 3 <;> by_cases c : mg2 v = 0 <;> by_cases d : mg1 v 5 = 1 <;> by_cases f : mg3 v = 0 <;> by_cases g : mg1 v 0 = 1 <;> simp [a, b, c, d, f, g, bit0, bit1]
  · rw [u_out_1, v_def, v_0_0_1, v_1_0_1, v_1_1_1, q_llit, q_low]
    by_cases a : mg1 v 0 = 2 <;> by_cases b : mg1 v 0 = 3 <;> by_cases c : mg2 v = 0 <;> by_cases d : mg1 v 5 = 1 <;> simp [a, b, c, d, bit0, bit1]
  · rw [u_out_2, v_def, v_0_0_2, v_1_0_2, v_1_1_2, q_llit, q_low]
    by_cases a : mg1 v 0 = 2 <;> by_cases b : mg1 v 0 = 3 <;> by_cases c : mg2 v = 0 <;> by_cases d : mg1 v 5 = 1 <;> by_cases f : mg1 v 6 = 1 <;> simp [a, b, c, d, f, bit0, bit1]
  · rw [u_out_3, v_def, v_0_0_3, v_1_0_3, v_1_1_3, e33, l0, b0]
    simp only [ite_self]
  · rw [u_out_4, v_def, v_0_0_4, v_1_0_4, v_1_1_4, e43, l1, b1]
    simp only [ite_self]
  · rw [u_out_5, v_def, v_0_0_5, v_1_0_5, v_1_1_5]
    simp only [ite_self]
  · rw [u_out_6, v_def, v_0_0_6, v_1_0_6, v_1_1_6]
    simp only [ite_self]
  · rw [u_out_7, v_def, v_0_0_7, v_1_0_7, v_1_1_7]
    simp only [ite_self]
  · rw [u_out_8, v_def, v_0_0_8, v_1_0_8, v_1_1_8, e88, l0, c0]
    simp only [ite_self, bit0]
  · rw [u_out_9, v_def, v_0_0_9, v_1_0_9, v_1_1_9, e98, l1, c1]
    simp only [ite_self, bit0]
