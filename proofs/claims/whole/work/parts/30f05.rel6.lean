theorem r_state {u : cB} {v : cM} (h : RV u v) (p : Int32) : m_B_state p u = (m_M_state p v).1 ∧ RV u (m_M_state p v).2 := by
  obtain ⟨hI, k, rfl, hk⟩ := h
  by_cases c : m_M_within p 0 9 = 0
  · have e2 : m_M_state p v = (-2, ms0 v 0) := if_pos c
    have n : ∀ j : Nat, j < 10 → ¬ p = nI j := by
      intro j hj e
      rw [e] at c
      exact absurd c (fun z => by
        have hd : j = 0 ∨ j = 1 ∨ j = 2 ∨ j = 3 ∨ j = 4 ∨ j = 5 ∨ j = 6 ∨ j = 7 ∨ j = 8 ∨ j = 9 := by omega
        rcases hd with rfl | rfl | rfl | rfl | rfl | rfl | rfl | rfl | rfl | rfl <;> exact absurd z (by decide))
    have e1 : m_B_state p (ph v k (mg6 v)) = -2 := (if_neg (n 0 (by decide))).trans ((if_neg (n 1 (by decide))).trans ((if_neg (n 2 (by decide))).trans ((if_neg (n 3 (by decide))).trans ((if_neg (n 4 (by decide))).trans ((if_neg (n 5 (by decide))).trans ((if_neg (n 6 (by decide))).trans ((if_neg (n 7 (by decide))).trans ((if_neg (n 8 (by decide))).trans (if_neg (n 9 (by decide)))))))))))
    rw [e1, e2]
    exact ⟨rfl, hI, k, rfl, hk⟩
  · have r0 : RV (ph v k (mg6 v)) (ms0 v 0) := ⟨hI, k, rfl, hk⟩
    rcases hk_w10 c with rfl | rfl | rfl | rfl | rfl | rfl | rfl | rfl | rfl | rfl
    · have e1 : m_B_state 0 (ph v k (mg6 v)) = mg15 v 0 := (if_pos (by decide)).trans rfl
      have e2 : m_M_state 0 v = (mg15 v 0, ms0 v 0) := (if_neg c).trans ((if_neg (by decide)).trans rfl)
      rw [e1, e2]
      exact ⟨rfl, r0⟩
    · have e1 : m_B_state 1 (ph v k (mg6 v)) = mg15 v 1 := (if_neg (by decide)).trans ((if_pos (by decide)).trans rfl)
      have e2 : m_M_state 1 v = (mg15 v 1, ms0 v 0) := (if_neg c).trans ((if_neg (by decide)).trans rfl)
      rw [e1, e2]
      exact ⟨rfl, r0⟩
    · have e1 : m_B_state 2 (ph v k (mg6 v)) = mg15 v 2 := (if_neg (by decide)).trans ((if_neg (by decide)).trans ((if_pos (by decide)).trans rfl))
      have e2 : m_M_state 2 v = (mg15 v 2, ms0 v 0) := (if_neg c).trans ((if_neg (by decide)).trans rfl)
      rw [e1, e2]
      exact ⟨rfl, r0⟩
    · have e1 : m_B_state 3 (ph v k (mg6 v)) = mg15 v 3 := (if_neg (by decide)).trans ((if_neg (by decide)).trans ((if_neg (by decide)).trans ((if_pos (by decide)).trans rfl)))
      have e2 : m_M_state 3 v = (mg15 v 3, ms0 v 0) := (if_neg c).trans ((if_neg (by decide)).trans rfl)
      rw [e1, e2]
      exact ⟨rfl, r0⟩
    · have e1 : m_B_state 4 (ph v k (mg6 v)) = mg11 v := (if_neg (by decide)).trans ((if_neg (by decide)).trans ((if_neg (by decide)).trans ((if_neg (by decide)).trans ((if_pos (by decide)).trans rfl))))
      have e2 : m_M_state 4 v = (mg11 v, ms0 v 0) := (if_neg c).trans ((if_pos (by decide)).trans ((if_pos (by decide)).trans rfl))
      rw [e1, e2]
      exact ⟨rfl, r0⟩
    · have e1 : m_B_state 5 (ph v k (mg6 v)) = mg12 v := (if_neg (by decide)).trans ((if_neg (by decide)).trans ((if_neg (by decide)).trans ((if_neg (by decide)).trans ((if_neg (by decide)).trans ((if_pos (by decide)).trans rfl)))))
      have e2 : m_M_state 5 v = (mg12 v, ms0 v 0) := (if_neg c).trans ((if_pos (by decide)).trans ((if_neg (by decide)).trans ((if_pos (by decide)).trans rfl)))
      rw [e1, e2]
      exact ⟨rfl, r0⟩
    · have e1 : m_B_state 6 (ph v k (mg6 v)) = mg9 v (6 - 6 : Int32).toNatClampNeg := (if_neg (by decide)).trans ((if_neg (by decide)).trans ((if_neg (by decide)).trans ((if_neg (by decide)).trans ((if_neg (by decide)).trans ((if_neg (by decide)).trans ((if_pos (by decide)).trans rfl))))))
      have e2 : m_M_state 6 v = (mg9 v (6 - 6 : Int32).toNatClampNeg, ms0 v 0) := (if_neg c).trans ((if_pos (by decide)).trans ((if_neg (by decide)).trans ((if_neg (by decide)).trans ((if_neg (by decide)).trans rfl))))
      rw [e1, e2]
      exact ⟨rfl, r0⟩
    · have e1 : m_B_state 7 (ph v k (mg6 v)) = mg9 v (7 - 6 : Int32).toNatClampNeg := (if_neg (by decide)).trans ((if_neg (by decide)).trans ((if_neg (by decide)).trans ((if_neg (by decide)).trans ((if_neg (by decide)).trans ((if_neg (by decide)).trans ((if_neg (by decide)).trans ((if_pos (by decide)).trans rfl)))))))
      have e2 : m_M_state 7 v = (mg9 v (7 - 6 : Int32).toNatClampNeg, ms0 v 0) := (if_neg c).trans ((if_pos (by decide)).trans ((if_neg (by decide)).trans ((if_neg (by decide)).trans ((if_neg (by decide)).trans rfl))))
      rw [e1, e2]
      exact ⟨rfl, r0⟩
    · have e1 : m_B_state 8 (ph v k (mg6 v)) = m_B_bit (mg2 v) := (if_neg (by decide)).trans ((if_neg (by decide)).trans ((if_neg (by decide)).trans ((if_neg (by decide)).trans ((if_neg (by decide)).trans ((if_neg (by decide)).trans ((if_neg (by decide)).trans ((if_neg (by decide)).trans ((if_pos (by decide)).trans rfl))))))))
      have e2 : m_M_state 8 v = if mg2 v = 0 then (0, ms0 v 0) else (1, ms0 v 0) := (if_neg c).trans ((if_pos (by decide)).trans ((if_neg (by decide)).trans ((if_neg (by decide)).trans ((if_pos (by decide)).trans ((if_pos (by decide)).trans rfl)))))
      rw [e1, e2]
      rcases hI.2.1 with z | z
      · rw [z]
        exact ⟨rfl, r0⟩
      · rw [z]
        exact ⟨rfl, r0⟩
    · have e1 : m_B_state 9 (ph v k (mg6 v)) = mg6 v := (if_neg (by decide)).trans ((if_neg (by decide)).trans ((if_neg (by decide)).trans ((if_neg (by decide)).trans ((if_neg (by decide)).trans ((if_neg (by decide)).trans ((if_neg (by decide)).trans ((if_neg (by decide)).trans ((if_neg (by decide)).trans ((if_pos (by decide)).trans rfl)))))))))
      have e2 : m_M_state 9 v = (mg6 v, ms0 v 0) := (if_neg c).trans ((if_pos (by decide)).trans ((if_neg (by decide)).trans ((if_neg (by decide)).trans ((if_pos (by decide)).trans ((if_neg (by decide)).trans rfl)))))
      rw [e1, e2]
      exact ⟨rfl, r0⟩
