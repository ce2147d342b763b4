theorem r_learn {u : cB} {v : cM} (h : RV u v) (p : Int32) : (m_B_learn p u).1 = (m_M_learn p v).1 ∧ RV (m_B_learn p u).2 (m_M_learn p v).2 := by
  obtain ⟨hI, k, rfl, hk⟩ := h
  by_cases c : m_M_isWindow p = 0
  · have e1 : m_B_learn p (ph v k (mg6 v)) = (-1, ph v k (mg6 v)) := if_pos ((ab4 p).trans c)
    have e2 : m_M_learn p v = (-1, ms0 v 0) := if_pos c
    rw [e1, e2]
    exact ⟨rfl, hI, k, rfl, hk⟩
  · have e1 : m_B_learn p (ph v k (mg6 v)) = (m_B_bit ((m_Window_learnAtEnd (b5 (ph v k (mg6 v)) p.toNatClampNeg)).1), s5 (ph v k (mg6 v)) (va_up (b5 (ph v k (mg6 v))) p.toNatClampNeg ((m_Window_learnAtEnd (b5 (ph v k (mg6 v)) p.toNatClampNeg)).2))) := (if_neg (fun z => c ((ab4 p).symm.trans z))).trans rfl
    have el : m_Window_learnAtEnd (b5 (ph v k (mg6 v)) p.toNatClampNeg) = if mg15 v p.toNatClampNeg = mg16 v p.toNatClampNeg then (if mg15 v p.toNatClampNeg = 0 then (if mg17 v p.toNatClampNeg = 0 then ((1 : Int32), ((mg15 v p.toNatClampNeg, mg16 v p.toNatClampNeg, 1) : cS)) else ((1 : Int32), ((mg15 v p.toNatClampNeg, mg16 v p.toNatClampNeg, 1) : cS))) else (if mg15 v p.toNatClampNeg = 200 then (if mg17 v p.toNatClampNeg = 0 then ((1 : Int32), ((mg15 v p.toNatClampNeg, mg16 v p.toNatClampNeg, 1) : cS)) else ((1 : Int32), ((mg15 v p.toNatClampNeg, mg16 v p.toNatClampNeg, 1) : cS))) else (if mg17 v p.toNatClampNeg = 0 then ((0 : Int32), ((mg15 v p.toNatClampNeg, mg16 v p.toNatClampNeg, 0) : cS)) else ((0 : Int32), ((mg15 v p.toNatClampNeg, mg16 v p.toNatClampNeg, 1) : cS))))) else (if mg17 v p.toNatClampNeg = 0 then ((0 : Int32), ((mg15 v p.toNatClampNeg, mg16 v p.toNatClampNeg, 0) : cS)) else ((0 : Int32), ((mg15 v p.toNatClampNeg, mg16 v p.toNatClampNeg, 1) : cS))) := rfl
    have e2 : m_M_learn p v = if mg15 v p.toNatClampNeg = mg16 v p.toNatClampNeg then (if mg15 v p.toNatClampNeg = 0 then (if mg17 v p.toNatClampNeg = 0 then ((1 : Int32), ms17 (ms0 v 0) (upd (mg17 v) p.toNatClampNeg 1)) else ((1 : Int32), ms17 (ms0 v 0) (upd (mg17 v) p.toNatClampNeg 1))) else (if mg15 v p.toNatClampNeg = 200 then (if mg17 v p.toNatClampNeg = 0 then ((1 : Int32), ms17 (ms0 v 0) (upd (mg17 v) p.toNatClampNeg 1)) else ((1 : Int32), ms17 (ms0 v 0) (upd (mg17 v) p.toNatClampNeg 1))) else (if mg17 v p.toNatClampNeg = 0 then ((0 : Int32), ms17 (ms0 v 0) (upd (mg17 v) p.toNatClampNeg 0)) else ((0 : Int32), ms17 (ms0 v 0) (upd (mg17 v) p.toNatClampNeg 1))))) else (if mg17 v p.toNatClampNeg = 0 then ((0 : Int32), ms17 (ms0 v 0) (upd (mg17 v) p.toNatClampNeg 0)) else ((0 : Int32), ms17 (ms0 v 0) (upd (mg17 v) p.toNatClampNeg 1))) := (if_neg c).trans rfl
    have key : ∀ b : Int32, RV (s5 (ph v k (mg6 v)) (va_up (b5 (ph v k (mg6 v))) p.toNatClampNeg (mg15 v p.toNatClampNeg, mg16 v p.toNatClampNeg, b))) (ms17 (ms0 v 0) (upd (mg17 v) p.toNatClampNeg b)) := by
      intro b
      rw [w5L]
      exact ⟨hI, k, rfl, hk⟩
    rw [e1, e2, el]
    repeat' split
    all_goals exact ⟨rfl, key _⟩
