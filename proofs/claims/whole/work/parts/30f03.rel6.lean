theorem r_memory {u : cB} {v : cM} (h : RV u v) (p q r : Int32) : (m_B_memory p q r u).1 = (m_M_memory p q r v).1 ∧ RV (m_B_memory p q r u).2 (m_M_memory p q r v).2 := by
  rw [b_mem_def, m_mem_def, show m_B_isBelow p 4 = m_M_within p 0 3 from ab_be 3 (by decide), show m_B_isBelow q 5 = m_M_within q 0 4 from ab_be 4 (by decide)]
  by_cases a : m_M_within p 0 3 = 0
  · rw [if_pos a, if_pos a]
    exact ⟨rfl, h.z 0⟩
  rw [if_neg a, if_neg a]
  by_cases b : m_M_within q 0 4 = 0
  · rw [if_pos b, if_pos b]
    exact ⟨rfl, h.z 0⟩
  rw [if_neg b, if_neg b]
  by_cases c : m_M_within r 0 1 = 0
  · rw [if_pos c, if_pos c]
    exact ⟨rfl, h.z 0⟩
  rw [if_neg c, if_neg c]
  obtain ⟨i, hi, rfl⟩ := hk_wl a (N := 3) rfl (by decide)
  obtain ⟨j, hj, rfl⟩ := hk_wl b (N := 4) rfl (by decide)
  obtain ⟨hI, k, rfl, hk⟩ := h
  have ci : (nI i).toNatClampNeg = i := nI_clamp (by omega)
  have cj : (nI j).toNatClampNeg = j := nI_clamp (by omega)
  rw [ix5 (by omega) (by omega), ci, cj]
  have q4 : nI j = 4 ↔ j = 4 := by
    rw [show (4 : Int32) = nI 4 from rfl, nI_eq (by omega) (by omega)]
  have q4l : (4 : Int32) ≤ nI j ↔ j = 4 := by
    rw [show (4 : Int32) = nI 4 from rfl, nI_leI (by omega) (by omega)]
    omega
  by_cases d : r = 0
  · rw [if_pos d, if_pos d]
    by_cases e : j = 4
    · rw [if_pos (q4l.mpr e), if_pos (q4.mpr e)]
      obtain ⟨i1, i2⟩ := q_put hI hk (i := i) (j := j) (by omega) (by omega) (mg14 v) (by rw [if_pos e]; exact hI.2.2.2.2.1)
      have f1 : f_B_memory_61 (nI i) (nI j) (ph v k (mg6 v)) = ph (ms24 (ms0 v 0) (upd (mg24 v) (5 * i + j) (mg14 v))) (va_up k i (upd (k i) j (mg14 v))) (mg6 v) := by
        have e0 : f_B_memory_61 (nI i) (nI j) (ph v k (mg6 v)) = s7 (ph v k (mg6 v)) (va_up k (nI i).toNatClampNeg (upd (k (nI i).toNatClampNeg) (nI j).toNatClampNeg (mg14 v))) := rfl
        rw [e0, ci, cj]
        rfl
      rw [f1]
      refine ⟨?_, i1, _, rfl, i2⟩
      exact i2 i j (by omega) (by omega)
    · rw [if_neg (fun z => e (q4l.mp z)), if_neg (fun z => e (q4.mp z))]
      obtain ⟨i1, i2⟩ := q_put hI hk (i := i) (j := j) (by omega) (by omega) (mg16 v j) (by rw [if_neg e]; exact (hI.2.2.2.2.2.1 j (by omega)).2)
      have f1 : f_B_memory_61_1 (nI i) (nI j) (ph v k (mg6 v)) = ph (ms24 (ms0 v 0) (upd (mg24 v) (5 * i + j) (mg16 v j))) (va_up k i (upd (k i) j (mg16 v j))) (mg6 v) := by
        have e0 : f_B_memory_61_1 (nI i) (nI j) (ph v k (mg6 v)) = s7 (ph v k (mg6 v)) (va_up k (nI i).toNatClampNeg (upd (k (nI i).toNatClampNeg) (nI j).toNatClampNeg (mg16 v (nI j).toNatClampNeg))) := rfl
        rw [e0, ci, cj]
        rfl
      rw [f1]
      refine ⟨?_, i1, _, rfl, i2⟩
      exact i2 i j (by omega) (by omega)
  · rw [if_neg d, if_neg d]
    have ek : b7 (ph v k (mg6 v)) i j = mg24 v (5 * i + j) := hk i j (by omega) (by omega)
    rw [ek, give_def]
    rcases hI.2.2.2.2.2.2.2.2 i j (by omega) (by omega) with e | e
    · rw [if_pos e, if_pos (by rw [e]; decide)]
      exact ⟨ek, hI, k, rfl, hk⟩
    · obtain ⟨n, hn, hne⟩ := e
      have hn2 : n ≤ 200 := by
        by_cases e4 : j = 4
        · rw [if_pos e4] at hn
          omega
        · rw [if_neg e4] at hn
          exact hn
      have h1 : ¬ mg24 v (5 * i + j) = -1 := by
        rw [hne]
        exact nI_nm1 (by omega)
      have h2 : ¬ mg24 v (5 * i + j) < 0 := by
        rw [hne]
        exact nI_pos (by omega)
      rw [if_neg h1, if_neg h2]
      rw [show m_B_isBelow (nI j) 4 = m_M_within (nI j) 0 3 from ab_be 3 (by decide)]
      by_cases e4 : j = 4
      · rw [if_pos (q4.mpr e4)]
        have w0 : m_M_within (nI j) 0 3 = 0 := by rw [e4]; decide
        rw [if_pos w0]
        refine ⟨ek, ⟨hI.1, hI.2.1, hI.2.2.1, hI.2.2.2.1, ?_, hI.2.2.2.2.2⟩, k, rfl, hk⟩
        show rg (mg24 v (5 * i + j)) 100
        rw [if_pos e4] at hn
        rw [hne]
        exact rg_nI hn
      · rw [if_neg (fun z => e4 (q4.mp z))]
        have w0 : ¬ m_M_within (nI j) 0 3 = 0 := by
          have hj : j = 0 ∨ j = 1 ∨ j = 2 ∨ j = 3 := by omega
          rcases hj with rfl | rfl | rfl | rfl <;> decide
        rw [if_neg w0, cj]
        have e1 : (b5 (ph v k (mg6 v)) j).1 = mg15 v j := rfl
        have e2 : (b5 (ph v k (mg6 v)) j).2.2 = mg17 v j := rfl
        rw [e1, e2, w5R]
        refine ⟨ek, inv16 hI j _ ?_, k, rfl, hk⟩
        rw [hne]
        exact rg_nI hn2
