theorem r_bulb {u : cB} {v : cM} (h : RV u v) (p q : Int32) : (m_B_bulb p q u).1 = (m_M_bulb p q v).1 ∧ RV (m_B_bulb p q u).2 (m_M_bulb p q v).2 := by
  obtain ⟨hI, k, rfl, hk⟩ := h
  have hb : m_B_isBelow p 6 = m_M_within p 0 5 := ab_be 5 (by decide)
  by_cases c : m_M_within p 0 5 = 0
  · have e1 : m_B_bulb p q (ph v k (mg6 v)) = (-1, ph v k (mg6 v)) := if_pos (hb.trans c)
    have e2 : m_M_bulb p q v = (-1, ms0 v 0) := if_pos c
    rw [e1, e2]
    exact ⟨rfl, hI, k, rfl, hk⟩
  · have key : ∀ x : Int32, z01 x → RV (ph (ms10 v (upd (mg10 v) p.toNatClampNeg x)) k (mg6 v)) (ms10 (ms0 v 0) (upd (mg10 v) p.toNatClampNeg x)) := by
      intro x hx
      refine ⟨⟨hI.1, hI.2.1, hI.2.2.1, hI.2.2.2.1, hI.2.2.2.2.1, hI.2.2.2.2.2.1, ?_, hI.2.2.2.2.2.2.2⟩, k, rfl, hk⟩
      intro j
      show z01 (upd (mg10 v) p.toNatClampNeg x j)
      by_cases e : j = p.toNatClampNeg
      · rw [e, upd_at]
        exact hx
      · rw [upd_ne _ _ e]
        exact hI.2.2.2.2.2.2.1 j
    by_cases d : q = 0
    · have e1 : m_B_bulb p q (ph v k (mg6 v)) = if upd (mg10 v) p.toNatClampNeg 1 (k_subst p.toNatClampNeg).toNatClampNeg = 0 then (k_subst p.toNatClampNeg + 1, ph (ms10 v (upd (mg10 v) p.toNatClampNeg 1)) k (mg6 v)) else (0, ph (ms10 v (upd (mg10 v) p.toNatClampNeg 1)) k (mg6 v)) := (if_neg (fun z => c (hb.symm.trans z))).trans ((if_pos d).trans ((if_pos d).trans rfl))
      have e2 : ∃ o : Int32, o = k_subst p.toNatClampNeg ∧ m_M_bulb p q v = if upd (mg10 v) p.toNatClampNeg 1 o.toNatClampNeg = 0 then (o + 1, ms10 (ms0 v 0) (upd (mg10 v) p.toNatClampNeg 1)) else (0, ms10 (ms0 v 0) (upd (mg10 v) p.toNatClampNeg 1)) := by
        rcases hk_w6 c with rfl | rfl | rfl | rfl | rfl | rfl
        · exact ⟨0 + 1, by decide, (if_neg c).trans ((if_pos d).trans ((if_pos (by decide)).trans ((if_pos (by decide)).trans ((if_pos d).trans rfl))))⟩
        · exact ⟨1 - 1, by decide, (if_neg c).trans ((if_pos d).trans ((if_pos (by decide)).trans ((if_neg (by decide)).trans ((if_pos d).trans rfl))))⟩
        · exact ⟨2 + 1, by decide, (if_neg c).trans ((if_pos d).trans ((if_pos (by decide)).trans ((if_pos (by decide)).trans ((if_pos d).trans rfl))))⟩
        · exact ⟨3 - 1, by decide, (if_neg c).trans ((if_pos d).trans ((if_pos (by decide)).trans ((if_neg (by decide)).trans ((if_pos d).trans rfl))))⟩
        · exact ⟨4 - 4, by decide, (if_neg c).trans ((if_pos d).trans ((if_neg (by decide)).trans ((if_pos d).trans rfl)))⟩
        · exact ⟨5 - 4, by decide, (if_neg c).trans ((if_pos d).trans ((if_neg (by decide)).trans ((if_pos d).trans rfl)))⟩
      obtain ⟨o, ho, e2⟩ := e2
      subst ho
      rw [e1, e2]
      by_cases f : upd (mg10 v) p.toNatClampNeg 1 (k_subst p.toNatClampNeg).toNatClampNeg = 0
      · rw [if_pos f, if_pos f]
        exact ⟨rfl, key 1 (Or.inr rfl)⟩
      · rw [if_neg f, if_neg f]
        exact ⟨rfl, key 1 (Or.inr rfl)⟩
    · have e1 : m_B_bulb p q (ph v k (mg6 v)) = (0, ph (ms10 v (upd (mg10 v) p.toNatClampNeg 0)) k (mg6 v)) := (if_neg (fun z => c (hb.symm.trans z))).trans ((if_neg d).trans ((if_neg d).trans rfl))
      have e2 : m_M_bulb p q v = (0, ms10 (ms0 v 0) (upd (mg10 v) p.toNatClampNeg 0)) := by
        refine (if_neg c).trans ((if_neg d).trans ?_)
        by_cases a : p ≤ 3
        · refine (if_pos a).trans ?_
          by_cases b : p - p / 2 * 2 = 0
          · exact (if_pos b).trans ((if_neg d).trans rfl)
          · exact (if_neg b).trans ((if_neg d).trans rfl)
        · exact (if_neg a).trans ((if_neg d).trans rfl)
      rw [e1, e2]
      exact ⟨rfl, key 0 (Or.inl rfl)⟩
