theorem r_pinch {u : cB} {v : cM} (h : RV u v) (p q : Int32) : (m_B_pinch p q u).1 = (m_M_pinch p q v).1 ∧ RV (m_B_pinch p q u).2 (m_M_pinch p q v).2 := by
  obtain ⟨hI, k, rfl, hk⟩ := h
  by_cases c : m_M_isWindow p = 0
  · have e1 : m_B_pinch p q (ph v k (mg6 v)) = (-1, ph v k (mg6 v)) := if_pos ((ab4 p).trans c)
    have e2 : m_M_pinch p q v = (-1, ms0 v 0) := if_pos c
    rw [e1, e2]
    exact ⟨rfl, hI, k, rfl, hk⟩
  · by_cases d : m_M_within q 0 1000 = 0
    · have e1 : m_B_pinch p q (ph v k (mg6 v)) = (-2, ph v k (mg6 v)) := (if_neg (fun z => c ((ab4 p).symm.trans z))).trans (if_pos d)
      have e2 : m_M_pinch p q v = (-2, ms0 v 0) := (if_neg c).trans (if_pos d)
      rw [e1, e2]
      exact ⟨rfl, hI, k, rfl, hk⟩
    · have e1 : m_B_pinch p q (ph v k (mg6 v)) = (m_B_bit ((m_Window_reverseAt q (b5 (ph v k (mg6 v)) p.toNatClampNeg)).1), f_B_pinch_30 p q (ph v k (mg6 v))) := (if_neg (fun z => c ((ab4 p).symm.trans z))).trans (if_neg d)
      have e2 : m_M_pinch p q v = if mg16 v p.toNatClampNeg ≤ mg15 v p.toNatClampNeg then ((0 : Int32), ms0 v 0) else (if 100 < q then (if mg15 v p.toNatClampNeg ≤ 60 then ((1 : Int32), ms16 (ms0 v 0) (upd (mg16 v) p.toNatClampNeg 0)) else ((1 : Int32), ms16 (ms0 v 0) (upd (mg16 v) p.toNatClampNeg (mg15 v p.toNatClampNeg - 60)))) else ((0 : Int32), ms0 v 0)) := (if_neg c).trans ((if_neg d).trans rfl)
      have er : m_Window_reverseAt q (b5 (ph v k (mg6 v)) p.toNatClampNeg) = if mg16 v p.toNatClampNeg ≤ mg15 v p.toNatClampNeg then ((0 : Int32), ((mg15 v p.toNatClampNeg, mg16 v p.toNatClampNeg, mg17 v p.toNatClampNeg) : cS)) else (if 100 < q then ((1 : Int32), ((mg15 v p.toNatClampNeg, mx (mg15 v p.toNatClampNeg - 60) 0, mg17 v p.toNatClampNeg) : cS)) else ((0 : Int32), ((mg15 v p.toNatClampNeg, mg16 v p.toNatClampNeg, mg17 v p.toNatClampNeg) : cS))) := rfl
      have ef : f_B_pinch_30 p q (ph v k (mg6 v)) = s5 (ph v k (mg6 v)) (va_up (b5 (ph v k (mg6 v))) p.toNatClampNeg ((m_Window_reverseAt q (b5 (ph v k (mg6 v)) p.toNatClampNeg)).2)) := rfl
      rw [e1, e2, ef, er]
      have hx := (hI.2.2.2.2.2.1 _ (win_ix c)).1
      by_cases c1 : mg16 v p.toNatClampNeg ≤ mg15 v p.toNatClampNeg
      · rw [if_pos c1, if_pos c1]
        refine ⟨rfl, ?_⟩
        dsimp only
        rw [w5R, upd_id]
        exact ⟨hI, k, rfl, hk⟩
      · rw [if_neg c1, if_neg c1]
        by_cases c2 : 100 < q
        · rw [if_pos c2, if_pos c2]
          dsimp only
          rw [w5R]
          have key : ∀ b : Int32, rg b 200 → RV (ph (ms16 v (upd (mg16 v) p.toNatClampNeg b)) k (mg6 v)) (ms16 (ms0 v 0) (upd (mg16 v) p.toNatClampNeg b)) := fun b hb => ⟨inv16 hI _ b hb, k, rfl, hk⟩
          obtain ⟨x0, x1⟩ := rg_i (by decide) hx
          have l60 : (60 : Int32).toInt = 60 := rfl
          have l0 : (0 : Int32).toInt = 0 := rfl
          have es : (mg15 v p.toNatClampNeg - 60).toInt = (mg15 v p.toNatClampNeg).toInt - 60 := by rw [hi_sub (by omega) (by omega), l60]
          by_cases c3 : mg15 v p.toNatClampNeg ≤ 60
          · rw [if_pos c3]
            have em : mx (mg15 v p.toNatClampNeg - 60) 0 = 0 := by
              unfold mx
              rw [Int32.le_iff_toInt_le] at c3
              by_cases a : mg15 v p.toNatClampNeg - 60 < 0
              · rw [if_pos a]
              · rw [if_neg a]
                rw [Int32.lt_iff_toInt_lt] at a
                exact Int32.toInt_inj.mp (by omega)
            rw [em]
            exact ⟨rfl, key 0 ⟨0, by omega, rfl⟩⟩
          · rw [if_neg c3]
            rw [Int32.le_iff_toInt_le] at c3
            have em : mx (mg15 v p.toNatClampNeg - 60) 0 = mg15 v p.toNatClampNeg - 60 := by
              unfold mx
              rw [if_neg (by rw [Int32.lt_iff_toInt_lt]; omega)]
            rw [em]
            exact ⟨rfl, key _ (rg_of (by omega) (by omega))⟩
        · rw [if_neg c2, if_neg c2]
          refine ⟨rfl, ?_⟩
          dsimp only
          rw [w5R, upd_id]
          exact ⟨hI, k, rfl, hk⟩
theorem w5L {v : cM} (k : Nat → Nat → Int32) (t : Int32) (i : Nat) (b : Int32) : s5 (ph v k t) (va_up (b5 (ph v k t)) i (mg15 v i, mg16 v i, b)) = ph (ms17 v (upd (mg17 v) i b)) k t := by
  rw [w5, upd_id, upd_id]
  rfl
