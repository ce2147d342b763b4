theorem r_window {u : cB} {v : cM} (h : RV u v) (p q : Int32) : (m_B_window p q u).1 = (m_M_window p q v).1 ∧ RV (m_B_window p q u).2 (m_M_window p q v).2 := by
  obtain ⟨hI, k, rfl, hk⟩ := h
  by_cases c : m_M_isWindow p = 0
  · have e1 : m_B_window p q (ph v k (mg6 v)) = (-1, ph v k (mg6 v)) := if_pos ((ab4 p).trans c)
    have e2 : m_M_window p q v = (-1, ms0 v 0) := if_pos c
    rw [e1, e2]
    exact ⟨rfl, hI, k, rfl, hk⟩
  · by_cases d : m_M_within q 0 200 = 0
    · have e1 : m_B_window p q (ph v k (mg6 v)) = (-2, ph v k (mg6 v)) := (if_neg (fun z => c ((ab4 p).symm.trans z))).trans (if_pos d)
      have e2 : m_M_window p q v = (-2, ms0 v 0) := (if_neg c).trans (if_pos d)
      rw [e1, e2]
      exact ⟨rfl, hI, k, rfl, hk⟩
    · have e1 : m_B_window p q (ph v k (mg6 v)) = (m_Window_ticksToWish (b5 (f_B_window_30 p q (ph v k (mg6 v))) p.toNatClampNeg), f_B_window_30 p q (ph v k (mg6 v))) := (if_neg (fun z => c ((ab4 p).symm.trans z))).trans (if_neg d)
      have ef : f_B_window_30 p q (ph v k (mg6 v)) = ph (ms16 v (upd (mg16 v) p.toNatClampNeg q)) k (mg6 v) := w5R k (mg6 v) p.toNatClampNeg q
      have eb : b5 (ph (ms16 v (upd (mg16 v) p.toNatClampNeg q)) k (mg6 v)) p.toNatClampNeg = (mg15 v p.toNatClampNeg, q, mg17 v p.toNatClampNeg) := by
        show (mg15 v p.toNatClampNeg, upd (mg16 v) p.toNatClampNeg q p.toNatClampNeg, mg17 v p.toNatClampNeg) = _
        rw [upd_at]
      have et : m_Window_ticksToWish (mg15 v p.toNatClampNeg, q, mg17 v p.toNatClampNeg) = if mg17 v p.toNatClampNeg = 0 then ab (q - mg15 v p.toNatClampNeg) else (ab (q - mg15 v p.toNatClampNeg) + 1) / 2 := rfl
      have e2 : m_M_window p q v = if q ≤ mg15 v p.toNatClampNeg then (if mg17 v p.toNatClampNeg = 0 then (mg15 v p.toNatClampNeg - q, ms16 (ms0 v 0) (upd (mg16 v) p.toNatClampNeg q)) else ((mg15 v p.toNatClampNeg - q + 1) / 2, ms16 (ms0 v 0) (upd (mg16 v) p.toNatClampNeg q))) else (if mg17 v p.toNatClampNeg = 0 then (q - mg15 v p.toNatClampNeg, ms16 (ms0 v 0) (upd (mg16 v) p.toNatClampNeg q)) else ((q - mg15 v p.toNatClampNeg + 1) / 2, ms16 (ms0 v 0) (upd (mg16 v) p.toNatClampNeg q))) := (if_neg c).trans ((if_neg d).trans rfl)
      obtain ⟨j, hj, hq⟩ := hk_wl d (N := 200) rfl (by decide)
      have hqr : rg q 200 := ⟨j, hj, hq⟩
      have hR : RV (ph (ms16 v (upd (mg16 v) p.toNatClampNeg q)) k (mg6 v)) (ms16 (ms0 v 0) (upd (mg16 v) p.toNatClampNeg q)) := ⟨inv16 hI _ q hqr, k, rfl, hk⟩
      rw [e1, ef, eb, et, e2]
      have hx := (hI.2.2.2.2.2.1 _ (win_ix c)).1
      obtain ⟨x0, x1⟩ := rg_i (by decide) hx
      obtain ⟨y0, y1⟩ := rg_i (by decide) hqr
      have es : (q - mg15 v p.toNatClampNeg).toInt = q.toInt - (mg15 v p.toNatClampNeg).toInt := hi_sub (by omega) (by omega)
      have es2 : (mg15 v p.toNatClampNeg - q).toInt = (mg15 v p.toNatClampNeg).toInt - q.toInt := hi_sub (by omega) (by omega)
      have l0 : (0 : Int32).toInt = 0 := rfl
      by_cases c1 : q ≤ mg15 v p.toNatClampNeg
      · have ea : ab (q - mg15 v p.toNatClampNeg) = mg15 v p.toNatClampNeg - q := by
          rw [Int32.le_iff_toInt_le] at c1
          unfold ab
          by_cases a : 0 ≤ q - mg15 v p.toNatClampNeg
          · rw [if_pos a]
            rw [Int32.le_iff_toInt_le] at a
            exact Int32.toInt_inj.mp (by omega)
          · rw [if_neg a]
            exact Int32.toInt_inj.mp (by rw [hi_sub (by omega) (by omega)]; omega)
        rw [ea, if_pos c1]
        by_cases l : mg17 v p.toNatClampNeg = 0
        · rw [if_pos l, if_pos l]
          exact ⟨rfl, hR⟩
        · rw [if_neg l, if_neg l]
          exact ⟨rfl, hR⟩
      · have ea : ab (q - mg15 v p.toNatClampNeg) = q - mg15 v p.toNatClampNeg := by
          rw [Int32.le_iff_toInt_le] at c1
          unfold ab
          rw [if_pos (by rw [Int32.le_iff_toInt_le]; omega)]
        rw [ea, if_neg c1]
        by_cases l : mg17 v p.toNatClampNeg = 0
        · rw [if_pos l, if_pos l]
          exact ⟨rfl, hR⟩
        · rw [if_neg l, if_neg l]
          exact ⟨rfl, hR⟩
