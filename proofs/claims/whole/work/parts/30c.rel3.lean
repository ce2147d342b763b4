/-! REL3: each call of both -/
theorem RV.z {u : cB} {v : cM} (h : RV u v) (x : Int32) : RV u (ms0 v x) := h
theorem q_stepn {u : cB} {v : cM} (p : Int32) (h : RV u v) : ∀ n : Nat, RV (li_B_step_19 p u n) (li_M_step_25 p v n)
  | 0 => h
  | n + 1 => q_tick (q_stepn p h n)
theorem RV.i1 {u : cB} {v : cM} (h : RV u v) : I1 v := h.1.1
theorem q_cntR {u : cB} {v : cM} (h : RV u v) : m_B_countChangedOutputs u = m_M_others v := by
  obtain ⟨hI, k, rfl, -⟩ := h
  exact q_cnt v k _ hI.1
theorem q_byR {u : cB} {v : cM} (h : RV u v) : RV (m_B_noteOutputs u) (m_M_layBy v) := by
  obtain ⟨hI, k, rfl, hk⟩ := h
  obtain ⟨e, x, hx⟩ := q_by k (mg6 v) hI
  rw [e, hx]
  exact ⟨hI, k, rfl, hk⟩
theorem r_step {u : cB} {v : cM} (h : RV u v) (p : Int32) : (m_B_step p u).1 = (m_M_step p v).1 ∧ RV (m_B_step p u).2 (m_M_step p v).2 := by
  by_cases c : m_M_within p 0 1000 = 0
  · have e1 : m_B_step p u = (-2, u) := if_pos c
    have e2 : m_M_step p v = (-2, ms0 v 0) := if_pos c
    rw [e1, e2]
    exact ⟨rfl, h.z 0⟩
  · have e1 : m_B_step p u = (m_B_countChangedOutputs (li_B_step_19 p (m_B_noteOutputs u) p.toNatClampNeg), li_B_step_19 p (m_B_noteOutputs u) p.toNatClampNeg) := if_neg c
    have e2 : m_M_step p v = (m_M_others (li_M_step_25 p (m_M_layBy (ms0 v 0)) p.toNatClampNeg), li_M_step_25 p (m_M_layBy (ms0 v 0)) p.toNatClampNeg) := if_neg c
    rw [e1, e2]
    have r := q_stepn p (q_byR (h.z 0)) p.toNatClampNeg
    exact ⟨q_cntR r, r⟩
theorem r_rain {u : cB} {v : cM} (h : RV u v) (p : Int32) : (m_B_rain p u).1 = (m_M_rain p v).1 ∧ RV (m_B_rain p u).2 (m_M_rain p v).2 := by
  obtain ⟨hI, k, rfl, hk⟩ := h
  by_cases c : m_M_within p 0 9 = 0
  · have e1 : m_B_rain p (ph v k (mg6 v)) = (-2, ph v k (mg6 v)) := if_pos c
    have e2 : m_M_rain p v = (-2, ms0 v 0) := if_pos c
    rw [e1, e2]
    exact ⟨rfl, hI, k, rfl, hk⟩
  · have e1 : m_B_rain p (ph v k (mg6 v)) = (mg5 v, ph (ms5 v p) k (mg6 v)) := if_neg c
    have e2 : m_M_rain p v = (mg5 v, ms5 (ms0 v 0) p) := if_neg c
    rw [e1, e2]
    exact ⟨rfl, hI, k, rfl, hk⟩
theorem r_trailer {u : cB} {v : cM} (h : RV u v) (p : Int32) : (m_B_trailer p u).1 = (m_M_trailer p v).1 ∧ RV (m_B_trailer p u).2 (m_M_trailer p v).2 := by
  have r := q_byR (h.z 0)
  have e1 : m_B_trailer p u = (m_B_countChangedOutputs (f_B_trailer_6 p (m_B_noteOutputs u)), f_B_trailer_6 p (m_B_noteOutputs u)) := rfl
  have e2 : m_M_trailer p v = (m_M_others (f_M_trailer_11 p (m_M_layBy (ms0 v 0))), f_M_trailer_11 p (m_M_layBy (ms0 v 0))) := rfl
  rw [e1, e2]
  have r2 : RV (f_B_trailer_6 p (m_B_noteOutputs u)) (f_M_trailer_11 p (m_M_layBy (ms0 v 0))) := by
    obtain ⟨hI, k, e, hk⟩ := r
    rw [e]
    exact ⟨hI, k, rfl, hk⟩
  exact ⟨q_cntR r2, r2⟩
theorem r_output {u : cB} {v : cM} (h : RV u v) (p : Int32) (hp : ¬ m_M_within p 0 9 = 0) : m_B_outputNow p u = (m_M_output p v).1 ∧ mg0 (m_M_output p v).2 = 0 ∧ RV u (m_M_output p v).2 := by
  obtain ⟨hI, k, rfl, hk⟩ := h
  have e2 : m_M_output p v = (m_M_value p (ms0 v 0), ms0 v 0) := (if_neg hp).trans (if_pos (by show (0 : Int32) ≤ 0; decide))
  obtain ⟨j, hj, rfl⟩ := hk_wl hp (N := 9) rfl (by decide)
  rw [e2]
  exact ⟨q_out v k (mg6 v) hI.1.1.1 hI.1.1.2 j (by omega), rfl, hI, k, rfl, hk⟩
theorem r_outputX {u : cB} {v : cM} (h : RV u v) (p : Int32) (hp : m_M_within p 0 9 = 0) : mg0 (m_M_output p v).2 = 1 ∧ RV u (m_M_output p v).2 := by
  have e2 : m_M_output p v = (0, ms0 v 1) := (if_pos hp).trans (if_neg (by show ¬ (1 : Int32) ≤ 0; decide))
  rw [e2]
  exact ⟨rfl, h.z 1⟩
/-! windows -/
theorem w5R {v : cM} (k : Nat → Nat → Int32) (t : Int32) (i : Nat) (b : Int32) : s5 (ph v k t) (va_up (b5 (ph v k t)) i (mg15 v i, b, mg17 v i)) = ph (ms16 v (upd (mg16 v) i b)) k t := by
  rw [w5, upd_id, upd_id]
  rfl
theorem inv16 {v : cM} (h : Inv v) (i : Nat) (b : Int32) (hb : rg b 200) : Inv (ms16 v (upd (mg16 v) i b)) := by
  refine ⟨h.1, h.2.1, h.2.2.1, h.2.2.2.1, h.2.2.2.2.1, ?_, h.2.2.2.2.2.2⟩
  intro j hj
  obtain ⟨a, c⟩ := h.2.2.2.2.2.1 j hj
  refine ⟨a, ?_⟩
  show rg (upd (mg16 v) i b j) 200
  by_cases hji : j = i
  · rw [hji, upd_at]
    exact hb
  · rw [upd_ne _ _ hji]
    exact c
theorem ab4 (p : Int32) : m_B_isBelow p 4 = m_M_isWindow p := ab_be 3 (by decide)
theorem win_ix {p : Int32} (c : ¬ m_M_isWindow p = 0) : p.toNatClampNeg < 4 := by
  obtain ⟨j, hj, rfl⟩ := hk_wl c (N := 3) rfl (by decide)
  rw [nI_clamp (by omega)]
  omega
theorem r_pinch {u : cB} {v : cM} (h : RV u v) (p q : Int32) : (m_B_pinch p q u).1 = (m_M_pinch p q v).1 ∧ RV (m_B_pinch p q u).2 (m_M_pinch p q v).2 := by
  obtain ⟨hI, k, rfl, hk⟩ := h
  by_cases c : m_M_isWindow p = 0
  · have e1 : m_B_pinch p q (ph v k (mg6 v)) = (-1, ph v k (mg6 v)) := if_pos ((ab4 p).trans c)
    have e2 : m_M_pinch p q v = (-1, ms0 v 0) := if_pos c
    rw [e1, e2]
    exact ⟨rfl, hI, k, rfl, hk⟩
  · by_cases d : m_M_within q 0 1000 = 0
    · have e1 : m_B_pinch p q (ph v k (mg6 v)) = (-2, ph v k (mg6 v)) := (if_neg (fun z => c ((ab4 p).symm.trans z))).trans (if_pos d)
      have e2 : m_M_pinch p q v = (-2, ms0 v 0) := (if_neg c).trans (if_pos d)
      rw [e1, e2]
      exact ⟨rfl, hI, k, rfl, hk⟩
    · have e1 : m_B_pinch p q (ph v k (mg6 v)) = (m_B_bit ((m_Window_reverseAt q (b5 (ph v k (mg6 v)) p.toNatClampNeg)).1), f_B_pinch_30 p q (ph v k (mg6 v))) := (if_neg (fun z => c ((ab4 p).symm.trans z))).trans (if_neg d)
      have e2 : m_M_pinch p q v = if mg16 v p.toNatClampNeg ≤ mg15 v p.toNatClampNeg then ((0 : Int32), ms0 v 0) else (if 100 < q then (if mg15 v p.toNatClampNeg ≤ 60 then ((1 : Int32), ms16 (ms0 v 0) (upd (mg16 v) p.toNatClampNeg 0)) else ((1 : Int32), ms16 (ms0 v 0) (upd (mg16 v) p.toNatClampNeg (mg15 v p.toNatClampNeg - 60)))) else ((0 : Int32), ms0 v 0)) := (if_neg c).trans ((if_neg d).trans rfl)
      have er : m_Window_reverseAt q (b5 (ph v k (mg6 v)) p.toNatClampNeg) = if mg16 v p.toNatClampNeg ≤ mg15 v p.toNatClampNeg then ((0 : Int32), ((mg15 v p.toNatClampNeg, mg16 v p.toNatClampNeg, mg17 v p.toNatClampNeg) : cS)) else (if 100 < q then ((1 : Int32), ((mg15 v p.toNatClampNeg, mx (mg15 v p.toNatClampNeg - 60) 0, mg17 v p.toNatClampNeg) : cS)) else ((0 : Int32), ((mg15 v p.toNatClampNeg, mg16 v p.toNatClampNeg, mg17 v p.toNatClampNeg) : cS))) := rfl
      have ef : f_B_pinch_30 p q (ph v k (mg6 v)) = s5 (ph v k (mg6 v)) (va_up (b5 (ph v k (mg6 v))) p.toNatClampNeg ((m_Window_reverseAt q (b5 (ph v k (mg6 v)) p.toNatClampNeg)).2)) := rfl
      rw [e1, e2, ef, er]
      have hx := (hI.2.2.2.2.2.1 _ (win_ix c)).1
      by_cases c1 : mg16 v p.toNatClampNeg ≤ mg15 v p.toNatClampNeg
      · rw [if_pos c1, if_pos c1]
        refine ⟨rfl, ?_⟩
        dsimp only
        rw [w5R, upd_id]
        exact ⟨hI, k, rfl, hk⟩
      · rw [if_neg c1, if_neg c1]
        by_cases c2 : 100 < q
        · rw [if_pos c2, if_pos c2]
          dsimp only
          rw [w5R]
          have key : ∀ b : Int32, rg b 200 → RV (ph (ms16 v (upd (mg16 v) p.toNatClampNeg b)) k (mg6 v)) (ms16 (ms0 v 0) (upd (mg16 v) p.toNatClampNeg b)) := fun b hb => ⟨inv16 hI _ b hb, k, rfl, hk⟩
          obtain ⟨x0, x1⟩ := rg_i (by decide) hx
          have l60 : (60 : Int32).toInt = 60 := rfl
          have l0 : (0 : Int32).toInt = 0 := rfl
          have es : (mg15 v p.toNatClampNeg - 60).toInt = (mg15 v p.toNatClampNeg).toInt - 60 := by rw [i32_sub (by omega) (by omega), l60]
          by_cases c3 : mg15 v p.toNatClampNeg ≤ 60
          · rw [if_pos c3]
            have em : mx (mg15 v p.toNatClampNeg - 60) 0 = 0 := by
              unfold mx
              rw [Int32.le_iff_toInt_le] at c3
              by_cases a : mg15 v p.toNatClampNeg - 60 < 0
              · rw [if_pos a]
              · rw [if_neg a]
                rw [Int32.lt_iff_toInt_lt] at a
                exact Int32.toInt_inj.mp (by omega)
            rw [em]
            exact ⟨rfl, key 0 ⟨0, by omega, rfl⟩⟩
          · rw [if_neg c3]
            rw [Int32.le_iff_toInt_le] at c3
            have em : mx (mg15 v p.toNatClampNeg - 60) 0 = mg15 v p.toNatClampNeg - 60 := by
              unfold mx
              rw [if_neg (by rw [Int32.lt_iff_toInt_lt]; omega)]
            rw [em]
            exact ⟨rfl, key _ (rg_of (by omega) (by omega))⟩
        · rw [if_neg c2, if_neg c2]
          refine ⟨rfl, ?_⟩
          dsimp only
          rw [w5R, upd_id]
          exact ⟨hI, k, rfl, hk⟩
theorem w5L {v : cM} (k : Nat → Nat → Int32) (t : Int32) (i : Nat) (b : Int32) : s5 (ph v k t) (va_up (b5 (ph v k t)) i (mg15 v i, mg16 v i, b)) = ph (ms17 v (upd (mg17 v) i b)) k t := by
  rw [w5, upd_id, upd_id]
  rfl
theorem r_learn {u : cB} {v : cM} (h : RV u v) (p : Int32) : (m_B_learn p u).1 = (m_M_learn p v).1 ∧ RV (m_B_learn p u).2 (m_M_learn p v).2 := by
  obtain ⟨hI, k, rfl, hk⟩ := h
  by_cases c : m_M_isWindow p = 0
  · have e1 : m_B_learn p (ph v k (mg6 v)) = (-1, ph v k (mg6 v)) := if_pos ((ab4 p).trans c)
    have e2 : m_M_learn p v = (-1, ms0 v 0) := if_pos c
    rw [e1, e2]
    exact ⟨rfl, hI, k, rfl, hk⟩
  · have e1 : m_B_learn p (ph v k (mg6 v)) = (m_B_bit ((m_Window_learnAtEnd (b5 (ph v k (mg6 v)) p.toNatClampNeg)).1), s5 (ph v k (mg6 v)) (va_up (b5 (ph v k (mg6 v))) p.toNatClampNeg ((m_Window_learnAtEnd (b5 (ph v k (mg6 v)) p.toNatClampNeg)).2))) := (if_neg (fun z => c ((ab4 p).symm.trans z))).trans rfl
    have el : m_Window_learnAtEnd (b5 (ph v k (mg6 v)) p.toNatClampNeg) = if mg15 v p.toNatClampNeg = mg16 v p.toNatClampNeg then (if mg15 v p.toNatClampNeg = 0 then (if mg17 v p.toNatClampNeg = 0 then ((1 : Int32), ((mg15 v p.toNatClampNeg, mg16 v p.toNatClampNeg, 1) : cS)) else ((1 : Int32), ((mg15 v p.toNatClampNeg, mg16 v p.toNatClampNeg, 1) : cS))) else (if mg15 v p.toNatClampNeg = 200 then (if mg17 v p.toNatClampNeg = 0 then ((1 : Int32), ((mg15 v p.toNatClampNeg, mg16 v p.toNatClampNeg, 1) : cS)) else ((1 : Int32), ((mg15 v p.toNatClampNeg, mg16 v p.toNatClampNeg, 1) : cS))) else (if mg17 v p.toNatClampNeg = 0 then ((0 : Int32), ((mg15 v p.toNatClampNeg, mg16 v p.toNatClampNeg, 0) : cS)) else ((0 : Int32), ((mg15 v p.toNatClampNeg, mg16 v p.toNatClampNeg, 1) : cS))))) else (if mg17 v p.toNatClampNeg = 0 then ((0 : Int32), ((mg15 v p.toNatClampNeg, mg16 v p.toNatClampNeg, 0) : cS)) else ((0 : Int32), ((mg15 v p.toNatClampNeg, mg16 v p.toNatClampNeg, 1) : cS))) := rfl
    have e2 : m_M_learn p v = if mg15 v p.toNatClampNeg = mg16 v p.toNatClampNeg then (if mg15 v p.toNatClampNeg = 0 then (if mg17 v p.toNatClampNeg = 0 then ((1 : Int32), ms17 (ms0 v 0) (upd (mg17 v) p.toNatClampNeg 1)) else ((1 : Int32), ms17 (ms0 v 0) (upd (mg17 v) p.toNatClampNeg 1))) else (if mg15 v p.toNatClampNeg = 200 then (if mg17 v p.toNatClampNeg = 0 then ((1 : Int32), ms17 (ms0 v 0) (upd (mg17 v) p.toNatClampNeg 1)) else ((1 : Int32), ms17 (ms0 v 0) (upd (mg17 v) p.toNatClampNeg 1))) else (if mg17 v p.toNatClampNeg = 0 then ((0 : Int32), ms17 (ms0 v 0) (upd (mg17 v) p.toNatClampNeg 0)) else ((0 : Int32), ms17 (ms0 v 0) (upd (mg17 v) p.toNatClampNeg 1))))) else (if mg17 v p.toNatClampNeg = 0 then ((0 : Int32), ms17 (ms0 v 0) (upd (mg17 v) p.toNatClampNeg 0)) else ((0 : Int32), ms17 (ms0 v 0) (upd (mg17 v) p.toNatClampNeg 1))) := (if_neg c).trans rfl
    have key : ∀ b : Int32, RV (s5 (ph v k (mg6 v)) (va_up (b5 (ph v k (mg6 v))) p.toNatClampNeg (mg15 v p.toNatClampNeg, mg16 v p.toNatClampNeg, b))) (ms17 (ms0 v 0) (upd (mg17 v) p.toNatClampNeg b)) := by
      intro b
      rw [w5L]
      exact ⟨hI, k, rfl, hk⟩
    rw [e1, e2, el]
    repeat' split
    all_goals exact ⟨rfl, key _⟩
theorem r_window {u : cB} {v : cM} (h : RV u v) (p q : Int32) : (m_B_window p q u).1 = (m_M_window p q v).1 ∧ RV (m_B_window p q u).2 (m_M_window p q v).2 := by
  obtain ⟨hI, k, rfl, hk⟩ := h
  by_cases c : m_M_isWindow p = 0
  · have e1 : m_B_window p q (ph v k (mg6 v)) = (-1, ph v k (mg6 v)) := if_pos ((ab4 p).trans c)
    have e2 : m_M_window p q v = (-1, ms0 v 0) := if_pos c
    rw [e1, e2]
    exact ⟨rfl, hI, k, rfl, hk⟩
  · by_cases d : m_M_within q 0 200 = 0
    · have e1 : m_B_window p q (ph v k (mg6 v)) = (-2, ph v k (mg6 v)) := (if_neg (fun z => c ((ab4 p).symm.trans z))).trans (if_pos d)
      have e2 : m_M_window p q v = (-2, ms0 v 0) := (if_neg c).trans (if_pos d)
      rw [e1, e2]
      exact ⟨rfl, hI, k, rfl, hk⟩
    · have e1 : m_B_window p q (ph v k (mg6 v)) = (m_Window_ticksToWish (b5 (f_B_window_30 p q (ph v k (mg6 v))) p.toNatClampNeg), f_B_window_30 p q (ph v k (mg6 v))) := (if_neg (fun z => c ((ab4 p).symm.trans z))).trans (if_neg d)
      have ef : f_B_window_30 p q (ph v k (mg6 v)) = ph (ms16 v (upd (mg16 v) p.toNatClampNeg q)) k (mg6 v) := w5R k (mg6 v) p.toNatClampNeg q
      have eb : b5 (ph (ms16 v (upd (mg16 v) p.toNatClampNeg q)) k (mg6 v)) p.toNatClampNeg = (mg15 v p.toNatClampNeg, q, mg17 v p.toNatClampNeg) := by
        show (mg15 v p.toNatClampNeg, upd (mg16 v) p.toNatClampNeg q p.toNatClampNeg, mg17 v p.toNatClampNeg) = _
        rw [upd_at]
      have et : m_Window_ticksToWish (mg15 v p.toNatClampNeg, q, mg17 v p.toNatClampNeg) = if mg17 v p.toNatClampNeg = 0 then ab (q - mg15 v p.toNatClampNeg) else (ab (q - mg15 v p.toNatClampNeg) + 1) / 2 := rfl
      have e2 : m_M_window p q v = if q ≤ mg15 v p.toNatClampNeg then (if mg17 v p.toNatClampNeg = 0 then (mg15 v p.toNatClampNeg - q, ms16 (ms0 v 0) (upd (mg16 v) p.toNatClampNeg q)) else ((mg15 v p.toNatClampNeg - q + 1) / 2, ms16 (ms0 v 0) (upd (mg16 v) p.toNatClampNeg q))) else (if mg17 v p.toNatClampNeg = 0 then (q - mg15 v p.toNatClampNeg, ms16 (ms0 v 0) (upd (mg16 v) p.toNatClampNeg q)) else ((q - mg15 v p.toNatClampNeg + 1) / 2, ms16 (ms0 v 0) (upd (mg16 v) p.toNatClampNeg q))) := (if_neg c).trans ((if_neg d).trans rfl)
      obtain ⟨j, hj, hq⟩ := hk_wl d (N := 200) rfl (by decide)
      have hqr : rg q 200 := ⟨j, hj, hq⟩
      have hR : RV (ph (ms16 v (upd (mg16 v) p.toNatClampNeg q)) k (mg6 v)) (ms16 (ms0 v 0) (upd (mg16 v) p.toNatClampNeg q)) := ⟨inv16 hI _ q hqr, k, rfl, hk⟩
      rw [e1, ef, eb, et, e2]
      have hx := (hI.2.2.2.2.2.1 _ (win_ix c)).1
      obtain ⟨x0, x1⟩ := rg_i (by decide) hx
      obtain ⟨y0, y1⟩ := rg_i (by decide) hqr
      have es : (q - mg15 v p.toNatClampNeg).toInt = q.toInt - (mg15 v p.toNatClampNeg).toInt := i32_sub (by omega) (by omega)
      have es2 : (mg15 v p.toNatClampNeg - q).toInt = (mg15 v p.toNatClampNeg).toInt - q.toInt := i32_sub (by omega) (by omega)
      have l0 : (0 : Int32).toInt = 0 := rfl
      by_cases c1 : q ≤ mg15 v p.toNatClampNeg
      · have ea : ab (q - mg15 v p.toNatClampNeg) = mg15 v p.toNatClampNeg - q := by
          rw [Int32.le_iff_toInt_le] at c1
          unfold ab
          by_cases a : 0 ≤ q - mg15 v p.toNatClampNeg
          · rw [if_pos a]
            rw [Int32.le_iff_toInt_le] at a
            exact Int32.toInt_inj.mp (by omega)
          · rw [if_neg a]
            exact Int32.toInt_inj.mp (by rw [i32_sub (by omega) (by omega)]; omega)
        rw [ea, if_pos c1]
        by_cases l : mg17 v p.toNatClampNeg = 0
        · rw [if_pos l, if_pos l]
          exact ⟨rfl, hR⟩
        · rw [if_neg l, if_neg l]
          exact ⟨rfl, hR⟩
      · have ea : ab (q - mg15 v p.toNatClampNeg) = q - mg15 v p.toNatClampNeg := by
          rw [Int32.le_iff_toInt_le] at c1
          unfold ab
          rw [if_pos (by rw [Int32.le_iff_toInt_le]; omega)]
        rw [ea, if_neg c1]
        by_cases l : mg17 v p.toNatClampNeg = 0
        · rw [if_pos l, if_pos l]
          exact ⟨rfl, hR⟩
        · rw [if_neg l, if_neg l]
          exact ⟨rfl, hR⟩
