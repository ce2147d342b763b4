/-! REL2: a tick of both -/
def swt (sp : Int32) (x y : Int32) : Int32 := if y ≤ x then mx (x - sp) y else mn (x + sp) y
theorem q_swt {x y : Int32} (hx : rg x 200) (hy : rg y 200) (s : Int32) (hs : s = 1 ∨ s = 2) : swt s x y = x + (if y - x ≤ s then (if -s ≤ y - x then y - x else -s) else s) := by
  obtain ⟨x0, x1⟩ := rg_i (by decide) hx
  obtain ⟨y0, y1⟩ := rg_i (by decide) hy
  have e3 : (y - x).toInt = y.toInt - x.toInt := hi_sub (by omega) (by omega)
  have e4 : (x + (y - x)).toInt = y.toInt := by rw [hi_add (by omega) (by omega)]; omega
  unfold swt mx mn
  rcases hs with rfl | rfl
  · have l1 : (1 : Int32).toInt = 1 := rfl
    have n1 : (-1 : Int32).toInt = -1 := rfl
    have e1 : (x - 1).toInt = x.toInt - 1 := hi_sub (by omega) (by omega)
    have e2 : (x + 1).toInt = x.toInt + 1 := hi_add (by omega) (by omega)
    have e5 : (x + -1).toInt = x.toInt - 1 := by rw [hi_add (by omega) (by omega)]; omega
    apply Int32.toInt_inj.mp
    simp only [Int32.le_iff_toInt_le, Int32.lt_iff_toInt_lt]
    repeat' split
    all_goals omega
  · have l1 : (2 : Int32).toInt = 2 := rfl
    have n1 : (-2 : Int32).toInt = -2 := rfl
    have e1 : (x - 2).toInt = x.toInt - 2 := hi_sub (by omega) (by omega)
    have e2 : (x + 2).toInt = x.toInt + 2 := hi_add (by omega) (by omega)
    have e5 : (x + -2).toInt = x.toInt - 2 := by rw [hi_add (by omega) (by omega)]; omega
    apply Int32.toInt_inj.mp
    simp only [Int32.le_iff_toInt_le, Int32.lt_iff_toInt_lt]
    repeat' split
    all_goals omega
theorem swt_rg {x y : Int32} (hx : rg x 200) (hy : rg y 200) (s : Int32) (hs : s = 1 ∨ s = 2) : rg (swt s x y) 200 := by
  obtain ⟨x0, x1⟩ := rg_i (by decide) hx
  obtain ⟨y0, y1⟩ := rg_i (by decide) hy
  have key : 0 ≤ (swt s x y).toInt ∧ (swt s x y).toInt ≤ 200 := by
    unfold swt mx mn
    rcases hs with rfl | rfl
    · have l1 : (1 : Int32).toInt = 1 := rfl
      have e1 : (x - 1).toInt = x.toInt - 1 := hi_sub (by omega) (by omega)
      have e2 : (x + 1).toInt = x.toInt + 1 := hi_add (by omega) (by omega)
      simp only [Int32.le_iff_toInt_le, Int32.lt_iff_toInt_lt]
      repeat' split
      all_goals omega
    · have l1 : (2 : Int32).toInt = 2 := rfl
      have e1 : (x - 2).toInt = x.toInt - 2 := hi_sub (by omega) (by omega)
      have e2 : (x + 2).toInt = x.toInt + 2 := hi_add (by omega) (by omega)
      simp only [Int32.le_iff_toInt_le, Int32.lt_iff_toInt_lt]
      repeat' split
      all_goals omega
  exact rg_of key.1 key.2
def spd (l : Int32) : Int32 := if l = 0 then 1 else 2
theorem spd12 (l : Int32) : spd l = 1 ∨ spd l = 2 := by
  unfold spd
  split
  · exact Or.inl rfl
  · exact Or.inr rfl
theorem q_wtick (x y l : Int32) : m_Window_tick (x, y, l) = (swt (spd l) x y, y, l) := by
  have e : m_Window_tick (x, y, l) = if y ≤ x then (mx (x - spd l) y, y, l) else (mn (x + spd l) y, y, l) := rfl
  rw [e]
  unfold swt
  split <;> rfl
theorem mwin_def (p : Int32) (v : cM) : m_M_tickWindow p v = if mg17 v p.toNatClampNeg = 0 then (if mg16 v p.toNatClampNeg - mg15 v p.toNatClampNeg ≤ 1 then (if -1 ≤ mg16 v p.toNatClampNeg - mg15 v p.toNatClampNeg then f_M_tickWindow_58 p v else f_M_tickWindow_58_1 p v) else f_M_tickWindow_58_2 p v) else (if mg16 v p.toNatClampNeg - mg15 v p.toNatClampNeg ≤ 2 then (if -2 ≤ mg16 v p.toNatClampNeg - mg15 v p.toNatClampNeg then f_M_tickWindow_58 p v else f_M_tickWindow_58_3 p v) else f_M_tickWindow_58_4 p v) := rfl
theorem q_mwin {v : cM} {p : Int32} (hx : rg (mg15 v p.toNatClampNeg) 200) (hy : rg (mg16 v p.toNatClampNeg) 200) : m_M_tickWindow p v = ms15 v (upd (mg15 v) p.toNatClampNeg (swt (spd (mg17 v p.toNatClampNeg)) (mg15 v p.toNatClampNeg) (mg16 v p.toNatClampNeg))) := by
  rw [q_swt hx hy _ (spd12 _), mwin_def]
  unfold spd
  by_cases h : mg17 v p.toNatClampNeg = 0
  · rw [if_pos h, if_pos h]
    by_cases h1 : mg16 v p.toNatClampNeg - mg15 v p.toNatClampNeg ≤ 1
    · rw [if_pos h1, if_pos h1]
      by_cases h2 : (-1 : Int32) ≤ mg16 v p.toNatClampNeg - mg15 v p.toNatClampNeg
      · rw [if_pos h2, if_pos h2]
        rfl
      · rw [if_neg h2, if_neg h2]
        rfl
    · rw [if_neg h1, if_neg h1]
      rfl
  · rw [if_neg h, if_neg h]
    by_cases h1 : mg16 v p.toNatClampNeg - mg15 v p.toNatClampNeg ≤ 2
    · rw [if_pos h1, if_pos h1]
      by_cases h2 : (-2 : Int32) ≤ mg16 v p.toNatClampNeg - mg15 v p.toNatClampNeg
      · rw [if_pos h2, if_pos h2]
        rfl
      · rw [if_neg h2, if_neg h2]
        rfl
    · rw [if_neg h1, if_neg h1]
      rfl
theorem q_win {v : cM} (k : Nat → Nat → Int32) (t : Int32) (i : Nat) (p : Int32) (hp : p.toNatClampNeg = i) (hi : i < 4) (h : Inv v) :
    s5 (ph v k t) (va_up (b5 (ph v k t)) i (m_Window_tick (b5 (ph v k t) i))) = ph (m_M_tickWindow p v) k t ∧ Inv (m_M_tickWindow p v) ∧ mg6 (m_M_tickWindow p v) = mg6 v ∧ mg24 (m_M_tickWindow p v) = mg24 v := by
  subst hp
  obtain ⟨hx, hy⟩ := h.2.2.2.2.2.1 _ hi
  have e : m_Window_tick (b5 (ph v k t) p.toNatClampNeg) = (swt (spd (mg17 v p.toNatClampNeg)) (mg15 v p.toNatClampNeg) (mg16 v p.toNatClampNeg), mg16 v p.toNatClampNeg, mg17 v p.toNatClampNeg) := q_wtick _ _ _
  rw [e, w5, q_mwin hx hy, upd_id, upd_id]
  refine ⟨rfl, ⟨h.1, h.2.1, h.2.2.1, h.2.2.2.1, h.2.2.2.2.1, ?_, h.2.2.2.2.2.2⟩, rfl, rfl⟩
  intro j hj
  obtain ⟨a, b⟩ := h.2.2.2.2.2.1 j hj
  refine ⟨?_, b⟩
  show rg (upd (mg15 v) p.toNatClampNeg _ j) 200
  by_cases hji : j = p.toNatClampNeg
  · subst hji
    rw [upd_at]
    exact swt_rg hx hy _ (spd12 _)
  · rw [upd_ne _ _ hji]
    exact a
