/-! REL2: a tick of both -/
def swt (sp : Int32) (x y : Int32) : Int32 := if y ≤ x then mx (x - sp) y else mn (x + sp) y
theorem q_swt {x y : Int32} (hx : rg x 200) (hy : rg y 200) (s : Int32) (hs : s = 1 ∨ s = 2) : swt s x y = x + (if y - x ≤ s then (if -s ≤ y - x then y - x else -s) else s) := by
  obtain ⟨x0, x1⟩ := rg_i (by decide) hx
  obtain ⟨y0, y1⟩ := rg_i (by decide) hy
  have e3 : (y - x).toInt = y.toInt - x.toInt := i32_sub (by omega) (by omega)
  have e4 : (x + (y - x)).toInt = y.toInt := by rw [i32_add (by omega) (by omega)]; omega
  unfold swt mx mn
  rcases hs with rfl | rfl
  · have l1 : (1 : Int32).toInt = 1 := rfl
    have n1 : (-1 : Int32).toInt = -1 := rfl
    have e1 : (x - 1).toInt = x.toInt - 1 := i32_sub (by omega) (by omega)
    have e2 : (x + 1).toInt = x.toInt + 1 := i32_add (by omega) (by omega)
    have e5 : (x + -1).toInt = x.toInt - 1 := by rw [i32_add (by omega) (by omega)]; omega
    apply Int32.toInt_inj.mp
    simp only [Int32.le_iff_toInt_le, Int32.lt_iff_toInt_lt]
    repeat' split
    all_goals omega
  · have l1 : (2 : Int32).toInt = 2 := rfl
    have n1 : (-2 : Int32).toInt = -2 := rfl
    have e1 : (x - 2).toInt = x.toInt - 2 := i32_sub (by omega) (by omega)
    have e2 : (x + 2).toInt = x.toInt + 2 := i32_add (by omega) (by omega)
    have e5 : (x + -2).toInt = x.toInt - 2 := by rw [i32_add (by omega) (by omega)]; omega
    apply Int32.toInt_inj.mp
    simp only [Int32.le_iff_toInt_le, Int32.lt_iff_toInt_lt]
    repeat' split
    all_goals omega
theorem swt_rg {x y : Int32} (hx : rg x 200) (hy : rg y 200) (s : Int32) (hs : s = 1 ∨ s = 2) : rg (swt s x y) 200 := by
  obtain ⟨x0, x1⟩ := rg_i (by decide) hx
  obtain ⟨y0, y1⟩ := rg_i (by decide) hy
  have key : 0 ≤ (swt s x y).toInt ∧ (swt s x y).toInt ≤ 200 := by
    unfold swt mx mn
    rcases hs with rfl | rfl
    · have l1 : (1 : Int32).toInt = 1 := rfl
      have e1 : (x - 1).toInt = x.toInt - 1 := i32_sub (by omega) (by omega)
      have e2 : (x + 1).toInt = x.toInt + 1 := i32_add (by omega) (by omega)
      simp only [Int32.le_iff_toInt_le, Int32.lt_iff_toInt_lt]
      repeat' split
      all_goals omega
    · have l1 : (2 : Int32).toInt = 2 := rfl
      have e1 : (x - 2).toInt = x.toInt - 2 := i32_sub (by omega) (by omega)
      have e2 : (x + 2).toInt = x.toInt + 2 := i32_add (by omega) (by omega)
      simp only [Int32.le_iff_toInt_le, Int32.lt_iff_toInt_lt]
      repeat' split
      all_goals omega
  exact rg_of key.1 key.2
def spd (l : Int32) : Int32 := if l = 0 then 1 else 2
theorem spd12 (l : Int32) : spd l = 1 ∨ spd l = 2 := by
  unfold spd
  split
  · exact Or.inl rfl
  · exact Or.inr rfl
theorem q_wtick (x y l : Int32) : m_Window_tick (x, y, l) = (swt (spd l) x y, y, l) := by
  have e : m_Window_tick (x, y, l) = if y ≤ x then (mx (x - spd l) y, y, l) else (mn (x + spd l) y, y, l) := rfl
  rw [e]
  unfold swt
  split <;> rfl
theorem q_mwin {v : cM} {p : Int32} (hx : rg (mg15 v p.toNatClampNeg) 200) (hy : rg (mg16 v p.toNatClampNeg) 200) : m_M_tickWindow p v = ms15 v (upd (mg15 v) p.toNatClampNeg (swt (spd (mg17 v p.toNatClampNeg)) (mg15 v p.toNatClampNeg) (mg16 v p.toNatClampNeg))) := by
  rw [q_swt hx hy _ (spd12 _)]
  unfold spd
  by_cases h : mg17 v p.toNatClampNeg = 0
  · rw [if_pos h]
    refine (if_pos h).trans ?_
    by_cases h1 : mg16 v p.toNatClampNeg - mg15 v p.toNatClampNeg ≤ 1
    · rw [if_pos h1]
      refine (if_pos h1).trans ?_
      by_cases h2 : (-1 : Int32) ≤ mg16 v p.toNatClampNeg - mg15 v p.toNatClampNeg
      · rw [if_pos h2]
        exact (if_pos h2).trans rfl
      · rw [if_neg h2]
        exact (if_neg h2).trans rfl
    · rw [if_neg h1]
      exact (if_neg h1).trans rfl
  · rw [if_neg h]
    refine (if_neg h).trans ?_
    by_cases h1 : mg16 v p.toNatClampNeg - mg15 v p.toNatClampNeg ≤ 2
    · rw [if_pos h1]
      refine (if_pos h1).trans ?_
      by_cases h2 : (-2 : Int32) ≤ mg16 v p.toNatClampNeg - mg15 v p.toNatClampNeg
      · rw [if_pos h2]
        exact (if_pos h2).trans rfl
      · rw [if_neg h2]
        exact (if_neg h2).trans rfl
    · rw [if_neg h1]
      exact (if_neg h1).trans rfl
theorem q_win {v : cM} (k : Nat → Nat → Int32) (t : Int32) (i : Nat) (p : Int32) (hp : p.toNatClampNeg = i) (hi : i < 4) (h : Inv v) :
    s5 (ph v k t) (va_up (b5 (ph v k t)) i (m_Window_tick (b5 (ph v k t) i))) = ph (m_M_tickWindow p v) k t ∧ Inv (m_M_tickWindow p v) ∧ mg6 (m_M_tickWindow p v) = mg6 v ∧ mg24 (m_M_tickWindow p v) = mg24 v := by
  subst hp
  obtain ⟨hx, hy⟩ := h.2.2.2.2.2.1 _ hi
  have e : m_Window_tick (b5 (ph v k t) p.toNatClampNeg) = (swt (spd (mg17 v p.toNatClampNeg)) (mg15 v p.toNatClampNeg) (mg16 v p.toNatClampNeg), mg16 v p.toNatClampNeg, mg17 v p.toNatClampNeg) := q_wtick _ _ _
  rw [e, w5, q_mwin hx hy, upd_id, upd_id]
  refine ⟨rfl, ⟨h.1, h.2.1, h.2.2.1, h.2.2.2.1, h.2.2.2.2.1, ?_, h.2.2.2.2.2.2⟩, rfl, rfl⟩
  intro j hj
  obtain ⟨a, b⟩ := h.2.2.2.2.2.1 j hj
  refine ⟨?_, b⟩
  show rg (upd (mg15 v) p.toNatClampNeg _ j) 200
  by_cases hji : j = p.toNatClampNeg
  · subst hji
    rw [upd_at]
    exact swt_rg hx hy _ (spd12 _)
  · rw [upd_ne _ _ hji]
    exact a
/-! a side's tick -/
theorem q_mside (v : cM) (p : Int32) : m_M_tickSide p v = if mg7 v p.toNatClampNeg = 0 then v else (if m_M_period p v ≤ mg8 v p.toNatClampNeg + 1 then
    ms7 (ms9 (ms8 v (upd (mg8 v) p.toNatClampNeg 0)) (upd (mg9 v) p.toNatClampNeg (mg9 v p.toNatClampNeg + 1))) (upd (mg7 v) p.toNatClampNeg (if m_M_isWanted p v = 0 then (if 3 ≤ mg9 v p.toNatClampNeg + 1 then 0 else 1) else 1))
    else ms8 v (upd (mg8 v) p.toNatClampNeg (mg8 v p.toNatClampNeg + 1))) := by
  have e : m_M_tickSide p v = if mg7 v p.toNatClampNeg = 0 then v else (if m_M_period p v ≤ upd (mg8 v) p.toNatClampNeg (mg8 v p.toNatClampNeg + 1) p.toNatClampNeg then
      (if m_M_isWanted p v = 0 then (if 3 ≤ upd (mg9 v) p.toNatClampNeg (mg9 v p.toNatClampNeg + 1) p.toNatClampNeg then
        ms7 (ms9 (ms8 v (upd (upd (mg8 v) p.toNatClampNeg (mg8 v p.toNatClampNeg + 1)) p.toNatClampNeg 0)) (upd (mg9 v) p.toNatClampNeg (mg9 v p.toNatClampNeg + 1))) (upd (mg7 v) p.toNatClampNeg 0)
        else ms7 (ms9 (ms8 v (upd (upd (mg8 v) p.toNatClampNeg (mg8 v p.toNatClampNeg + 1)) p.toNatClampNeg 0)) (upd (mg9 v) p.toNatClampNeg (mg9 v p.toNatClampNeg + 1))) (upd (mg7 v) p.toNatClampNeg 1))
        else ms7 (ms9 (ms8 v (upd (upd (mg8 v) p.toNatClampNeg (mg8 v p.toNatClampNeg + 1)) p.toNatClampNeg 0)) (upd (mg9 v) p.toNatClampNeg (mg9 v p.toNatClampNeg + 1))) (upd (mg7 v) p.toNatClampNeg 1))
      else ms8 v (upd (mg8 v) p.toNatClampNeg (mg8 v p.toNatClampNeg + 1))) := rfl
  rw [e, upd_at, upd_at, upd_uu]
  by_cases h1 : m_M_isWanted p v = 0
  · rw [if_pos h1, if_pos h1]
    by_cases h2 : (3 : Int32) ≤ mg9 v p.toNatClampNeg + 1
    · rw [if_pos h2, if_pos h2]
    · rw [if_neg h2, if_neg h2]
  · rw [if_neg h1, if_neg h1]
theorem q_stick (po pw a g c : Int32) : m_Side_tick po pw (a, g, c) = if a = 0 then (a, g, c) else (if g + 1 < m_Side_period po then (a, g + 1, c) else (if pw = 0 then (if 3 ≤ c + 1 then 0 else 1) else 1, 0, c + 1)) := by
  have e : m_Side_tick po pw (a, g, c) = if a = 0 then (a, g, c) else (if g + 1 < m_Side_period po then (a, g + 1, c) else (if pw = 0 then (if 3 ≤ c + 1 then (0, 0, c + 1) else (1, 0, c + 1)) else (1, 0, c + 1))) := rfl
  rw [e]
  by_cases h1 : pw = 0
  · rw [if_pos h1, if_pos h1]
    by_cases h2 : (3 : Int32) ≤ c + 1
    · rw [if_pos h2, if_pos h2]
    · rw [if_neg h2, if_neg h2]
  · rw [if_neg h1, if_neg h1]
theorem q_side {v : cM} (k : Nat → Nat → Int32) (t : Int32) (i : Nat) (p : Int32) (hp : p.toNatClampNeg = i) (hi : i = 0 ∨ i = 1) (h : Inv v) :
    s3 (ph v k t) (va_up (b3 (ph v k t)) i (m_Side_tick (m_B_turnBulbIsOut p (ph v k t)) (m_B_isWanted p (ph v k t)) (b3 (ph v k t) i))) = ph (m_M_tickSide p v) k t ∧ Inv (m_M_tickSide p v) ∧ mg6 (m_M_tickSide p v) = mg6 v ∧ mg24 (m_M_tickSide p v) = mg24 v := by
  subst hp
  obtain ⟨⟨⟨a0, a1⟩, z0, z1⟩, hr⟩ := h
  have ha : rg (mg8 v p.toNatClampNeg) 79 := by rcases hi with e | e <;> rw [e] <;> assumption
  have hz : z01 (mg7 v p.toNatClampNeg) := by rcases hi with e | e <;> rw [e] <;> assumption
  have hb : b3 (ph v k t) p.toNatClampNeg = (mg7 v p.toNatClampNeg, mg8 v p.toNatClampNeg, mg9 v p.toNatClampNeg) := rfl
  have hper : m_Side_period (m_B_turnBulbIsOut p (ph v k t)) = m_M_period p v := rfl
  rw [hb, q_stick, q_mside, q_isWanted, hper]
  obtain ⟨a, hale, hae⟩ := ha
  obtain ⟨P, hP, hPe⟩ := q_per p v
  have hI : ∀ (f g c : Nat → Int32), (∀ j : Nat, j = 0 ∨ j = 1 → rg (g j) 79 ∧ z01 (f j)) → Inv (ms7 (ms9 (ms8 v g) c) f) := fun f g c hh => ⟨⟨⟨(hh 0 (Or.inl rfl)).1, (hh 1 (Or.inr rfl)).1⟩, (hh 0 (Or.inl rfl)).2, (hh 1 (Or.inr rfl)).2⟩, hr⟩
  have hold : ∀ j : Nat, j = 0 ∨ j = 1 → rg (mg8 v j) 79 ∧ z01 (mg7 v j) := by
    intro j hj
    rcases hj with rfl | rfl
    · exact ⟨a0, z0⟩
    · exact ⟨a1, z1⟩
  by_cases h0 : mg7 v p.toNatClampNeg = 0
  · rw [if_pos h0, if_pos h0, w3, upd_id, upd_id, upd_id]
    exact ⟨rfl, ⟨⟨⟨a0, a1⟩, z0, z1⟩, hr⟩, rfl, rfl⟩
  · rw [if_neg h0, if_neg h0]
    by_cases h1 : mg8 v p.toNatClampNeg + 1 < m_M_period p v
    · rw [if_pos h1, if_neg (by rw [Int32.not_le]; exact h1), w3, upd_id, upd_id]
      refine ⟨rfl, ?_, rfl, rfl⟩
      refine hI (mg7 v) (upd (mg8 v) p.toNatClampNeg (mg8 v p.toNatClampNeg + 1)) (mg9 v) (fun j hj => ?_)
      refine ⟨?_, (hold j hj).2⟩
      by_cases hji : j = p.toNatClampNeg
      · subst hji
        rw [upd_at, hae, nI_1]
        rw [hae, hPe, nI_1, nI_ltI (by omega) (by omega)] at h1
        exact rg_nI (by omega)
      · rw [upd_ne _ _ hji]
        exact (hold j hj).1
    · rw [if_neg h1, if_pos (Int32.not_lt.mp h1), w3]
      refine ⟨rfl, ?_, rfl, rfl⟩
      refine hI _ _ _ (fun j hj => ?_)
      by_cases hji : j = p.toNatClampNeg
      · subst hji
        rw [upd_at, upd_at]
        refine ⟨⟨0, by omega, rfl⟩, ?_⟩
        unfold z01
        split
        · split
          · exact Or.inl rfl
          · exact Or.inr rfl
        · exact Or.inr rfl
      · rw [upd_ne _ _ hji, upd_ne _ _ hji]
        exact hold j hj
/-! the wiper's tick -/
theorem rg3 {x : Int32} (h : rg x 3) : x = 0 ∨ x = 1 ∨ x = 2 ∨ x = 3 := by
  obtain ⟨j, hj, rfl⟩ := h
  have h : j = 0 ∨ j = 1 ∨ j = 2 ∨ j = 3 := by omega
  rcases h with rfl | rfl | rfl | rfl
  · exact Or.inl rfl
  · exact Or.inr (Or.inl rfl)
  · exact Or.inr (Or.inr (Or.inl rfl))
  · exact Or.inr (Or.inr (Or.inr rfl))
theorem m_speed_def (v : cM) : m_M_speed v = if mg1 v 5 = 0 then 0 else (if mg1 v 4 = 1 then (if mg5 v = 0 then 0 else (if 8 ≤ mg5 v then 2 else 1)) else (if mg1 v 4 = 0 then 0 else mg1 v 4 - 1)) := rfl
theorem b_speed_def (v : cM) (k : Nat → Nat → Int32) (t : Int32) : m_B_wiperSpeed (ph v k t) = if mg1 v 5 = 0 then 0 else (if mg1 v 4 = 1 then (if mg5 v = 0 then 0 else (if 8 ≤ mg5 v then 2 else 1)) else (if mg1 v 4 = 2 then 1 else (if mg1 v 4 = 3 then 2 else 0))) := rfl
theorem q_speed {v : cM} (k : Nat → Nat → Int32) (t : Int32) (h : rg (mg1 v 4) 3) : m_B_wiperSpeed (ph v k t) = m_M_speed v := by
  rw [m_speed_def, b_speed_def]
  have d1 : (2 : Int32) - 1 = 1 := by decide
  have d2 : (3 : Int32) - 1 = 2 := by decide
  have n01 : ¬ (0 : Int32) = 1 := by decide
  have n02 : ¬ (0 : Int32) = 2 := by decide
  have n03 : ¬ (0 : Int32) = 3 := by decide
  have n21 : ¬ (2 : Int32) = 1 := by decide
  have n20 : ¬ (2 : Int32) = 0 := by decide
  have n31 : ¬ (3 : Int32) = 1 := by decide
  have n32 : ¬ (3 : Int32) = 2 := by decide
  have n30 : ¬ (3 : Int32) = 0 := by decide
  rcases rg3 h with e | e | e | e
  · rw [e, if_neg n01, if_neg n02, if_neg n03, if_neg n01, if_pos rfl]
  · rw [e, if_pos rfl, if_pos rfl]
  · rw [e, if_neg n21, if_pos rfl, if_neg n21, if_neg n20, d1]
  · rw [e, if_neg n31, if_neg n32, if_pos rfl, if_neg n31, if_neg n30, d2]
theorem q_s012 {v : cM} (h : rg (mg1 v 4) 3) : m_M_speed v = 0 ∨ m_M_speed v = 1 ∨ m_M_speed v = 2 := by
  rw [← q_speed (fun _ _ => 0) 0 h, b_speed_def]
  split
  · exact Or.inl rfl
  · split
    · split
      · exact Or.inl rfl
      · split
        · exact Or.inr (Or.inr rfl)
        · exact Or.inr (Or.inl rfl)
    · split
      · exact Or.inr (Or.inl rfl)
      · split
        · exact Or.inr (Or.inr rfl)
        · exact Or.inl rfl
def w1 (v : cM) : Int32 := if m_M_speed v = 0 then 1 else m_M_speed v
theorem q_mx {v : cM} (h : rg (mg1 v 4) 3) : mx (m_M_speed v) 1 = w1 v := by
  unfold w1
  rcases q_s012 h with e | e | e <;> rw [e] <;> decide
def gw (sp pa x y : Int32) : cS := if x + mx sp 1 < 100 then (x + mx sp 1, y, mx sp 1) else (0, pa, mx sp 1)
theorem q_wt (sp pa x y w : Int32) : m_Wiper_tick sp pa (x, y, w) = if x = 0 then (if sp = 0 then (x, 0, 0) else (if y ≤ 0 then gw sp pa x y else (x, y - 1, 0))) else gw sp pa x y := by
  have g0 : ∀ z : cS, z = (x, y, 0) → (if ((f_Wiper_tick_40 (f_Wiper_tick_27 sp z)).1) < (100 : Int32) then (f_Wiper_tick_40 (f_Wiper_tick_27 sp z)) else (f_Wiper_tick_59 pa (f_Wiper_tick_54 (f_Wiper_tick_40 (f_Wiper_tick_27 sp z))))) = gw sp pa x y := by
    intro z hz
    subst hz
    rfl
  have f2 : f_Wiper_tick_2 (x, y, w) = (x, y, 0) := rfl
  have sd : m_Wiper_staysParked sp (x, y, 0) = if sp = 0 then ((1 : Int32), ((x, 0, 0) : cS)) else (if y ≤ 0 then ((0 : Int32), ((x, y, 0) : cS)) else ((1 : Int32), ((x, y - 1, 0) : cS))) := rfl
  unfold m_Wiper_tick
  rw [f2]
  by_cases h1 : x = 0
  · rw [if_pos h1]
    refine (if_pos h1).trans ?_
    by_cases h2 : sp = 0
    · rw [if_pos h2]
      rw [sd, if_pos h2]
      exact (if_neg (by decide)).trans rfl
    · rw [if_neg h2]
      rw [sd, if_neg h2]
      by_cases h3 : y ≤ 0
      · rw [if_pos h3, if_pos h3]
        exact (if_pos rfl).trans (g0 _ rfl)
      · rw [if_neg h3, if_neg h3]
        exact (if_neg (by decide)).trans rfl
  · rw [if_neg h1]
    exact (if_neg h1).trans (g0 _ rfl)
def gm (v : cM) : cM := g_M_tickWiper_65 (ms13 v (w1 v))
theorem q_mw (v : cM) : m_M_tickWiper v = if mg11 v = 0 then (if m_M_speed v = 0 then ms12 (ms13 v 0) 0 else (if mg12 v ≤ 0 then gm v else ms12 (ms13 v 0) (mg12 v - 1))) else gm v := by
  by_cases h1 : mg11 v = 0
  · rw [if_pos h1]
    refine (if_pos h1).trans ?_
    by_cases h2 : m_M_speed v = 0
    · rw [if_pos h2]
      exact (if_pos h2).trans rfl
    · rw [if_neg h2]
      refine (if_neg h2).trans ((if_pos h1).trans ?_)
      have hw : w1 v = m_M_speed v := if_neg h2
      by_cases h3 : mg12 v ≤ 0
      · rw [if_pos h3]
        refine (if_pos h3).trans ((if_neg h2).trans ?_)
        unfold gm
        rw [hw]
        rfl
      · rw [if_neg h3]
        exact (if_neg h3).trans rfl
  · rw [if_neg h1]
    refine (if_neg h1).trans ((if_neg h1).trans ?_)
    unfold gm
    by_cases h2 : m_M_speed v = 0
    · have hw : w1 v = 1 := if_pos h2
      rw [hw]
      exact (if_pos h2).trans rfl
    · have hw : w1 v = m_M_speed v := if_neg h2
      rw [hw]
      exact (if_neg h2).trans rfl
theorem q_g65 (u : cM) : g_M_tickWiper_65 u = if 100 ≤ mg11 u + mg13 u then (if mg1 u 4 = 1 then (if m_M_within (mg5 u) 1 4 = 0 then ms11 u 0 else ms12 (ms11 u 0) (400 - 80 * mg5 u)) else ms11 u 0) else ms11 u (mg11 u + mg13 u) := by
  by_cases h1 : (100 : Int32) ≤ mg11 u + mg13 u
  · rw [if_pos h1]
    refine (if_pos h1).trans ?_
    by_cases h2 : mg1 u 4 = 1
    · rw [if_pos h2]
      refine (if_pos h2).trans ?_
      by_cases h3 : m_M_within (mg5 u) 1 4 = 0
      · rw [if_pos h3]
        exact (if_pos h3).trans rfl
      · rw [if_neg h3]
        exact (if_neg h3).trans rfl
    · rw [if_neg h2]
      exact (if_neg h2).trans rfl
  · rw [if_neg h1]
    exact (if_neg h1).trans rfl
theorem b_pause_def (v : cM) (k : Nat → Nat → Int32) (t : Int32) : m_B_pauseAfterWiping (ph v k t) = if mg1 v 4 = 1 then (if mg5 v < 1 then 0 else (if 4 < mg5 v then 0 else 400 - 80 * mg5 v)) else 0 := rfl
theorem pau_pos {x : Int32} (h : ¬ m_M_within x 1 4 = 0) : ¬ 400 - 80 * x < 0 := by
  obtain ⟨h1, h2⟩ := hk_wb h
  rw [Int32.lt_iff_toInt_lt] at h1 h2
  have l1 : (1 : Int32).toInt = 1 := rfl
  have l4 : (4 : Int32).toInt = 4 := rfl
  have l80 : (80 : Int32).toInt = 80 := rfl
  have l400 : (400 : Int32).toInt = 400 := rfl
  have e1 : (80 * x).toInt = 80 * x.toInt := by rw [i32_mul (by omega) (by omega), l80]
  have e2 : (400 - 80 * x).toInt = 400 - 80 * x.toInt := by rw [i32_sub (by omega) (by omega), e1, l400]
  rw [Int32.lt_iff_toInt_lt, e2]
  show ¬ 400 - 80 * x.toInt < 0
  omega
theorem q_go {v : cM} (k : Nat → Nat → Int32) (t : Int32) (h3 : rg (mg1 v 4) 3) (hy : mg12 v = 0) :
    s4 (ph v k t) (gw (m_M_speed v) (m_B_pauseAfterWiping (ph v k t)) (mg11 v) (mg12 v)) = ph (gm v) k t ∧ I4 (gm v) := by
  unfold gw gm
  rw [q_mx h3, q_g65]
  have e11 : mg11 (ms13 v (w1 v)) + mg13 (ms13 v (w1 v)) = mg11 v + w1 v := rfl
  rw [e11]
  have y0 : ¬ (0 : Int32) < 0 := by decide
  by_cases c : mg11 v + w1 v < 100
  · rw [if_pos c, if_neg (by rw [Int32.not_le]; exact c)]
    refine ⟨rfl, ?_, Or.inr hy⟩
    show ¬ mg12 v < 0
    rw [hy]
    exact y0
  · rw [if_neg c, if_pos (Int32.not_lt.mp c), b_pause_def]
    have e1 : mg1 (ms13 v (w1 v)) 4 = mg1 v 4 := rfl
    have e5 : mg5 (ms13 v (w1 v)) = mg5 v := rfl
    rw [e1, e5]
    by_cases d : mg1 v 4 = 1
    · rw [if_pos d, if_pos d]
      by_cases f : m_M_within (mg5 v) 1 4 = 0
      · rw [if_pos f]
        have g : (if mg5 v < 1 then (0 : Int32) else (if 4 < mg5 v then 0 else 400 - 80 * mg5 v)) = mg12 v := by
          rw [hy]
          by_cases a : mg5 v < 1
          · rw [if_pos a]
          · rw [if_neg a]
            by_cases b : 4 < mg5 v
            · rw [if_pos b]
            · exact absurd ((if_neg a).trans ((if_neg b).trans rfl) : m_M_within (mg5 v) 1 4 = 1) (by rw [f]; decide)
        rw [g]
        refine ⟨rfl, ?_, Or.inl rfl⟩
        show ¬ mg12 v < 0
        rw [hy]
        exact y0
      · rw [if_neg f]
        obtain ⟨a, b⟩ := hk_wb f
        rw [if_neg a, if_neg b]
        exact ⟨rfl, pau_pos f, Or.inl rfl⟩
    · rw [if_neg d, if_neg d, ← hy]
      refine ⟨rfl, ?_, Or.inl rfl⟩
      show ¬ mg12 v < 0
      rw [hy]
      exact y0
theorem gm_keep (v : cM) : ∃ a b c : Int32, gm v = ms13 (ms12 (ms11 v a) b) c := by
  unfold gm
  rw [q_g65]
  repeat' split
  · exact ⟨0, mg12 v, w1 v, rfl⟩
  · exact ⟨0, 400 - 80 * mg5 v, w1 v, rfl⟩
  · exact ⟨0, mg12 v, w1 v, rfl⟩
  · exact ⟨mg11 v + w1 v, mg12 v, w1 v, rfl⟩
theorem q_wiper {v : cM} (k : Nat → Nat → Int32) (t : Int32) (h : Inv v) :
    s4 (ph v k t) (m_Wiper_tick (m_B_wiperSpeed (ph v k t)) (m_B_pauseAfterWiping (ph v k t)) (b4 (ph v k t))) = ph (m_M_tickWiper v) k t ∧ Inv (m_M_tickWiper v) ∧ mg6 (m_M_tickWiper v) = mg6 v ∧ mg24 (m_M_tickWiper v) = mg24 v := by
  obtain ⟨h1, h2, h3, ⟨hp, hq⟩, h5⟩ := h
  have hb : b4 (ph v k t) = (mg11 v, mg12 v, mg13 v) := rfl
  have hI : ∀ a b c : Int32, I4 (ms13 (ms12 (ms11 v a) b) c) → Inv (ms13 (ms12 (ms11 v a) b) c) := fun a b c q => ⟨h1, h2, h3, q, h5⟩
  have go : mg12 v = 0 → s4 (ph v k t) (gw (m_M_speed v) (m_B_pauseAfterWiping (ph v k t)) (mg11 v) (mg12 v)) = ph (gm v) k t ∧ Inv (gm v) ∧ mg6 (gm v) = mg6 v ∧ mg24 (gm v) = mg24 v := by
    intro hy
    obtain ⟨e, i⟩ := q_go k t h3 hy
    refine ⟨e, ?_, ?_⟩
    · obtain ⟨a, b, c, hg⟩ := gm_keep v
      rw [hg] at i ⊢
      exact hI a b c i
    · obtain ⟨a, b, c, hg⟩ := gm_keep v
      rw [hg]
      exact ⟨rfl, rfl⟩
  rw [hb, q_speed k t h3, q_wt, q_mw]
  by_cases c1 : mg11 v = 0
  · rw [if_pos c1, if_pos c1]
    by_cases c2 : m_M_speed v = 0
    · rw [if_pos c2, if_pos c2]
      exact ⟨rfl, hI (mg11 v) 0 0 ⟨by show ¬ (0 : Int32) < 0; decide, Or.inr rfl⟩, rfl, rfl⟩
    · rw [if_neg c2, if_neg c2]
      by_cases c3 : mg12 v ≤ 0
      · rw [if_pos c3, if_pos c3]
        exact go (Int32.le_antisymm c3 (Int32.not_lt.mp hp))
      · rw [if_neg c3, if_neg c3]
        refine ⟨rfl, hI (mg11 v) (mg12 v - 1) 0 ⟨?_, Or.inl c1⟩, rfl, rfl⟩
        show ¬ mg12 v - 1 < 0
        have l1 : (1 : Int32).toInt = 1 := rfl
        have l0 : (0 : Int32).toInt = 0 := rfl
        have u1 := Int32.toInt_lt (mg12 v)
        rw [Int32.le_iff_toInt_le] at c3
        rw [Int32.lt_iff_toInt_lt, i32_sub (by omega) (by omega)]
        omega
  · rw [if_neg c1, if_neg c1]
    exact go (hq.resolve_left c1)
/-! the interior light -/
theorem q_int {v : cM} (k : Nat → Nat → Int32) (t : Int32) (h : Inv v) : ∃ w : cM, m_B_tickInterior (ph v k t) = ph w k t ∧ (if mg1 v 8 = 1 then g_M_tick_48_1 v else (if mg3 v = 0 then g_M_tick_48_0 v else g_M_tick_48_1 v)) = g_M_tick_90 w ∧ Inv w ∧ mg6 w = mg6 v ∧ mg24 w = mg24 v := by
  obtain ⟨h1, h2, h3, h4, h5, h6⟩ := h
  have hI : ∀ a : Int32, rg a 100 → Inv (ms14 v a) := fun a q => ⟨h1, h2, h3, h4, q, h6⟩
  have eb : m_B_tickInterior (ph v k t) = if mg3 v = 0 then (if mg1 v 8 = 1 then ph (ms14 v (mn (mg14 v + 1) 100)) k t else ph (ms14 v (mx (mg14 v - 1) 0)) k t) else ph (ms14 v (mn (mg14 v + 1) 100)) k t := rfl
  have e1 : g_M_tick_48_1 v = if 100 ≤ mg14 v then g_M_tick_90 (ms14 v (mg14 v + 0)) else g_M_tick_90 (ms14 v (mg14 v + 1)) := rfl
  have e0 : g_M_tick_48_0 v = if mg14 v ≤ 0 then g_M_tick_90 (ms14 v (mg14 v + 0)) else g_M_tick_90 (ms14 v (mg14 v + -1)) := rfl
  obtain ⟨j, hj, hje⟩ := h5
  have up : g_M_tick_48_1 v = g_M_tick_90 (ms14 v (mn (mg14 v + 1) 100)) ∧ rg (mn (mg14 v + 1) 100) 100 := by
    rw [e1, hje, Int32.add_zero, nI_1]
    unfold mn
    have e100 : (100 : Int32) = nI 100 := rfl
    by_cases c : j = 100
    · subst c
      rw [if_pos (by rw [e100, nI_leI (by omega) (by omega)]; omega), if_pos (by rw [e100, nI_ltI (by omega) (by omega)]; omega)]
      exact ⟨rfl, 100, Nat.le_refl _, rfl⟩
    · rw [if_neg (by rw [e100, nI_leI (by omega) (by omega)]; omega), if_neg (by rw [e100, nI_ltI (by omega) (by omega)]; omega)]
      exact ⟨rfl, rg_nI (by omega)⟩
  have dn : g_M_tick_48_0 v = g_M_tick_90 (ms14 v (mx (mg14 v - 1) 0)) ∧ rg (mx (mg14 v - 1) 0) 100 := by
    rw [e0, hje, Int32.add_zero]
    unfold mx
    have z0 : (0 : Int32) = nI 0 := rfl
    cases j with
    | zero =>
      rw [if_pos (by decide), if_pos (by decide)]
      exact ⟨rfl, 0, Nat.zero_le _, rfl⟩
    | succ i =>
      have ea : nI (i + 1) + -1 = nI i := by rw [← Int32.sub_eq_add_neg, nI_pred]
      rw [nI_pred, ea, if_neg (nI_nle (by omega) (by omega)), if_neg (nI_pos (by omega))]
      exact ⟨rfl, rg_nI (by omega)⟩
  rw [eb]
  by_cases c8 : mg1 v 8 = 1
  · rw [if_pos c8, if_pos c8]
    exact ⟨_, by rw [ite_self], up.1, hI _ up.2, rfl, rfl⟩
  · rw [if_neg c8, if_neg c8]
    by_cases c3 : mg3 v = 0
    · rw [if_pos c3, if_pos c3]
      exact ⟨_, rfl, dn.1, hI _ dn.2, rfl, rfl⟩
    · rw [if_neg c3, if_neg c3]
      exact ⟨_, rfl, up.1, hI _ up.2, rfl, rfl⟩
/-! a whole tick -/
theorem m_tick_def (v : cM) : m_M_tick v = (if mg1 (m_M_tickWiper (m_M_tickSide 1 (m_M_tickSide 0 (ms6 v (mg6 v + 1))))) 8 = 1 then g_M_tick_48_1 (m_M_tickWiper (m_M_tickSide 1 (m_M_tickSide 0 (ms6 v (mg6 v + 1))))) else (if mg3 (m_M_tickWiper (m_M_tickSide 1 (m_M_tickSide 0 (ms6 v (mg6 v + 1))))) = 0 then g_M_tick_48_0 (m_M_tickWiper (m_M_tickSide 1 (m_M_tickSide 0 (ms6 v (mg6 v + 1))))) else g_M_tick_48_1 (m_M_tickWiper (m_M_tickSide 1 (m_M_tickSide 0 (ms6 v (mg6 v + 1))))))) := rfl
theorem q_tick2 {v3 v : cM} (k : Nat → Nat → Int32) (t : Int32) (h : Inv v3) (h6 : mg6 v3 = t + 1) (h24 : mg24 v3 = mg24 v) (hk : KK k v) :
    RV (f_B_tick_80 (f_B_tick_64_3 (f_B_tick_64_2 (f_B_tick_64_1 (f_B_tick_64 (m_B_tickInterior (ph v3 k t))))))) (if mg1 v3 8 = 1 then g_M_tick_48_1 v3 else (if mg3 v3 = 0 then g_M_tick_48_0 v3 else g_M_tick_48_1 v3)) := by
  obtain ⟨w, d1, d2, d3, d4, d5⟩ := q_int k t h
  obtain ⟨e1, e2, e3, e4⟩ := q_win k t 0 0 rfl (by decide) d3
  obtain ⟨f1, f2, f3, f4⟩ := q_win k t 1 1 rfl (by decide) e2
  obtain ⟨g1, g2, g3, g4⟩ := q_win k t 2 2 rfl (by decide) f2
  obtain ⟨i1, i2, i3, i4⟩ := q_win k t 3 3 rfl (by decide) g2
  have hg : g_M_tick_90 w = m_M_tickWindow 3 (m_M_tickWindow 2 (m_M_tickWindow 1 (m_M_tickWindow 0 w))) := rfl
  have E0 : ∀ z, f_B_tick_64 (ph z k t) = s5 (ph z k t) (va_up (b5 (ph z k t)) 0 (m_Window_tick (b5 (ph z k t) 0))) := fun z => rfl
  have E1 : ∀ z, f_B_tick_64_1 (ph z k t) = s5 (ph z k t) (va_up (b5 (ph z k t)) 1 (m_Window_tick (b5 (ph z k t) 1))) := fun z => rfl
  have E2 : ∀ z, f_B_tick_64_2 (ph z k t) = s5 (ph z k t) (va_up (b5 (ph z k t)) 2 (m_Window_tick (b5 (ph z k t) 2))) := fun z => rfl
  have E3 : ∀ z, f_B_tick_64_3 (ph z k t) = s5 (ph z k t) (va_up (b5 (ph z k t)) 3 (m_Window_tick (b5 (ph z k t) 3))) := fun z => rfl
  have F : ∀ z, f_B_tick_80 (ph z k t) = ph z k (t + 1) := fun z => rfl
  rw [d2, hg, d1, E0, e1, E1, f1, E2, g1, E3, i1, F]
  refine ⟨i2, k, ?_, ?_⟩
  · rw [i3, g3, f3, e3, d4, h6]
  · unfold KK
    rw [i4, g4, f4, e4, d5, h24]
    exact hk
theorem b_tick_def (u : cB) : m_B_tick u = f_B_tick_80 (f_B_tick_64_3 (f_B_tick_64_2 (f_B_tick_64_1 (f_B_tick_64 (m_B_tickInterior (f_B_tick_44 (f_B_tick_23_1 (f_B_tick_23 u)))))))) := rfl
theorem q_tick {u : cB} {v : cM} (h : RV u v) : RV (m_B_tick u) (m_M_tick v) := by
  obtain ⟨hI, k, rfl, hk⟩ := h
  have hI0 : Inv (ms6 v (mg6 v + 1)) := hI
  obtain ⟨a1, a2, a3, a4⟩ := q_side k (mg6 v) 0 0 rfl (Or.inl rfl) hI0
  obtain ⟨y1, y2, y3, y4⟩ := q_side k (mg6 v) 1 1 rfl (Or.inr rfl) a2
  obtain ⟨c1, c2, c3, c4⟩ := q_wiper k (mg6 v) y2
  have A0 : ph v k (mg6 v) = ph (ms6 v (mg6 v + 1)) k (mg6 v) := rfl
  have A1 : ∀ z, f_B_tick_23 (ph z k (mg6 v)) = s3 (ph z k (mg6 v)) (va_up (b3 (ph z k (mg6 v))) 0 (m_Side_tick (m_B_turnBulbIsOut 0 (ph z k (mg6 v))) (m_B_isWanted 0 (ph z k (mg6 v))) (b3 (ph z k (mg6 v)) 0))) := fun z => rfl
  have B1 : ∀ z, f_B_tick_23_1 (ph z k (mg6 v)) = s3 (ph z k (mg6 v)) (va_up (b3 (ph z k (mg6 v))) 1 (m_Side_tick (m_B_turnBulbIsOut 1 (ph z k (mg6 v))) (m_B_isWanted 1 (ph z k (mg6 v))) (b3 (ph z k (mg6 v)) 1))) := fun z => rfl
  have C1 : ∀ z, f_B_tick_44 (ph z k (mg6 v)) = s4 (ph z k (mg6 v)) (m_Wiper_tick (m_B_wiperSpeed (ph z k (mg6 v))) (m_B_pauseAfterWiping (ph z k (mg6 v))) (b4 (ph z k (mg6 v)))) := fun z => rfl
  rw [m_tick_def, b_tick_def, A0, A1, a1, B1, y1, C1, c1]
  refine q_tick2 (v := v) k (mg6 v) c2 ?_ ?_ hk
  · rw [c3, y3, a3]
    rfl
  · rw [c4, y4, a4]
    rfl
