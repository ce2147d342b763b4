theorem q_wiper {v : cM} (k : Nat → Nat → Int32) (t : Int32) (h : Inv v) :
    s4 (ph v k t) (m_Wiper_tick (m_B_wiperSpeed (ph v k t)) (m_B_pauseAfterWiping (ph v k t)) (b4 (ph v k t))) = ph (m_M_tickWiper v) k t ∧ Inv (m_M_tickWiper v) ∧ mg6 (m_M_tickWiper v) = mg6 v ∧ mg24 (m_M_tickWiper v) = mg24 v := by
  obtain ⟨h1, h2, h3, ⟨hp, hq⟩, h5⟩ := h
  have hb : b4 (ph v k t) = (mg11 v, mg12 v, mg13 v) := rfl
  have hI : ∀ a b c : Int32, I4 (ms13 (ms12 (ms11 v a) b) c) → Inv (ms13 (ms12 (ms11 v a) b) c) := fun a b c q => ⟨h1, h2, h3, q, h5⟩
  have hI2 : ∀ y w : Int32, I4 (ms12 (ms13 v w) y) → Inv (ms12 (ms13 v w) y) ∧ mg6 (ms12 (ms13 v w) y) = mg6 v ∧ mg24 (ms12 (ms13 v w) y) = mg24 v := fun y w q => ⟨⟨h1, h2, h3, q, h5⟩, rfl, rfl⟩
  have go : mg12 v = 0 → s4 (ph v k t) (gw (m_M_speed v) (m_B_pauseAfterWiping (ph v k t)) (mg11 v) (mg12 v)) = ph (gm v) k t ∧ Inv (gm v) ∧ mg6 (gm v) = mg6 v ∧ mg24 (gm v) = mg24 v := by
    intro hy
    obtain ⟨e, i⟩ := q_go k t h3 hy
    refine ⟨e, ?_⟩
    obtain ⟨a, b, c, hg⟩ := gm_keep v
    rw [hg] at i ⊢
    exact ⟨hI a b c i, rfl, rfl⟩
  rw [hb, q_speed k t h3, q_wt, q_mw]
  by_cases c1 : mg11 v = 0
  · rw [if_pos c1, if_pos c1]
    by_cases c2 : m_M_speed v = 0
    · rw [if_pos c2, if_pos c2]
      exact ⟨go4 v k t 0 0, hI2 0 0 (i4d v 0 0 (by decide) (Or.inr rfl))⟩
    · rw [if_neg c2, if_neg c2]
      by_cases c3 : mg12 v ≤ 0
      · rw [if_pos c3, if_pos c3]
        exact go (Int32.le_antisymm c3 (Int32.not_lt.mp hp))
      · rw [if_neg c3, if_neg c3]
        have hm : ¬ mg12 v - 1 < 0 := by
          have l1 : (1 : Int32).toInt = 1 := rfl
          have l0 : (0 : Int32).toInt = 0 := rfl
          have u1 := Int32.toInt_lt (mg12 v)
          rw [Int32.le_iff_toInt_le] at c3
          rw [Int32.lt_iff_toInt_lt, hi_sub (by omega) (by omega)]
          omega
        exact ⟨go4 v k t 0 _, hI2 _ 0 (i4d v _ 0 hm (Or.inl c1))⟩
  · rw [if_neg c1, if_neg c1]
    exact go (hq.resolve_left c1)
