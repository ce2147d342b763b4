/-! the wiper's tick -/
theorem rg3 {x : Int32} (h : rg x 3) : x = 0 ∨ x = 1 ∨ x = 2 ∨ x = 3 := by
  obtain ⟨j, hj, rfl⟩ := h
  have h : j = 0 ∨ j = 1 ∨ j = 2 ∨ j = 3 := by omega
  rcases h with rfl | rfl | rfl | rfl
  · exact Or.inl rfl
  · exact Or.inr (Or.inl rfl)
  · exact Or.inr (Or.inr (Or.inl rfl))
  · exact Or.inr (Or.inr (Or.inr rfl))
theorem m_speed_def (v : cM) : m_M_speed v = if mg1 v 5 = 0 then 0 else (if mg1 v 4 = 1 then (if mg5 v = 0 then 0 else (if 8 ≤ mg5 v then 2 else 1)) else (if mg1 v 4 = 0 then 0 else mg1 v 4 - 1)) := rfl
theorem b_speed_def (v : cM) (k : Nat → Nat → Int32) (t : Int32) : m_B_wiperSpeed (ph v k t) = if mg1 v 5 = 0 then 0 else (if mg1 v 4 = 1 then (if mg5 v = 0 then 0 else (if 8 ≤ mg5 v then 2 else 1)) else (if mg1 v 4 = 2 then 1 else (if mg1 v 4 = 3 then 2 else 0))) := rfl
theorem q_speed {v : cM} (k : Nat → Nat → Int32) (t : Int32) (h : rg (mg1 v 4) 3) : m_B_wiperSpeed (ph v k t) = m_M_speed v := by
  rw [m_speed_def, b_speed_def]
  have d1 : (2 : Int32) - 1 = 1 := by decide
  have d2 : (3 : Int32) - 1 = 2 := by decide
  have n01 : ¬ (0 : Int32) = 1 := by decide
  have n02 : ¬ (0 : Int32) = 2 := by decide
  have n03 : ¬ (0 : Int32) = 3 := by decide
  have n21 : ¬ (2 : Int32) = 1 := by decide
  have n20 : ¬ (2 : Int32) = 0 := by decide
  have n31 : ¬ (3 : Int32) = 1 := by decide
  have n32 : ¬ (3 : Int32) = 2 := by decide
  have n30 : ¬ (3 : Int32) = 0 := by decide
  rcases rg3 h with e | e | e | e
  · rw [e, if_neg n01, if_neg n02, if_neg n03, if_neg n01, if_pos rfl]
  · rw [e, if_pos rfl, if_pos rfl]
  · rw [e, if_neg n21, if_pos rfl, if_neg n21, if_neg n20, d1]
  · rw [e, if_neg n31, if_neg n32, if_pos rfl, if_neg n31, if_neg n30, d2]
theorem q_s012 {v : cM} (h : rg (mg1 v 4) 3) : m_M_speed v = 0 ∨ m_M_speed v = 1 ∨ m_M_speed v = 2 := by
  rw [← q_speed (fun _ _ => 0) 0 h, b_speed_def]
  split
  · exact Or.inl rfl
  · split
    · split
      · exact Or.inl rfl
      · split
        · exact Or.inr (Or.inr rfl)
        · exact Or.inr (Or.inl rfl)
    · split
      · exact Or.inr (Or.inl rfl)
      · split
        · exact Or.inr (Or.inr rfl)
        · exact Or.inl rfl
def w1 (v : cM) : Int32 := if m_M_speed v = 0 then 1 else m_M_speed v
theorem q_mx {v : cM} (h : rg (mg1 v 4) 3) : mx (m_M_speed v) 1 = w1 v := by
  unfold w1
  rcases q_s012 h with e | e | e <;> rw [e] <;> decide
def gw (sp pa x y : Int32) : cS := if x + mx sp 1 < 100 then (x + mx sp 1, y, mx sp 1) else (0, pa, mx sp 1)
theorem q_wt (sp pa x y w : Int32) : m_Wiper_tick sp pa (x, y, w) = if x = 0 then (if sp = 0 then (x, 0, 0) else (if y ≤ 0 then gw sp pa x y else (x, y - 1, 0))) else gw sp pa x y := by
  have g0 : ∀ z : cS, z = (x, y, 0) → (if ((f_Wiper_tick_40 (f_Wiper_tick_27 sp z)).1) < (100 : Int32) then (f_Wiper_tick_40 (f_Wiper_tick_27 sp z)) else (f_Wiper_tick_59 pa (f_Wiper_tick_54 (f_Wiper_tick_40 (f_Wiper_tick_27 sp z))))) = gw sp pa x y := by
    intro z hz
    subst hz
    rfl
  have f2 : f_Wiper_tick_2 (x, y, w) = (x, y, 0) := rfl
  have sd : m_Wiper_staysParked sp (x, y, 0) = if sp = 0 then ((1 : Int32), ((x, 0, 0) : cS)) else (if y ≤ 0 then ((0 : Int32), ((x, y, 0) : cS)) else ((1 : Int32), ((x, y - 1, 0) : cS))) := rfl
  unfold m_Wiper_tick
  rw [f2]
  have n10 : ¬ (1 : Int32) = 0 := by decide
  by_cases h1 : x = 0
  · refine hk_tp h1 ?_
    rw [sd]
    by_cases h2 : sp = 0
    · rw [if_pos h2, if_pos h2]
      exact (if_neg n10).trans rfl
    · rw [if_neg h2, if_neg h2]
      by_cases h3 : y ≤ 0
      · rw [if_pos h3, if_pos h3]
        exact (if_pos rfl).trans (g0 _ rfl)
      · rw [if_neg h3, if_neg h3]
        exact (if_neg n10).trans rfl
  · exact hk_tn h1 (g0 _ rfl)
