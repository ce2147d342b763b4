/-! the interior light -/
theorem q_int {v : cM} (k : Nat → Nat → Int32) (t : Int32) (h : Inv v) : ∃ w : cM, m_B_tickInterior (ph v k t) = ph w k t ∧ (if mg1 v 8 = 1 then g_M_tick_48_1 v else (if mg3 v = 0 then g_M_tick_48_0 v else g_M_tick_48_1 v)) = g_M_tick_90 w ∧ Inv w ∧ mg6 w = mg6 v ∧ mg24 w = mg24 v := by
  obtain ⟨h1, h2, h3, h4, h5, h6⟩ := h
  have hI : ∀ a : Int32, rg a 100 → Inv (ms14 v a) := fun a q => ⟨h1, h2, h3, h4, q, h6⟩
  have eb : m_B_tickInterior (ph v k t) = if mg3 v = 0 then (if mg1 v 8 = 1 then ph (ms14 v (mn (mg14 v + 1) 100)) k t else ph (ms14 v (mx (mg14 v - 1) 0)) k t) else ph (ms14 v (mn (mg14 v + 1) 100)) k t := rfl
  have e1 : g_M_tick_48_1 v = if 100 ≤ mg14 v then g_M_tick_90 (ms14 v (mg14 v + 0)) else g_M_tick_90 (ms14 v (mg14 v + 1)) := rfl
  have e0 : g_M_tick_48_0 v = if mg14 v ≤ 0 then g_M_tick_90 (ms14 v (mg14 v + 0)) else g_M_tick_90 (ms14 v (mg14 v + -1)) := rfl
  obtain ⟨j, hj, hje⟩ := h5
  have up : g_M_tick_48_1 v = g_M_tick_90 (ms14 v (mn (mg14 v + 1) 100)) ∧ rg (mn (mg14 v + 1) 100) 100 := by
    rw [e1, hje, Int32.add_zero, nI_1]
    unfold mn
    have e100 : (100 : Int32) = nI 100 := rfl
    by_cases c : j = 100
    · subst c
      rw [if_pos (by rw [e100, nI_leI (by omega) (by omega)]; omega), if_pos (by rw [e100, nI_ltI (by omega) (by omega)]; omega)]
      exact ⟨rfl, 100, Nat.le_refl _, rfl⟩
    · rw [if_neg (by rw [e100, nI_leI (by omega) (by omega)]; omega), if_neg (by rw [e100, nI_ltI (by omega) (by omega)]; omega)]
      exact ⟨rfl, rg_nI (by omega)⟩
  have dn : g_M_tick_48_0 v = g_M_tick_90 (ms14 v (mx (mg14 v - 1) 0)) ∧ rg (mx (mg14 v - 1) 0) 100 := by
    rw [e0, hje, Int32.add_zero]
    unfold mx
    have z0 : (0 : Int32) = nI 0 := rfl
    cases j with
    | zero =>
      rw [if_pos (by decide), if_pos (by decide)]
      exact ⟨rfl, 0, Nat.zero_le _, rfl⟩
    | succ i =>
      have ea : nI (i + 1) + -1 = nI i := by rw [← Int32.sub_eq_add_neg, nI_pred]
      rw [nI_pred, ea, if_neg (nI_nle (by omega) (by omega)), if_neg (nI_pos (by omega))]
      exact ⟨rfl, rg_nI (by omega)⟩
  rw [eb]
  by_cases c8 : mg1 v 8 = 1
  · rw [if_pos c8, if_pos c8]
    exact ⟨_, by rw [ite_self], up.1, hI _ up.2, rfl, rfl⟩
  · rw [if_neg c8, if_neg c8]
    by_cases c3 : mg3 v = 0
    · rw [if_pos c3, if_pos c3]
      exact ⟨_, rfl, dn.1, hI _ dn.2, rfl, rfl⟩
    · rw [if_neg c3, if_neg c3]
      exact ⟨_, rfl, up.1, hI _ up.2, rfl, rfl⟩
