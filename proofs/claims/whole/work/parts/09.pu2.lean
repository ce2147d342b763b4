theorem k3_f_Loads_add_21 (p1 : Int32) (u : cL) : l3 (f_Loads_add_21 p1 u) = l3 u := rfl
theorem k3_f_Loads_add_31 (p2 : Int32) (u : cL) : l3 (f_Loads_add_31 p2 u) = l3 u := rfl
theorem k3_f_Loads_setOff_11 (p1 : Int32) (p2 : Int32) (u : cL) : l3 (f_Loads_setOff_11 p1 p2 u) = l3 u := rfl
theorem k3_f_Loads_measure_18 (u : cL) : l3 (f_Loads_measure_18 u) = l3 u := rfl
theorem k3_f_Loads_measure_39 (u : cL) : l3 (f_Loads_measure_39 u) = l3 u := rfl
theorem k3_f_Loads_measure_74 (u : cL) : l3 (f_Loads_measure_74 u) = l3 u := rfl
theorem k3_f_Loads_measure_52 (u : cL) : l3 (f_Loads_measure_52 u) = l3 u := rfl
theorem k3_f_Loads_measure_39_1 (u : cL) : l3 (f_Loads_measure_39_1 u) = l3 u := rfl
theorem k3_f_Loads_measure_18_1 (u : cL) : l3 (f_Loads_measure_18_1 u) = l3 u := rfl
theorem k2_f_B_noteOutputs_18 (k : Nat) (u : cB) : b2 (f_B_noteOutputs_18 k u) = b2 u := rfl
theorem k6_f_B_noteOutputs_18 (k : Nat) (u : cB) : b6 (f_B_noteOutputs_18 k u) = b6 u := rfl
theorem k2_f_B_beginWantedSides_21 (u : cB) : b2 (f_B_beginWantedSides_21 u) = b2 u := rfl
theorem k6_f_B_beginWantedSides_21 (u : cB) : b6 (f_B_beginWantedSides_21 u) = b6 u := rfl
theorem k2_f_B_beginWantedSides_21_1 (u : cB) : b2 (f_B_beginWantedSides_21_1 u) = b2 u := rfl
theorem k6_f_B_beginWantedSides_21_1 (u : cB) : b6 (f_B_beginWantedSides_21_1 u) = b6 u := rfl
theorem k2_f_B_followBrightness_24 (u : cB) : b2 (f_B_followBrightness_24 u) = b2 u := rfl
theorem k6_f_B_followBrightness_24 (u : cB) : b6 (f_B_followBrightness_24 u) = b6 u := rfl
theorem k2_f_B_followBrightness_9 (u : cB) : b2 (f_B_followBrightness_9 u) = b2 u := rfl
theorem k6_f_B_followBrightness_9 (u : cB) : b6 (f_B_followBrightness_9 u) = b6 u := rfl
theorem k2_f_B_endUnwantedSide_23 (p1 : Int32) (u : cB) : b2 (f_B_endUnwantedSide_23 p1 u) = b2 u := rfl
theorem k6_f_B_endUnwantedSide_23 (p1 : Int32) (u : cB) : b6 (f_B_endUnwantedSide_23 p1 u) = b6 u := rfl
theorem k2_f_B_tickInterior_30 (u : cB) : b2 (f_B_tickInterior_30 u) = b2 u := rfl
theorem k6_f_B_tickInterior_30 (u : cB) : b6 (f_B_tickInterior_30 u) = b6 u := rfl
theorem k2_f_B_tickInterior_47 (u : cB) : b2 (f_B_tickInterior_47 u) = b2 u := rfl
theorem k6_f_B_tickInterior_47 (u : cB) : b6 (f_B_tickInterior_47 u) = b6 u := rfl
theorem k2_f_B_tick_23 (u : cB) : b2 (f_B_tick_23 u) = b2 u := rfl
theorem k6_f_B_tick_23 (u : cB) : b6 (f_B_tick_23 u) = b6 u := rfl
theorem k2_f_B_tick_23_1 (u : cB) : b2 (f_B_tick_23_1 u) = b2 u := rfl
theorem k6_f_B_tick_23_1 (u : cB) : b6 (f_B_tick_23_1 u) = b6 u := rfl
theorem k2_f_B_tick_44 (u : cB) : b2 (f_B_tick_44 u) = b2 u := rfl
theorem k6_f_B_tick_44 (u : cB) : b6 (f_B_tick_44 u) = b6 u := rfl
theorem k2_f_B_tick_64 (u : cB) : b2 (f_B_tick_64 u) = b2 u := rfl
theorem k6_f_B_tick_64 (u : cB) : b6 (f_B_tick_64 u) = b6 u := rfl
theorem k2_f_B_tick_64_1 (u : cB) : b2 (f_B_tick_64_1 u) = b2 u := rfl
theorem k6_f_B_tick_64_1 (u : cB) : b6 (f_B_tick_64_1 u) = b6 u := rfl
theorem k2_f_B_tick_64_2 (u : cB) : b2 (f_B_tick_64_2 u) = b2 u := rfl
theorem k6_f_B_tick_64_2 (u : cB) : b6 (f_B_tick_64_2 u) = b6 u := rfl
theorem k2_f_B_tick_64_3 (u : cB) : b2 (f_B_tick_64_3 u) = b2 u := rfl
theorem k6_f_B_tick_64_3 (u : cB) : b6 (f_B_tick_64_3 u) = b6 u := rfl
theorem k2_f_B_tick_80 (u : cB) : b2 (f_B_tick_80 u) = b2 u := rfl
theorem k6_f_B_tick_80 (u : cB) : b6 (f_B_tick_80 u) = b6 u := rfl
theorem k2_f_B_giveBack_29 (p2 : Int32) (u : cB) : b2 (f_B_giveBack_29 p2 u) = b2 u := rfl
theorem k6_f_B_giveBack_29 (p2 : Int32) (u : cB) : b6 (f_B_giveBack_29 p2 u) = b6 u := rfl
theorem k2_f_B_giveBack_21 (p1 : Int32) (p2 : Int32) (u : cB) : b2 (f_B_giveBack_21 p1 p2 u) = b2 u := rfl
theorem k6_f_B_giveBack_21 (p1 : Int32) (p2 : Int32) (u : cB) : b6 (f_B_giveBack_21 p1 p2 u) = b6 u := rfl
theorem k2_f_B_input_36 (p1 : Int32) (p2 : Int32) (u : cB) : b2 (f_B_input_36 p1 p2 u) = b2 u := rfl
theorem k6_f_B_input_36 (p1 : Int32) (p2 : Int32) (u : cB) : b6 (f_B_input_36 p1 p2 u) = b6 u := rfl
theorem k2_f_B_pinch_30 (p1 : Int32) (p2 : Int32) (u : cB) : b2 (f_B_pinch_30 p1 p2 u) = b2 u := rfl
theorem k6_f_B_pinch_30 (p1 : Int32) (p2 : Int32) (u : cB) : b6 (f_B_pinch_30 p1 p2 u) = b6 u := rfl
theorem k2_f_B_learn_16 (p1 : Int32) (u : cB) : b2 (f_B_learn_16 p1 u) = b2 u := rfl
theorem k6_f_B_learn_16 (p1 : Int32) (u : cB) : b6 (f_B_learn_16 p1 u) = b6 u := rfl
theorem k2_f_B_shed_18 (p1 : Int32) (u : cB) : b2 (f_B_shed_18 p1 u) = b2 u := rfl
theorem k2_f_B_load_18 (p1 : Int32) (p2 : Int32) (u : cB) : b2 (f_B_load_18 p1 p2 u) = b2 u := rfl
theorem k6_f_B_bulb_25 (p1 : Int32) (u : cB) : b6 (f_B_bulb_25 p1 u) = b6 u := rfl
theorem k6_f_B_bulb_25_1 (p1 : Int32) (u : cB) : b6 (f_B_bulb_25_1 p1 u) = b6 u := rfl
theorem k2_f_B_rain_19 (p1 : Int32) (u : cB) : b2 (f_B_rain_19 p1 u) = b2 u := rfl
theorem k6_f_B_rain_19 (p1 : Int32) (u : cB) : b6 (f_B_rain_19 p1 u) = b6 u := rfl
theorem k2_f_B_window_30 (p1 : Int32) (p2 : Int32) (u : cB) : b2 (f_B_window_30 p1 p2 u) = b2 u := rfl
theorem k6_f_B_window_30 (p1 : Int32) (p2 : Int32) (u : cB) : b6 (f_B_window_30 p1 p2 u) = b6 u := rfl
theorem k2_f_B_crash_16 (u : cB) : b2 (f_B_crash_16 u) = b2 u := rfl
theorem k6_f_B_crash_16 (u : cB) : b6 (f_B_crash_16 u) = b6 u := rfl
theorem k2_f_B_crash_37 (u : cB) : b2 (f_B_crash_37 u) = b2 u := rfl
theorem k6_f_B_crash_37 (u : cB) : b6 (f_B_crash_37 u) = b6 u := rfl
theorem k2_f_B_crash_37_1 (u : cB) : b2 (f_B_crash_37_1 u) = b2 u := rfl
theorem k6_f_B_crash_37_1 (u : cB) : b6 (f_B_crash_37_1 u) = b6 u := rfl
theorem k2_f_B_crash_37_2 (u : cB) : b2 (f_B_crash_37_2 u) = b2 u := rfl
theorem k6_f_B_crash_37_2 (u : cB) : b6 (f_B_crash_37_2 u) = b6 u := rfl
theorem k2_f_B_crash_37_3 (u : cB) : b2 (f_B_crash_37_3 u) = b2 u := rfl
theorem k6_f_B_crash_37_3 (u : cB) : b6 (f_B_crash_37_3 u) = b6 u := rfl
theorem k2_f_B_memory_61 (p1 : Int32) (p2 : Int32) (u : cB) : b2 (f_B_memory_61 p1 p2 u) = b2 u := rfl
theorem k6_f_B_memory_61 (p1 : Int32) (p2 : Int32) (u : cB) : b6 (f_B_memory_61 p1 p2 u) = b6 u := rfl
theorem k2_f_B_memory_61_1 (p1 : Int32) (p2 : Int32) (u : cB) : b2 (f_B_memory_61_1 p1 p2 u) = b2 u := rfl
theorem k6_f_B_memory_61_1 (p1 : Int32) (p2 : Int32) (u : cB) : b6 (f_B_memory_61_1 p1 p2 u) = b6 u := rfl
theorem k2_f_B_trailer_6 (p1 : Int32) (u : cB) : b2 (f_B_trailer_6 p1 u) = b2 u := rfl
theorem k6_f_B_trailer_6 (p1 : Int32) (u : cB) : b6 (f_B_trailer_6 p1 u) = b6 u := rfl
/-! PU2: rows on the functions of the methods that the walks ask for -/
def IL (u : cL) : Prop := (l3 u).toNatClampNeg ≤ 12 ∧ l3 u = nI (l3 u).toNatClampNeg
def Iv (u : cB) : Prop := (∀ j : Nat, b2 u j = 0 ∨ b2 u j = 1) ∧ IL (b6 u)
theorem hk_bl {p M : Int32} {N : Nat} (h : ¬ m_B_isBelow p M = 0) (hM : M = nI N) : ∃ j : Nat, j < 2 ^ 31 ∧ j < N ∧ p = nI j := by
  unfold m_B_isBelow at h
  by_cases h1 : p < 0
  · rw [if_pos h1] at h
    exact absurd rfl h
  · rw [if_neg h1] at h
    by_cases h2 : M ≤ p
    · rw [if_pos h2] at h
      exact absurd rfl h
    · obtain ⟨j, hj, rfl⟩ := nI_of h1
      refine ⟨j, hj, ?_, rfl⟩
      rcases Nat.lt_or_ge j N with q | q
      · exact q
      · exact absurd (by rw [hM]; exact nI_le q hj) h2
theorem hk_ib {p M : Int32} {N : Nat} (h : ¬ m_B_isBelow p M = 0) (hM : M = nI N) : vp_in p N := by
  obtain ⟨j, hj, hN, rfl⟩ := hk_bl h hM
  exact vp_in_iff.mpr (by rw [nI_toInt hj]; omega)
theorem hk_b2 {p : Int32} (h : ¬ m_B_isBelow p 2 = 0) : p = 0 ∨ p = 1 := by
  obtain ⟨j, hj, hN, rfl⟩ := hk_bl (N := 2) h rfl
  have h : j = 0 ∨ j = 1 := by omega
  rcases h with rfl | rfl <;> simp [nI]
theorem hk_b4 {p : Int32} (h : ¬ m_B_isBelow p 4 = 0) : p = 0 ∨ p = 1 ∨ p = 2 ∨ p = 3 := by
  obtain ⟨j, hj, hN, rfl⟩ := hk_bl (N := 4) h rfl
  have h : j = 0 ∨ j = 1 ∨ j = 2 ∨ j = 3 := by omega
  rcases h with rfl | rfl | rfl | rfl <;> simp [nI]
theorem hk_w4 {p : Int32} (h : ¬ m_B_isBelow p 5 = 0) (h4 : ¬ 4 ≤ p) : p = 0 ∨ p = 1 ∨ p = 2 ∨ p = 3 := by
  obtain ⟨j, hj, hN, rfl⟩ := hk_bl (N := 5) h rfl
  have h : j = 0 ∨ j = 1 ∨ j = 2 ∨ j = 3 ∨ j = 4 := by omega
  rcases h with rfl | rfl | rfl | rfl | rfl
  iterate 4 simp [nI]
  exact absurd (by decide) h4
theorem hk_ul {p M : Int32} {N : Nat} (h : ¬ m_B_isUpTo p M = 0) (hM : M = nI N) (hN : N < 2 ^ 31) : ∃ j : Nat, j ≤ N ∧ p = nI j := by
  unfold m_B_isUpTo at h
  by_cases h1 : p < 0
  · rw [if_pos h1] at h
    exact absurd rfl h
  · rw [if_neg h1] at h
    by_cases h2 : M < p
    · rw [if_pos h2] at h
      exact absurd rfl h
    · obtain ⟨j, hj, rfl⟩ := nI_of h1
      refine ⟨j, ?_, rfl⟩
      rcases Nat.lt_or_ge N j with q | q
      · exact absurd (by rw [hM]; exact nI_lt q hj) h2
      · exact q
theorem hk_u {p M : Int32} {N : Nat} (h : ¬ m_B_isUpTo p M = 0) (hM : M = nI N) (hN : N < 2 ^ 31) : p.toNatClampNeg < 2 ^ 31 ∧ p = nI p.toNatClampNeg := by
  obtain ⟨j, hj, rfl⟩ := hk_ul h hM hN
  rw [nI_clamp (by omega)]
  exact ⟨by omega, rfl⟩
theorem z_Side_isBright (p : Int32) (x : cS) : m_Side_isBright p x = 0 ∨ m_Side_isBright p x = 1 := by
  unfold m_Side_isBright
  split
  · exact Or.inl rfl
  · split
    · exact Or.inl rfl
    · exact Or.inr rfl
theorem hk_inL {u : cL} (hI : IL u) (h1 : l3 u < 12) : vp_in (l3 u) 12 := by
  obtain ⟨a, b⟩ := hI
  rw [b] at h1 ⊢
  have h2 : nI (l3 u).toNatClampNeg < nI 12 := h1
  rw [nI_ltI (by omega) (by decide)] at h2
  exact vp_in_nI h2 (by decide)
theorem hk_inR {u : cL} {p : Int32} (hI : IL u) (h : ¬ m_Loads_has p u = 0) : vp_in (p - 1) 12 := by
  unfold m_Loads_has at h
  by_cases h1 : p < 1
  · rw [if_pos h1] at h
    exact absurd rfl h
  · rw [if_neg h1] at h
    by_cases h2 : l3 u < p
    · rw [if_pos h2] at h
      exact absurd rfl h
    · obtain ⟨a, b⟩ := hI
      have h0 : ¬ p < 0 := fun q => h1 (by
        have := Int32.lt_iff_toInt_lt.mp q
        apply Int32.lt_iff_toInt_lt.mpr
        have e1 : (1 : Int32).toInt = 1 := by decide
        have e0 : (0 : Int32).toInt = 0 := by decide
        omega)
      obtain ⟨j, hj, rfl⟩ := nI_of h0
      rw [b] at h2
      rw [nI_ltI (by omega) hj] at h2
      have h3 : ¬ nI j < nI 1 := h1
      rw [nI_ltI hj (by decide)] at h3
      have e : nI j - 1 = nI (j - 1) := by
        obtain ⟨i, rfl⟩ : ∃ i, j = i + 1 := ⟨j - 1, by omega⟩
        exact nI_pred i
      rw [e]
      exact vp_in_nI (by omega) (by decide)
theorem fd_shed (u : cL) : ∀ k : Nat, k ≤ 12 → li_Loads_findNextToShed_4 u k = -1 ∨ ∃ j : Nat, j < 12 ∧ li_Loads_findNextToShed_4 u k = nI j := by
  intro k
  induction k with
  | zero => exact fun _ => Or.inl rfl
  | succ k ih =>
    intro hk
    have h := ih (by omega)
    show lb_Loads_findNextToShed_4 u k (li_Loads_findNextToShed_4 u k) = -1 ∨ ∃ j : Nat, j < 12 ∧ lb_Loads_findNextToShed_4 u k (li_Loads_findNextToShed_4 u k) = nI j
    unfold lb_Loads_findNextToShed_4
    repeat' split
    all_goals first | exact h | exact Or.inr ⟨k, by omega, rfl⟩
theorem fd_rest (u : cL) : ∀ k : Nat, k ≤ 12 → li_Loads_findNextToRestore_4 u k = -1 ∨ ∃ j : Nat, j < 12 ∧ li_Loads_findNextToRestore_4 u k = nI j := by
  intro k
  induction k with
  | zero => exact fun _ => Or.inl rfl
  | succ k ih =>
    intro hk
    have h := ih (by omega)
    show lb_Loads_findNextToRestore_4 u k (li_Loads_findNextToRestore_4 u k) = -1 ∨ ∃ j : Nat, j < 12 ∧ lb_Loads_findNextToRestore_4 u k (li_Loads_findNextToRestore_4 u k) = nI j
    unfold lb_Loads_findNextToRestore_4
    repeat' split
    all_goals first | exact h | exact Or.inr ⟨k, by omega, rfl⟩
theorem fr_shed {u : cL} (h : IL u) : m_Loads_findNextToShed u = -1 ∨ ∃ j : Nat, j < 12 ∧ m_Loads_findNextToShed u = nI j := fd_shed u _ h.1
theorem fr_rest {u : cL} (h : IL u) : m_Loads_findNextToRestore u = -1 ∨ ∃ j : Nat, j < 12 ∧ m_Loads_findNextToRestore u = nI j := fd_rest u _ h.1
theorem km_Loads_setOff {p1 p2 : Int32} {u : cL} (h : IL u) : IL (m_Loads_setOff p1 p2 u) := by
  unfold m_Loads_setOff
  split
  · exact h
  · exact h
theorem l3_setOff (p1 p2 : Int32) (u : cL) : l3 (m_Loads_setOff p1 p2 u) = l3 u := by
  unfold m_Loads_setOff
  split
  · rfl
  · rfl
theorem IL_of {u v : cL} (e : l3 v = l3 u) (h : IL u) : IL v := by
  unfold IL at h ⊢
  rw [e]
  exact h
theorem l3_measure (p1 : Int32) (u : cL) : l3 (m_Loads_measure p1 u) = l3 u := by
  unfold m_Loads_measure
  repeat' split
  all_goals simp only [l3_setOff, k3_f_Loads_add_21, k3_f_Loads_add_31, k3_f_Loads_setOff_11, k3_f_Loads_measure_18, k3_f_Loads_measure_39, k3_f_Loads_measure_74, k3_f_Loads_measure_52, k3_f_Loads_measure_39_1, k3_f_Loads_measure_18_1]
theorem km_Loads_measure {p1 : Int32} {u : cL} (h : IL u) : IL (m_Loads_measure p1 u) := IL_of (l3_measure p1 u) h
theorem kmL {p1 : Int32} {u : cB} (h : Iv u) : Iv (f_B_shed_18 p1 u) := ⟨h.1, km_Loads_measure h.2⟩
theorem iv_note {u : cB} (h : Iv u) : ∀ k : Nat, Iv (li_B_noteOutputs_2 u k)
  | 0 => h
  | k + 1 => iv_note (u := u) h k
theorem Iv_of {u v : cB} (e2 : b2 v = b2 u) (e6 : b6 v = b6 u) (h : Iv u) : Iv v := by
  unfold Iv at h ⊢
  rw [e2, e6]
  exact h
theorem km_B_noteOutputs {u : cB} (h : Iv u) : Iv (m_B_noteOutputs u) := iv_note h 10
theorem k2_m_B_followBrightness (p1 : Int32) (u : cB) : b2 (m_B_followBrightness p1 u) = b2 u := by
  unfold m_B_followBrightness
  repeat' split
  all_goals simp only [k2_f_B_noteOutputs_18, k2_f_B_beginWantedSides_21, k2_f_B_beginWantedSides_21_1, k2_f_B_followBrightness_24, k2_f_B_followBrightness_9, k2_f_B_endUnwantedSide_23, k2_f_B_tickInterior_30, k2_f_B_tickInterior_47, k2_f_B_tick_23, k2_f_B_tick_23_1, k2_f_B_tick_44, k2_f_B_tick_64, k2_f_B_tick_64_1, k2_f_B_tick_64_2, k2_f_B_tick_64_3, k2_f_B_tick_80, k2_f_B_giveBack_29, k2_f_B_giveBack_21, k2_f_B_input_36, k2_f_B_pinch_30, k2_f_B_learn_16, k2_f_B_shed_18, k2_f_B_load_18, k2_f_B_rain_19, k2_f_B_window_30, k2_f_B_crash_16, k2_f_B_crash_37, k2_f_B_crash_37_1, k2_f_B_crash_37_2, k2_f_B_crash_37_3, k2_f_B_memory_61, k2_f_B_memory_61_1, k2_f_B_trailer_6]
theorem k6_m_B_followBrightness (p1 : Int32) (u : cB) : b6 (m_B_followBrightness p1 u) = b6 u := by
  unfold m_B_followBrightness
  repeat' split
  all_goals simp only [k6_f_B_noteOutputs_18, k6_f_B_beginWantedSides_21, k6_f_B_beginWantedSides_21_1, k6_f_B_followBrightness_24, k6_f_B_followBrightness_9, k6_f_B_endUnwantedSide_23, k6_f_B_tickInterior_30, k6_f_B_tickInterior_47, k6_f_B_tick_23, k6_f_B_tick_23_1, k6_f_B_tick_44, k6_f_B_tick_64, k6_f_B_tick_64_1, k6_f_B_tick_64_2, k6_f_B_tick_64_3, k6_f_B_tick_80, k6_f_B_giveBack_29, k6_f_B_giveBack_21, k6_f_B_input_36, k6_f_B_pinch_30, k6_f_B_learn_16, k6_f_B_bulb_25, k6_f_B_bulb_25_1, k6_f_B_rain_19, k6_f_B_window_30, k6_f_B_crash_16, k6_f_B_crash_37, k6_f_B_crash_37_1, k6_f_B_crash_37_2, k6_f_B_crash_37_3, k6_f_B_memory_61, k6_f_B_memory_61_1, k6_f_B_trailer_6]
theorem km_B_followBrightness {p1 : Int32} {u : cB} (h : Iv u) : Iv (m_B_followBrightness p1 u) := Iv_of (k2_m_B_followBrightness p1 u) (k6_m_B_followBrightness p1 u) h
theorem k2_m_B_beginWantedSides (u : cB) : b2 (m_B_beginWantedSides u) = b2 u := by
  unfold m_B_beginWantedSides
  repeat' split
  all_goals simp only [k2_f_B_noteOutputs_18, k2_f_B_beginWantedSides_21, k2_f_B_beginWantedSides_21_1, k2_f_B_followBrightness_24, k2_f_B_followBrightness_9, k2_f_B_endUnwantedSide_23, k2_f_B_tickInterior_30, k2_f_B_tickInterior_47, k2_f_B_tick_23, k2_f_B_tick_23_1, k2_f_B_tick_44, k2_f_B_tick_64, k2_f_B_tick_64_1, k2_f_B_tick_64_2, k2_f_B_tick_64_3, k2_f_B_tick_80, k2_f_B_giveBack_29, k2_f_B_giveBack_21, k2_f_B_input_36, k2_f_B_pinch_30, k2_f_B_learn_16, k2_f_B_shed_18, k2_f_B_load_18, k2_f_B_rain_19, k2_f_B_window_30, k2_f_B_crash_16, k2_f_B_crash_37, k2_f_B_crash_37_1, k2_f_B_crash_37_2, k2_f_B_crash_37_3, k2_f_B_memory_61, k2_f_B_memory_61_1, k2_f_B_trailer_6]
theorem k6_m_B_beginWantedSides (u : cB) : b6 (m_B_beginWantedSides u) = b6 u := by
  unfold m_B_beginWantedSides
  repeat' split
  all_goals simp only [k6_f_B_noteOutputs_18, k6_f_B_beginWantedSides_21, k6_f_B_beginWantedSides_21_1, k6_f_B_followBrightness_24, k6_f_B_followBrightness_9, k6_f_B_endUnwantedSide_23, k6_f_B_tickInterior_30, k6_f_B_tickInterior_47, k6_f_B_tick_23, k6_f_B_tick_23_1, k6_f_B_tick_44, k6_f_B_tick_64, k6_f_B_tick_64_1, k6_f_B_tick_64_2, k6_f_B_tick_64_3, k6_f_B_tick_80, k6_f_B_giveBack_29, k6_f_B_giveBack_21, k6_f_B_input_36, k6_f_B_pinch_30, k6_f_B_learn_16, k6_f_B_bulb_25, k6_f_B_bulb_25_1, k6_f_B_rain_19, k6_f_B_window_30, k6_f_B_crash_16, k6_f_B_crash_37, k6_f_B_crash_37_1, k6_f_B_crash_37_2, k6_f_B_crash_37_3, k6_f_B_memory_61, k6_f_B_memory_61_1, k6_f_B_trailer_6]
theorem km_B_beginWantedSides {u : cB} (h : Iv u) : Iv (m_B_beginWantedSides u) := Iv_of (k2_m_B_beginWantedSides u) (k6_m_B_beginWantedSides u) h
theorem k2_m_B_endUnwantedSide (p1 : Int32) (u : cB) : b2 (m_B_endUnwantedSide p1 u) = b2 u := by
  unfold m_B_endUnwantedSide
  repeat' split
  all_goals simp only [k2_f_B_noteOutputs_18, k2_f_B_beginWantedSides_21, k2_f_B_beginWantedSides_21_1, k2_f_B_followBrightness_24, k2_f_B_followBrightness_9, k2_f_B_endUnwantedSide_23, k2_f_B_tickInterior_30, k2_f_B_tickInterior_47, k2_f_B_tick_23, k2_f_B_tick_23_1, k2_f_B_tick_44, k2_f_B_tick_64, k2_f_B_tick_64_1, k2_f_B_tick_64_2, k2_f_B_tick_64_3, k2_f_B_tick_80, k2_f_B_giveBack_29, k2_f_B_giveBack_21, k2_f_B_input_36, k2_f_B_pinch_30, k2_f_B_learn_16, k2_f_B_shed_18, k2_f_B_load_18, k2_f_B_rain_19, k2_f_B_window_30, k2_f_B_crash_16, k2_f_B_crash_37, k2_f_B_crash_37_1, k2_f_B_crash_37_2, k2_f_B_crash_37_3, k2_f_B_memory_61, k2_f_B_memory_61_1, k2_f_B_trailer_6]
theorem k6_m_B_endUnwantedSide (p1 : Int32) (u : cB) : b6 (m_B_endUnwantedSide p1 u) = b6 u := by
  unfold m_B_endUnwantedSide
  repeat' split
  all_goals simp only [k6_f_B_noteOutputs_18, k6_f_B_beginWantedSides_21, k6_f_B_beginWantedSides_21_1, k6_f_B_followBrightness_24, k6_f_B_followBrightness_9, k6_f_B_endUnwantedSide_23, k6_f_B_tickInterior_30, k6_f_B_tickInterior_47, k6_f_B_tick_23, k6_f_B_tick_23_1, k6_f_B_tick_44, k6_f_B_tick_64, k6_f_B_tick_64_1, k6_f_B_tick_64_2, k6_f_B_tick_64_3, k6_f_B_tick_80, k6_f_B_giveBack_29, k6_f_B_giveBack_21, k6_f_B_input_36, k6_f_B_pinch_30, k6_f_B_learn_16, k6_f_B_bulb_25, k6_f_B_bulb_25_1, k6_f_B_rain_19, k6_f_B_window_30, k6_f_B_crash_16, k6_f_B_crash_37, k6_f_B_crash_37_1, k6_f_B_crash_37_2, k6_f_B_crash_37_3, k6_f_B_memory_61, k6_f_B_memory_61_1, k6_f_B_trailer_6]
theorem km_B_endUnwantedSide {p1 : Int32} {u : cB} (h : Iv u) : Iv (m_B_endUnwantedSide p1 u) := Iv_of (k2_m_B_endUnwantedSide p1 u) (k6_m_B_endUnwantedSide p1 u) h
theorem k2_m_B_tickInterior (u : cB) : b2 (m_B_tickInterior u) = b2 u := by
  unfold m_B_tickInterior
  repeat' split
  all_goals simp only [k2_f_B_noteOutputs_18, k2_f_B_beginWantedSides_21, k2_f_B_beginWantedSides_21_1, k2_f_B_followBrightness_24, k2_f_B_followBrightness_9, k2_f_B_endUnwantedSide_23, k2_f_B_tickInterior_30, k2_f_B_tickInterior_47, k2_f_B_tick_23, k2_f_B_tick_23_1, k2_f_B_tick_44, k2_f_B_tick_64, k2_f_B_tick_64_1, k2_f_B_tick_64_2, k2_f_B_tick_64_3, k2_f_B_tick_80, k2_f_B_giveBack_29, k2_f_B_giveBack_21, k2_f_B_input_36, k2_f_B_pinch_30, k2_f_B_learn_16, k2_f_B_shed_18, k2_f_B_load_18, k2_f_B_rain_19, k2_f_B_window_30, k2_f_B_crash_16, k2_f_B_crash_37, k2_f_B_crash_37_1, k2_f_B_crash_37_2, k2_f_B_crash_37_3, k2_f_B_memory_61, k2_f_B_memory_61_1, k2_f_B_trailer_6]
theorem k6_m_B_tickInterior (u : cB) : b6 (m_B_tickInterior u) = b6 u := by
  unfold m_B_tickInterior
  repeat' split
  all_goals simp only [k6_f_B_noteOutputs_18, k6_f_B_beginWantedSides_21, k6_f_B_beginWantedSides_21_1, k6_f_B_followBrightness_24, k6_f_B_followBrightness_9, k6_f_B_endUnwantedSide_23, k6_f_B_tickInterior_30, k6_f_B_tickInterior_47, k6_f_B_tick_23, k6_f_B_tick_23_1, k6_f_B_tick_44, k6_f_B_tick_64, k6_f_B_tick_64_1, k6_f_B_tick_64_2, k6_f_B_tick_64_3, k6_f_B_tick_80, k6_f_B_giveBack_29, k6_f_B_giveBack_21, k6_f_B_input_36, k6_f_B_pinch_30, k6_f_B_learn_16, k6_f_B_bulb_25, k6_f_B_bulb_25_1, k6_f_B_rain_19, k6_f_B_window_30, k6_f_B_crash_16, k6_f_B_crash_37, k6_f_B_crash_37_1, k6_f_B_crash_37_2, k6_f_B_crash_37_3, k6_f_B_memory_61, k6_f_B_memory_61_1, k6_f_B_trailer_6]
theorem km_B_tickInterior {u : cB} (h : Iv u) : Iv (m_B_tickInterior u) := Iv_of (k2_m_B_tickInterior u) (k6_m_B_tickInterior u) h
theorem k2_m_B_giveBack (p1 p2 : Int32) (u : cB) : b2 (m_B_giveBack p1 p2 u) = b2 u := by
  unfold m_B_giveBack
  repeat' split
  all_goals simp only [k2_f_B_noteOutputs_18, k2_f_B_beginWantedSides_21, k2_f_B_beginWantedSides_21_1, k2_f_B_followBrightness_24, k2_f_B_followBrightness_9, k2_f_B_endUnwantedSide_23, k2_f_B_tickInterior_30, k2_f_B_tickInterior_47, k2_f_B_tick_23, k2_f_B_tick_23_1, k2_f_B_tick_44, k2_f_B_tick_64, k2_f_B_tick_64_1, k2_f_B_tick_64_2, k2_f_B_tick_64_3, k2_f_B_tick_80, k2_f_B_giveBack_29, k2_f_B_giveBack_21, k2_f_B_input_36, k2_f_B_pinch_30, k2_f_B_learn_16, k2_f_B_shed_18, k2_f_B_load_18, k2_f_B_rain_19, k2_f_B_window_30, k2_f_B_crash_16, k2_f_B_crash_37, k2_f_B_crash_37_1, k2_f_B_crash_37_2, k2_f_B_crash_37_3, k2_f_B_memory_61, k2_f_B_memory_61_1, k2_f_B_trailer_6]
theorem k6_m_B_giveBack (p1 p2 : Int32) (u : cB) : b6 (m_B_giveBack p1 p2 u) = b6 u := by
  unfold m_B_giveBack
  repeat' split
  all_goals simp only [k6_f_B_noteOutputs_18, k6_f_B_beginWantedSides_21, k6_f_B_beginWantedSides_21_1, k6_f_B_followBrightness_24, k6_f_B_followBrightness_9, k6_f_B_endUnwantedSide_23, k6_f_B_tickInterior_30, k6_f_B_tickInterior_47, k6_f_B_tick_23, k6_f_B_tick_23_1, k6_f_B_tick_44, k6_f_B_tick_64, k6_f_B_tick_64_1, k6_f_B_tick_64_2, k6_f_B_tick_64_3, k6_f_B_tick_80, k6_f_B_giveBack_29, k6_f_B_giveBack_21, k6_f_B_input_36, k6_f_B_pinch_30, k6_f_B_learn_16, k6_f_B_bulb_25, k6_f_B_bulb_25_1, k6_f_B_rain_19, k6_f_B_window_30, k6_f_B_crash_16, k6_f_B_crash_37, k6_f_B_crash_37_1, k6_f_B_crash_37_2, k6_f_B_crash_37_3, k6_f_B_memory_61, k6_f_B_memory_61_1, k6_f_B_trailer_6]
theorem km_B_giveBack {p1 p2 : Int32} {u : cB} (h : Iv u) : Iv (m_B_giveBack p1 p2 u) := Iv_of (k2_m_B_giveBack p1 p2 u) (k6_m_B_giveBack p1 p2 u) h
theorem k2_m_B_tick (u : cB) : b2 (m_B_tick u) = b2 u := by
  unfold m_B_tick g_B_tick_2_0 g_B_tick_2_1 g_B_tick_2_2 g_B_tick_32_2 g_B_tick_53_0 g_B_tick_53_1 g_B_tick_53_2 g_B_tick_53_3 g_B_tick_53_4
  simp only [k2_f_B_noteOutputs_18, k2_f_B_beginWantedSides_21, k2_f_B_beginWantedSides_21_1, k2_f_B_followBrightness_24, k2_f_B_followBrightness_9, k2_f_B_endUnwantedSide_23, k2_f_B_tickInterior_30, k2_f_B_tickInterior_47, k2_f_B_tick_23, k2_f_B_tick_23_1, k2_f_B_tick_44, k2_f_B_tick_64, k2_f_B_tick_64_1, k2_f_B_tick_64_2, k2_f_B_tick_64_3, k2_f_B_tick_80, k2_f_B_giveBack_29, k2_f_B_giveBack_21, k2_f_B_input_36, k2_f_B_pinch_30, k2_f_B_learn_16, k2_f_B_shed_18, k2_f_B_load_18, k2_f_B_rain_19, k2_f_B_window_30, k2_f_B_crash_16, k2_f_B_crash_37, k2_f_B_crash_37_1, k2_f_B_crash_37_2, k2_f_B_crash_37_3, k2_f_B_memory_61, k2_f_B_memory_61_1, k2_f_B_trailer_6, k2_m_B_tickInterior]
theorem k6_m_B_tick (u : cB) : b6 (m_B_tick u) = b6 u := by
  unfold m_B_tick g_B_tick_2_0 g_B_tick_2_1 g_B_tick_2_2 g_B_tick_32_2 g_B_tick_53_0 g_B_tick_53_1 g_B_tick_53_2 g_B_tick_53_3 g_B_tick_53_4
  simp only [k6_f_B_noteOutputs_18, k6_f_B_beginWantedSides_21, k6_f_B_beginWantedSides_21_1, k6_f_B_followBrightness_24, k6_f_B_followBrightness_9, k6_f_B_endUnwantedSide_23, k6_f_B_tickInterior_30, k6_f_B_tickInterior_47, k6_f_B_tick_23, k6_f_B_tick_23_1, k6_f_B_tick_44, k6_f_B_tick_64, k6_f_B_tick_64_1, k6_f_B_tick_64_2, k6_f_B_tick_64_3, k6_f_B_tick_80, k6_f_B_giveBack_29, k6_f_B_giveBack_21, k6_f_B_input_36, k6_f_B_pinch_30, k6_f_B_learn_16, k6_f_B_bulb_25, k6_f_B_bulb_25_1, k6_f_B_rain_19, k6_f_B_window_30, k6_f_B_crash_16, k6_f_B_crash_37, k6_f_B_crash_37_1, k6_f_B_crash_37_2, k6_f_B_crash_37_3, k6_f_B_memory_61, k6_f_B_memory_61_1, k6_f_B_trailer_6, k6_m_B_tickInterior]
theorem km_B_tick {u : cB} (h : Iv u) : Iv (m_B_tick u) := Iv_of (k2_m_B_tick u) (k6_m_B_tick u) h
theorem iv_step (p1 : Int32) {u : cB} (h : Iv u) : ∀ k : Nat, Iv (li_B_step_19 p1 u k)
  | 0 => h
  | k + 1 => km_B_tick (iv_step p1 h k)
