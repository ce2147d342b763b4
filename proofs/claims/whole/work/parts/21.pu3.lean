theorem k18_ms0 (u : cM) (x : Int32) : mg18 (ms0 u x) = mg18 u := rfl
theorem k18_ms1 (u : cM) (x : Nat → Int32) : mg18 (ms1 u x) = mg18 u := rfl
theorem k18_ms2 (u : cM) (x : Int32) : mg18 (ms2 u x) = mg18 u := rfl
theorem k18_ms3 (u : cM) (x : Int32) : mg18 (ms3 u x) = mg18 u := rfl
theorem k18_ms4 (u : cM) (x : Int32) : mg18 (ms4 u x) = mg18 u := rfl
theorem k18_ms5 (u : cM) (x : Int32) : mg18 (ms5 u x) = mg18 u := rfl
theorem k18_ms6 (u : cM) (x : Int32) : mg18 (ms6 u x) = mg18 u := rfl
theorem k18_ms7 (u : cM) (x : Nat → Int32) : mg18 (ms7 u x) = mg18 u := rfl
theorem k18_ms8 (u : cM) (x : Nat → Int32) : mg18 (ms8 u x) = mg18 u := rfl
theorem k18_ms9 (u : cM) (x : Nat → Int32) : mg18 (ms9 u x) = mg18 u := rfl
theorem k18_ms10 (u : cM) (x : Nat → Int32) : mg18 (ms10 u x) = mg18 u := rfl
theorem k18_ms11 (u : cM) (x : Int32) : mg18 (ms11 u x) = mg18 u := rfl
theorem k18_ms12 (u : cM) (x : Int32) : mg18 (ms12 u x) = mg18 u := rfl
theorem k18_ms13 (u : cM) (x : Int32) : mg18 (ms13 u x) = mg18 u := rfl
theorem k18_ms14 (u : cM) (x : Int32) : mg18 (ms14 u x) = mg18 u := rfl
theorem k18_ms15 (u : cM) (x : Nat → Int32) : mg18 (ms15 u x) = mg18 u := rfl
theorem k18_ms16 (u : cM) (x : Nat → Int32) : mg18 (ms16 u x) = mg18 u := rfl
theorem k18_ms17 (u : cM) (x : Nat → Int32) : mg18 (ms17 u x) = mg18 u := rfl
theorem k18_ms19 (u : cM) (x : Nat → Int32) : mg18 (ms19 u x) = mg18 u := rfl
theorem k18_ms20 (u : cM) (x : Nat → Int32) : mg18 (ms20 u x) = mg18 u := rfl
theorem k18_ms21 (u : cM) (x : Nat → Int32) : mg18 (ms21 u x) = mg18 u := rfl
theorem k18_ms22 (u : cM) (x : Int32) : mg18 (ms22 u x) = mg18 u := rfl
theorem k18_ms23 (u : cM) (x : Int32) : mg18 (ms23 u x) = mg18 u := rfl
theorem k18_ms24 (u : cM) (x : Nat → Int32) : mg18 (ms24 u x) = mg18 u := rfl
theorem k18_ms25 (u : cM) (x : Nat → Int32) : mg18 (ms25 u x) = mg18 u := rfl
theorem k18_f_M_layBy_18 (k : Nat) (u : cM) : mg18 (f_M_layBy_18 k u) = mg18 u := k18_ms25 u _
theorem k18_f_M_begin_30 (u : cM) : mg18 (f_M_begin_30 u) = mg18 u := k18_ms7 u _
theorem k18_f_M_begin_37 (u : cM) : mg18 (f_M_begin_37 u) = mg18 u := k18_ms8 u _
theorem k18_f_M_begin_44 (u : cM) : mg18 (f_M_begin_44 u) = mg18 u := k18_ms9 u _
theorem k18_f_M_begin_30_1 (u : cM) : mg18 (f_M_begin_30_1 u) = mg18 u := k18_ms7 u _
theorem k18_f_M_begin_37_1 (u : cM) : mg18 (f_M_begin_37_1 u) = mg18 u := k18_ms8 u _
theorem k18_f_M_begin_44_1 (u : cM) : mg18 (f_M_begin_44_1 u) = mg18 u := k18_ms9 u _
theorem k18_f_M_tickSide_19 (p1 : Int32) (u : cM) : mg18 (f_M_tickSide_19 p1 u) = mg18 u := k18_ms8 u _
theorem k18_f_M_tickSide_41 (p1 : Int32) (u : cM) : mg18 (f_M_tickSide_41 p1 u) = mg18 u := k18_ms8 u _
theorem k18_f_M_tickSide_51 (p1 : Int32) (u : cM) : mg18 (f_M_tickSide_51 p1 u) = mg18 u := k18_ms9 u _
theorem k18_f_M_tickSide_80 (p1 : Int32) (u : cM) : mg18 (f_M_tickSide_80 p1 u) = mg18 u := k18_ms7 u _
theorem k18_f_M_tickSide_80_1 (p1 : Int32) (u : cM) : mg18 (f_M_tickSide_80_1 p1 u) = mg18 u := k18_ms7 u _
theorem k18_f_M_tickWiper_7 (u : cM) : mg18 (f_M_tickWiper_7 u) = mg18 u := k18_ms13 u _
theorem k18_f_M_tickWiper_23 (u : cM) : mg18 (f_M_tickWiper_23 u) = mg18 u := k18_ms12 u _
theorem k18_f_M_tickWiper_62 (u : cM) : mg18 (f_M_tickWiper_62 u) = mg18 u := k18_ms13 u _
theorem k18_f_M_tickWiper_62_1 (zs : Int32) (u : cM) : mg18 (f_M_tickWiper_62_1 zs u) = mg18 u := k18_ms13 u _
theorem k18_f_M_tickWiper_48 (u : cM) : mg18 (f_M_tickWiper_48 u) = mg18 u := k18_ms12 u _
theorem k18_f_M_tickWiper_75 (u : cM) : mg18 (f_M_tickWiper_75 u) = mg18 u := k18_ms11 u _
theorem k18_f_M_tickWiper_90 (u : cM) : mg18 (f_M_tickWiper_90 u) = mg18 u := k18_ms11 u _
theorem k18_f_M_tickWiper_127 (u : cM) : mg18 (f_M_tickWiper_127 u) = mg18 u := k18_ms12 u _
theorem k18_f_M_tickWindow_58 (p1 : Int32) (u : cM) : mg18 (f_M_tickWindow_58 p1 u) = mg18 u := k18_ms15 u _
theorem k18_f_M_tickWindow_58_1 (p1 : Int32) (u : cM) : mg18 (f_M_tickWindow_58_1 p1 u) = mg18 u := k18_ms15 u _
theorem k18_f_M_tickWindow_58_2 (p1 : Int32) (u : cM) : mg18 (f_M_tickWindow_58_2 p1 u) = mg18 u := k18_ms15 u _
theorem k18_f_M_tickWindow_58_3 (p1 : Int32) (u : cM) : mg18 (f_M_tickWindow_58_3 p1 u) = mg18 u := k18_ms15 u _
theorem k18_f_M_tickWindow_58_4 (p1 : Int32) (u : cM) : mg18 (f_M_tickWindow_58_4 p1 u) = mg18 u := k18_ms15 u _
theorem k18_f_M_tick_7 (u : cM) : mg18 (f_M_tick_7 u) = mg18 u := k18_ms6 u _
theorem k18_f_M_tick_87 (u : cM) : mg18 (f_M_tick_87 u) = mg18 u := k18_ms14 u _
theorem k18_f_M_tick_87_1 (u : cM) : mg18 (f_M_tick_87_1 u) = mg18 u := k18_ms14 u _
theorem k18_f_M_tick_87_2 (u : cM) : mg18 (f_M_tick_87_2 u) = mg18 u := k18_ms14 u _
theorem k18_f_M_input_2 (u : cM) : mg18 (f_M_input_2 u) = mg18 u := k18_ms0 u _
theorem k18_f_M_input_42 (p1 : Int32) (p2 : Int32) (u : cM) : mg18 (f_M_input_42 p1 p2 u) = mg18 u := k18_ms1 u _
theorem k18_f_M_input_75 (u : cM) : mg18 (f_M_input_75 u) = mg18 u := k18_ms2 u _
theorem k18_f_M_input_75_1 (u : cM) : mg18 (f_M_input_75_1 u) = mg18 u := k18_ms2 u _
theorem k18_f_M_input_125 (u : cM) : mg18 (f_M_input_125 u) = mg18 u := k18_ms7 u _
theorem k18_f_M_input_125_1 (u : cM) : mg18 (f_M_input_125_1 u) = mg18 u := k18_ms7 u _
theorem k18_f_M_input_125_2 (u : cM) : mg18 (f_M_input_125_2 u) = mg18 u := k18_ms7 u _
theorem k18_f_M_input_125_3 (u : cM) : mg18 (f_M_input_125_3 u) = mg18 u := k18_ms7 u _
theorem k18_f_M_output_16 (u : cM) : mg18 (f_M_output_16 u) = mg18 u := k18_ms0 u _
theorem k18_f_M_output_16_1 (u : cM) : mg18 (f_M_output_16_1 u) = mg18 u := k18_ms0 u _
theorem k18_f_M_step_2 (u : cM) : mg18 (f_M_step_2 u) = mg18 u := k18_ms0 u _
theorem k18_f_M_pinch_2 (u : cM) : mg18 (f_M_pinch_2 u) = mg18 u := k18_ms0 u _
theorem k18_f_M_pinch_80 (p1 : Int32) (u : cM) : mg18 (f_M_pinch_80 p1 u) = mg18 u := k18_ms16 u _
theorem k18_f_M_pinch_80_1 (p1 : Int32) (u : cM) : mg18 (f_M_pinch_80_1 p1 u) = mg18 u := k18_ms16 u _
theorem k18_f_M_learn_2 (u : cM) : mg18 (f_M_learn_2 u) = mg18 u := k18_ms0 u _
theorem k18_f_M_learn_79 (p1 : Int32) (u : cM) : mg18 (f_M_learn_79 p1 u) = mg18 u := k18_ms17 u _
theorem k18_f_M_learn_79_1 (p1 : Int32) (u : cM) : mg18 (f_M_learn_79_1 p1 u) = mg18 u := k18_ms17 u _
theorem k18_f_M_window_2 (u : cM) : mg18 (f_M_window_2 u) = mg18 u := k18_ms0 u _
theorem k18_f_M_window_34 (p1 : Int32) (p2 : Int32) (u : cM) : mg18 (f_M_window_34 p1 p2 u) = mg18 u := k18_ms16 u _
theorem k18_f_M_load_2 (u : cM) : mg18 (f_M_load_2 u) = mg18 u := k18_ms0 u _
theorem k18_f_M_load_49 (p1 : Int32) (u : cM) : mg18 (f_M_load_49 p1 u) = mg18 u := k18_ms19 u _
theorem k18_f_M_load_59 (p2 : Int32) (u : cM) : mg18 (f_M_load_59 p2 u) = mg18 u := k18_ms20 u _
theorem k18_f_M_isOn_2 (u : cM) : mg18 (f_M_isOn_2 u) = mg18 u := k18_ms0 u _
theorem k18_f_M_putOff_71 (u : cM) : mg18 (f_M_putOff_71 u) = mg18 u := k18_ms21 u _
theorem k18_f_M_putOff_71_1 (u : cM) : mg18 (f_M_putOff_71_1 u) = mg18 u := k18_ms21 u _
theorem k18_f_M_putOn_54 (u : cM) : mg18 (f_M_putOn_54 u) = mg18 u := k18_ms21 u _
theorem k18_f_M_shed_2 (u : cM) : mg18 (f_M_shed_2 u) = mg18 u := k18_ms0 u _
theorem k18_f_M_shed_37 (u : cM) : mg18 (f_M_shed_37 u) = mg18 u := k18_ms22 u _
theorem k18_f_M_shed_37_1 (u : cM) : mg18 (f_M_shed_37_1 u) = mg18 u := k18_ms22 u _
theorem k18_f_M_shed_58 (u : cM) : mg18 (f_M_shed_58 u) = mg18 u := k18_ms23 u _
theorem k18_f_M_shed_58_1 (u : cM) : mg18 (f_M_shed_58_1 u) = mg18 u := k18_ms23 u _
theorem k18_f_M_shed_75 (u : cM) : mg18 (f_M_shed_75 u) = mg18 u := k18_ms22 u _
theorem k18_f_M_shed_92 (u : cM) : mg18 (f_M_shed_92 u) = mg18 u := k18_ms23 u _
theorem k18_f_M_bulb_2 (u : cM) : mg18 (f_M_bulb_2 u) = mg18 u := k18_ms0 u _
theorem k18_f_M_bulb_30 (p1 : Int32) (u : cM) : mg18 (f_M_bulb_30 p1 u) = mg18 u := k18_ms10 u _
theorem k18_f_M_bulb_30_1 (p1 : Int32) (u : cM) : mg18 (f_M_bulb_30_1 p1 u) = mg18 u := k18_ms10 u _
theorem k18_f_M_rain_2 (u : cM) : mg18 (f_M_rain_2 u) = mg18 u := k18_ms0 u _
theorem k18_f_M_rain_25 (p1 : Int32) (u : cM) : mg18 (f_M_rain_25 p1 u) = mg18 u := k18_ms5 u _
theorem k18_f_M_crash_2 (u : cM) : mg18 (f_M_crash_2 u) = mg18 u := k18_ms0 u _
theorem k18_f_M_crash_21 (u : cM) : mg18 (f_M_crash_21 u) = mg18 u := k18_ms3 u _
theorem k18_f_M_crash_37 (u : cM) : mg18 (f_M_crash_37 u) = mg18 u := k18_ms16 u _
theorem k18_f_M_crash_37_1 (u : cM) : mg18 (f_M_crash_37_1 u) = mg18 u := k18_ms16 u _
theorem k18_f_M_crash_37_2 (u : cM) : mg18 (f_M_crash_37_2 u) = mg18 u := k18_ms16 u _
theorem k18_f_M_crash_37_3 (u : cM) : mg18 (f_M_crash_37_3 u) = mg18 u := k18_ms16 u _
theorem k18_f_M_memory_2 (u : cM) : mg18 (f_M_memory_2 u) = mg18 u := k18_ms0 u _
theorem k18_f_M_memory_72 (p1 : Int32) (p2 : Int32) (u : cM) : mg18 (f_M_memory_72 p1 p2 u) = mg18 u := k18_ms24 u _
theorem k18_f_M_memory_72_1 (p1 : Int32) (p2 : Int32) (u : cM) : mg18 (f_M_memory_72_1 p1 p2 u) = mg18 u := k18_ms24 u _
theorem k18_f_M_memory_99 (p1 : Int32) (p2 : Int32) (u : cM) : mg18 (f_M_memory_99 p1 p2 u) = mg18 u := k18_ms14 u _
theorem k18_f_M_memory_117 (p1 : Int32) (p2 : Int32) (u : cM) : mg18 (f_M_memory_117 p1 p2 u) = mg18 u := k18_ms16 u _
theorem k18_f_M_trailer_2 (u : cM) : mg18 (f_M_trailer_2 u) = mg18 u := k18_ms0 u _
theorem k18_f_M_trailer_11 (p1 : Int32) (u : cM) : mg18 (f_M_trailer_11 p1 u) = mg18 u := k18_ms4 u _
theorem k18_f_M_state_2 (u : cM) : mg18 (f_M_state_2 u) = mg18 u := k18_ms0 u _
/-! PU3: rows on the functions of the reference that its walks ask for -/
def IM (u : cM) : Prop := (mg18 u).toNatClampNeg ≤ 12 ∧ mg18 u = nI (mg18 u).toNatClampNeg
theorem IM_of {u v : cM} (e : mg18 v = mg18 u) (h : IM u) : IM v := by
  unfold IM at h ⊢
  rw [e]
  exact h
theorem hk_exit1 {b : Int32} {n k : Nat} (hb : b = nI n) (hn : n < 2 ^ 31 - 1) (hk : k ≤ n) (h : b < nI (k + 1)) : k = n := by
  by_cases h2 : k = n
  · exact h2
  · rw [hb, nI_ltI (by omega) (by omega)] at h
    omega
theorem hk_stay1 {b : Int32} {n k : Nat} (hb : b = nI n) (hn : n < 2 ^ 31 - 1) (hk : k ≤ n) (h : ¬ b < nI (k + 1)) : k < n := by
  by_cases h2 : k = n
  · subst h2
    refine absurd ?_ h
    rw [hb]
    exact nI_lt (by omega) (by omega)
  · omega
theorem hk_v2 {p : Int32} (hs : p = 0 ∨ p = 1) : vp_in p 2 := by rcases hs with rfl | rfl <;> exact hk_inl (by decide)
theorem hk_v6 {p : Int32} (hs : p = 0 ∨ p = 1) : vp_in (4 + p) 6 := by rcases hs with rfl | rfl <;> exact hk_inl (by decide)
theorem hk_v4 {p : Int32} (hs : p = 0 ∨ p = 1 ∨ p = 2 ∨ p = 3) : vp_in p 4 := by rcases hs with rfl | rfl | rfl | rfl <;> exact hk_inl (by decide)
theorem z_within (p a b : Int32) : m_M_within p a b = 0 ∨ m_M_within p a b = 1 := by
  unfold m_M_within
  split
  · exact Or.inl rfl
  · split
    · exact Or.inl rfl
    · exact Or.inr rfl
theorem hk_wb {p a b : Int32} (h : ¬ m_M_within p a b = 0) : ¬ p < a ∧ ¬ b < p := by
  unfold m_M_within at h
  by_cases h1 : p < a
  · rw [if_pos h1] at h
    exact absurd rfl h
  · rw [if_neg h1] at h
    by_cases h2 : b < p
    · rw [if_pos h2] at h
      exact absurd rfl h
    · exact ⟨h1, h2⟩
theorem hk_wl {p b : Int32} {N : Nat} (h : ¬ m_M_within p 0 b = 0) (hb : b = nI N) (hN : N < 2 ^ 31) : ∃ j : Nat, j ≤ N ∧ p = nI j := by
  obtain ⟨h1, h2⟩ := hk_wb h
  obtain ⟨j, hj, rfl⟩ := nI_of h1
  refine ⟨j, ?_, rfl⟩
  rcases Nat.lt_or_ge N j with q | q
  · exact absurd (by rw [hb]; exact nI_lt q hj) h2
  · exact q
theorem hk_wi {p b : Int32} {N : Nat} (h : ¬ m_M_within p 0 b = 0) (hb : b = nI N) (hN : N + 1 < 2 ^ 31) : vp_in p (N + 1) := by
  obtain ⟨j, hj, rfl⟩ := hk_wl h hb (by omega)
  exact vp_in_nI (by omega) hN
theorem hk_wu {p b : Int32} {N : Nat} (h : ¬ m_M_within p 0 b = 0) (hb : b = nI N) (hN : N < 2 ^ 31) : p.toNatClampNeg < 2 ^ 31 ∧ p = nI p.toNatClampNeg := by
  obtain ⟨j, hj, rfl⟩ := hk_wl h hb hN
  rw [nI_clamp (by omega)]
  exact ⟨by omega, rfl⟩
theorem hk_ww {p : Int32} (h : ¬ m_M_isWindow p = 0) : vp_in p 4 := hk_wi (N := 3) h rfl (by decide)
theorem hk_w10 {p : Int32} (h : ¬ m_M_within p 0 9 = 0) : p = 0 ∨ p = 1 ∨ p = 2 ∨ p = 3 ∨ p = 4 ∨ p = 5 ∨ p = 6 ∨ p = 7 ∨ p = 8 ∨ p = 9 := by
  obtain ⟨j, hj, rfl⟩ := hk_wl (N := 9) h rfl (by decide)
  exact hk_d10 (by omega)
theorem hk_w6 {p : Int32} (h : ¬ m_M_within p 0 5 = 0) : p = 0 ∨ p = 1 ∨ p = 2 ∨ p = 3 ∨ p = 4 ∨ p = 5 := by
  obtain ⟨j, hj, rfl⟩ := hk_wl (N := 5) h rfl (by decide)
  have h : j = 0 ∨ j = 1 ∨ j = 2 ∨ j = 3 ∨ j = 4 ∨ j = 5 := by omega
  rcases h with rfl | rfl | rfl | rfl | rfl | rfl <;> simp [nI]
theorem hk_mL {u : cM} (hI : IM u) (h : ¬ mg18 u = 12) : vp_in (mg18 u + 1) 13 := by
  obtain ⟨a, b⟩ := hI
  have h2 : ¬ (mg18 u).toNatClampNeg = 12 := fun q => h (by rw [b, q]; rfl)
  rw [b, nI_1]
  exact vp_in_nI (by omega) (by decide)
theorem hk_mO {u : cM} {p : Int32} (hI : IM u) (h : ¬ m_M_within p 1 (mg18 u) = 0) : vp_in p 13 := by
  obtain ⟨a, b⟩ := hI
  obtain ⟨h1, h2⟩ := hk_wb h
  have h0 : ¬ p < 0 := fun q => h1 (by
    have := Int32.lt_iff_toInt_lt.mp q
    apply Int32.lt_iff_toInt_lt.mpr
    have e1 : (1 : Int32).toInt = 1 := by decide
    have e0 : (0 : Int32).toInt = 0 := by decide
    omega)
  obtain ⟨j, hj, rfl⟩ := nI_of h0
  rw [b, nI_ltI (by omega) hj] at h2
  exact vp_in_nI (by omega) (by decide)
theorem hk_m13 {x : Int32} (h : ∃ j : Nat, j ≤ 12 ∧ x = nI j) : vp_in x 13 := by
  obtain ⟨j, hj, rfl⟩ := h
  exact vp_in_nI (by omega) (by decide)
theorem fm_off (u : cM) : ∀ k : Nat, k ≤ 12 → ∃ j : Nat, j ≤ 12 ∧ li_M_putOff_4 u k = nI j := by
  intro k
  induction k with
  | zero => exact fun _ => ⟨0, by omega, rfl⟩
  | succ k ih =>
    intro hk
    have h := ih (by omega)
    show ∃ j : Nat, j ≤ 12 ∧ lb_M_putOff_4 u k (li_M_putOff_4 u k) = nI j
    unfold lb_M_putOff_4
    repeat' split
    all_goals first | exact h | exact ⟨k + 1, by omega, rfl⟩
theorem fm_on (u : cM) : ∀ k : Nat, k ≤ 12 → ∃ j : Nat, j ≤ 12 ∧ li_M_putOn_4 u k = nI j := by
  intro k
  induction k with
  | zero => exact fun _ => ⟨0, by omega, rfl⟩
  | succ k ih =>
    intro hk
    have h := ih (by omega)
    show ∃ j : Nat, j ≤ 12 ∧ lb_M_putOn_4 u k (li_M_putOn_4 u k) = nI j
    unfold lb_M_putOn_4
    repeat' split
    all_goals first | exact h | exact ⟨k + 1, by omega, rfl⟩
theorem k18_putOff (u : cM) : mg18 (m_M_putOff u) = mg18 u := by
  unfold m_M_putOff
  split
  · rfl
  · rfl
theorem km_M_putOff {u : cM} (h : IM u) : IM (m_M_putOff u) := IM_of (k18_putOff u) h
theorem km_M_putOn {u : cM} (h : IM u) : IM (m_M_putOn u) := IM_of (v := m_M_putOn u) (u := u) rfl h
theorem hk_k20 {p q : Int32} (h1 : ¬ m_M_within p 0 3 = 0) (h2 : ¬ m_M_within q 0 4 = 0) : vp_in (5 * p + q) 20 := by
  obtain ⟨i, hi, rfl⟩ := hk_wl (N := 3) h1 rfl (by decide)
  obtain ⟨j, hj, rfl⟩ := hk_wl (N := 4) h2 rfl (by decide)
  have e : (5 : Int32) * nI i + nI j = nI (5 * i + j) := by
    rw [show (5 : Int32) = nI 5 from rfl, pk_mul, nI_add]
  rw [e]
  exact vp_in_nI (by omega) (by decide)
theorem hk_w4b {q : Int32} (h2 : ¬ m_M_within q 0 4 = 0) (h : ¬ q = 4) : vp_in q 4 := by
  obtain ⟨j, hj, rfl⟩ := hk_wl (N := 4) h2 rfl (by decide)
  have h3 : ¬ j = 4 := fun e => h (by rw [e]; rfl)
  exact vp_in_nI (by omega) (by decide)
theorem hk_s4 {q : Int32} (h2 : ¬ m_M_within q 0 9 = 0) (h : ¬ 4 ≤ q) : vp_in q 4 := by
  obtain ⟨j, hj, rfl⟩ := hk_wl (N := 9) h2 rfl (by decide)
  have h3 : ¬ nI 4 ≤ nI j := h
  rw [nI_leI (by decide) (by omega)] at h3
  exact vp_in_nI (by omega) (by decide)
theorem hk_s67 {q : Int32} (h2 : ¬ m_M_within q 0 9 = 0) (h4 : 4 ≤ q) (n4 : ¬ q = 4) (n5 : ¬ q = 5) (h8 : ¬ 8 ≤ q) : vp_in (q - 6) 2 := by
  obtain ⟨j, hj, rfl⟩ := hk_wl (N := 9) h2 rfl (by decide)
  have h3 : nI 4 ≤ nI j := h4
  have h5 : ¬ nI 8 ≤ nI j := h8
  rw [nI_leI (by decide) (by omega)] at h3 h5
  have e4 : ¬ j = 4 := fun e => n4 (by rw [e]; rfl)
  have e5 : ¬ j = 5 := fun e => n5 (by rw [e]; rfl)
  have h : j = 6 ∨ j = 7 := by omega
  rcases h with rfl | rfl <;> exact hk_inl (by decide)
