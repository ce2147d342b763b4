/-! input -/
theorem q_bright {v : cM} (k : Nat → Nat → Int32) (t : Int32) (h : Inv v) (q : Int32) : ∃ d : Int32, z01 d ∧ m_B_followBrightness q (ph v k t) = ph (ms2 v d) k t ∧ (if q < 200 then ms2 v 1 else (if mg2 v = 0 then ms2 v 0 else (if 400 < q then ms2 v 0 else ms2 v 1))) = ms2 v d := by
  have e : m_B_followBrightness q (ph v k t) = if 200 ≤ q then (if q ≤ 400 then ph v k t else ph (ms2 v 0) k t) else ph (ms2 v 1) k t := rfl
  have h2 : z01 (mg2 v) := h.2.1
  rw [e]
  by_cases c : q < 200
  · rw [if_pos c, if_neg (by rw [Int32.not_le]; exact c)]
    exact ⟨1, Or.inr rfl, rfl, rfl⟩
  · rw [if_neg c, if_pos (Int32.not_lt.mp c)]
    by_cases d : q ≤ 400
    · have d' : ¬ 400 < q := Int32.not_lt.mpr d
      rw [if_pos d, if_neg d']
      refine ⟨mg2 v, h2, rfl, ?_⟩
      rcases h2 with z | z
      · rw [if_pos z, z]
      · have zn : ¬ mg2 v = 0 := by
          rw [z]
          decide
        rw [if_neg zn, z]
    · rw [if_neg d, if_pos (Int32.not_le.mp d)]
      refine ⟨0, Or.inl rfl, rfl, ?_⟩
      rw [ite_self]
theorem q_most {p : Int32} (c : ¬ m_M_within p 0 8 = 0) : k_great p.toNatClampNeg = m_M_most p := by
  obtain ⟨j, hj, rfl⟩ := hk_wl c (N := 8) rfl (by decide)
  have h : j = 0 ∨ j = 1 ∨ j = 2 ∨ j = 3 ∨ j = 4 ∨ j = 5 ∨ j = 6 ∨ j = 7 ∨ j = 8 := by omega
  rcases h with rfl | rfl | rfl | rfl | rfl | rfl | rfl | rfl | rfl <;> decide
