/-! windows -/
theorem w5R {v : cM} (k : Nat → Nat → Int32) (t : Int32) (i : Nat) (b : Int32) : s5 (ph v k t) (va_up (b5 (ph v k t)) i (mg15 v i, b, mg17 v i)) = ph (ms16 v (upd (mg16 v) i b)) k t := by
  rw [w5, upd_id, upd_id]
  rfl
theorem inv16 {v : cM} (h : Inv v) (i : Nat) (b : Int32) (hb : rg b 200) : Inv (ms16 v (upd (mg16 v) i b)) := by
  refine ⟨h.1, h.2.1, h.2.2.1, h.2.2.2.1, h.2.2.2.2.1, ?_, h.2.2.2.2.2.2⟩
  intro j hj
  obtain ⟨a, c⟩ := h.2.2.2.2.2.1 j hj
  refine ⟨a, ?_⟩
  show rg (upd (mg16 v) i b j) 200
  by_cases hji : j = i
  · rw [hji, upd_at]
    exact hb
  · rw [upd_ne _ _ hji]
    exact c
theorem ab4 (p : Int32) : m_B_isBelow p 4 = m_M_isWindow p := ab_be 3 (by decide)
theorem win_ix {p : Int32} (c : ¬ m_M_isWindow p = 0) : p.toNatClampNeg < 4 := by
  obtain ⟨j, hj, rfl⟩ := hk_wl c (N := 3) rfl (by decide)
  rw [nI_clamp (by omega)]
  omega
