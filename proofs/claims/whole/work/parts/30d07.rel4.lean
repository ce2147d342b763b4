/-! crash -/
theorem mb_16 (i : Nat) (p : Int32) (v : cM) (x : Nat → Int32) : mb i p (ms16 v x) = ms16 (mb i p v) x := by
  unfold mb
  by_cases a : m_M_isWanted p v = 0
  · rw [if_pos a]
    exact if_pos a
  · rw [if_neg a]
    refine (if_neg a).trans ?_
    by_cases b : mg7 v i = 0
    · rw [if_pos b]
      exact (if_pos b).trans rfl
    · rw [if_neg b]
      exact (if_neg b).trans rfl
theorem mb_g16 (i : Nat) (p : Int32) (v : cM) : mg16 (mb i p v) = mg16 v := by
  obtain ⟨f, g, c, e, -⟩ := mb_keep i p v
  rw [e]
  rfl
theorem q_cw {u : cB} {v : cM} (h : RV u v) (i : Nat) : RV (s5 u (va_up (b5 u) i ((b5 u i).1, (0 : Int32), (b5 u i).2.2))) (ms16 v (upd (mg16 v) i 0)) := by
  obtain ⟨hI, k, rfl, hk⟩ := h
  have e1 : (b5 (ph v k (mg6 v)) i).1 = mg15 v i := rfl
  have e2 : (b5 (ph v k (mg6 v)) i).2.2 = mg17 v i := rfl
  rw [e1, e2, w5R]
  exact ⟨inv16 hI i 0 ⟨0, by omega, rfl⟩, k, rfl, hk⟩
theorem q_cr1 {u1 : cB} {v1 : cM} (r : RV u1 v1) : RV (f_B_crash_16 u1) (f_M_crash_21 v1) := by
  obtain ⟨hJ, k2, rfl, hk2⟩ := r
  exact ⟨hJ, k2, rfl, hk2⟩
