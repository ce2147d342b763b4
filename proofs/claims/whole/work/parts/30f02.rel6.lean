/-! keys -/
theorem ix5 {i j : Nat} (hi : i < 4) (hj : j < 5) : ((5 : Int32) * nI i + nI j).toNatClampNeg = 5 * i + j := by
  rw [show (5 : Int32) = nI 5 from rfl, pk_mul, nI_add, nI_clamp (by omega)]
theorem ix5i {i j a b : Nat} (hi : i < 5) (hj : j < 5) : (5 * a + i = 5 * b + j) ↔ (a = b ∧ i = j) := by omega
theorem b_mem_def (p q r : Int32) (u : cB) : m_B_memory p q r u = if m_B_isBelow p 4 = 0 then (-1, u) else (if m_B_isBelow q 5 = 0 then (-2, u) else (if m_M_within r 0 1 = 0 then (-2, u) else (if r = 0 then (if 4 ≤ q then (b7 (f_B_memory_61 p q u) p.toNatClampNeg q.toNatClampNeg, f_B_memory_61 p q u) else (b7 (f_B_memory_61_1 p q u) p.toNatClampNeg q.toNatClampNeg, f_B_memory_61_1 p q u)) else (b7 (m_B_giveBack q (b7 u p.toNatClampNeg q.toNatClampNeg) u) p.toNatClampNeg q.toNatClampNeg, m_B_giveBack q (b7 u p.toNatClampNeg q.toNatClampNeg) u)))) := rfl
theorem m_mem_def (p q r : Int32) (v : cM) : m_M_memory p q r v = if m_M_within p 0 3 = 0 then (-1, ms0 v 0) else (if m_M_within q 0 4 = 0 then (-2, ms0 v 0) else (if m_M_within r 0 1 = 0 then (-2, ms0 v 0) else (if r = 0 then (if q = 4 then (upd (mg24 v) (5 * p + q).toNatClampNeg (mg14 v) (5 * p + q).toNatClampNeg, ms24 (ms0 v 0) (upd (mg24 v) (5 * p + q).toNatClampNeg (mg14 v))) else (upd (mg24 v) (5 * p + q).toNatClampNeg (mg16 v q.toNatClampNeg) (5 * p + q).toNatClampNeg, ms24 (ms0 v 0) (upd (mg24 v) (5 * p + q).toNatClampNeg (mg16 v q.toNatClampNeg)))) else (if mg24 v (5 * p + q).toNatClampNeg < 0 then (mg24 v (5 * p + q).toNatClampNeg, ms0 v 0) else (if q = 4 then (mg24 v (5 * p + q).toNatClampNeg, ms14 (ms0 v 0) (mg24 v (5 * p + q).toNatClampNeg)) else (mg24 v (5 * p + q).toNatClampNeg, ms16 (ms0 v 0) (upd (mg16 v) q.toNatClampNeg (mg24 v (5 * p + q).toNatClampNeg)))))))) := rfl
theorem q_put {v : cM} {k : Nat → Nat → Int32} (hI : Inv v) (hk : KK k v) {i j : Nat} (hi : i < 4) (hj : j < 5) (x : Int32) (hx : rg x (if j = 4 then 100 else 200)) :
    Inv (ms24 (ms0 v 0) (upd (mg24 v) (5 * i + j) x)) ∧ KK (va_up k i (upd (k i) j x)) (ms24 (ms0 v 0) (upd (mg24 v) (5 * i + j) x)) := by
  constructor
  · refine ⟨hI.1, hI.2.1, hI.2.2.1, hI.2.2.2.1, hI.2.2.2.2.1, hI.2.2.2.2.2.1, hI.2.2.2.2.2.2.1, hI.2.2.2.2.2.2.2.1, ?_⟩
    intro a b ha hb
    show upd (mg24 v) (5 * i + j) x (5 * a + b) = -1 ∨ rg (upd (mg24 v) (5 * i + j) x (5 * a + b)) _
    by_cases e : 5 * a + b = 5 * i + j
    · have e2 := (ix5i hb hj).mp e
      rw [e, upd_at]
      rw [e2.2]
      exact Or.inr hx
    · rw [upd_ne _ _ e]
      exact hI.2.2.2.2.2.2.2.2 a b ha hb
  · intro a b ha hb
    show va_up k i (upd (k i) j x) a b = upd (mg24 v) (5 * i + j) x (5 * a + b)
    unfold va_up
    by_cases e : a = i
    · rw [if_pos e]
      subst e
      by_cases f : b = j
      · subst f
        rw [upd_at, upd_at]
      · rw [upd_ne _ _ f, upd_ne _ _ (by omega)]
        exact hk a b ha hb
    · rw [if_neg e, upd_ne _ _ (by omega)]
      exact hk a b ha hb
theorem give_def (q x : Int32) (u : cB) : m_B_giveBack q x u = if x = -1 then u else (if m_B_isBelow q 4 = 0 then s9 u x else s5 u (va_up (b5 u) q.toNatClampNeg ((b5 u q.toNatClampNeg).1, x, (b5 u q.toNatClampNeg).2.2))) := rfl
