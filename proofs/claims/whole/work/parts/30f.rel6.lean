/-! REL6: bulbs, keys, state -/
theorem r_bulb {u : cB} {v : cM} (h : RV u v) (p q : Int32) : (m_B_bulb p q u).1 = (m_M_bulb p q v).1 ∧ RV (m_B_bulb p q u).2 (m_M_bulb p q v).2 := by
  obtain ⟨hI, k, rfl, hk⟩ := h
  have hb : m_B_isBelow p 6 = m_M_within p 0 5 := ab_be 5 (by decide)
  by_cases c : m_M_within p 0 5 = 0
  · have e1 : m_B_bulb p q (ph v k (mg6 v)) = (-1, ph v k (mg6 v)) := if_pos (hb.trans c)
    have e2 : m_M_bulb p q v = (-1, ms0 v 0) := if_pos c
    rw [e1, e2]
    exact ⟨rfl, hI, k, rfl, hk⟩
  · have key : ∀ x : Int32, z01 x → RV (ph (ms10 v (upd (mg10 v) p.toNatClampNeg x)) k (mg6 v)) (ms10 (ms0 v 0) (upd (mg10 v) p.toNatClampNeg x)) := by
      intro x hx
      refine ⟨⟨hI.1, hI.2.1, hI.2.2.1, hI.2.2.2.1, hI.2.2.2.2.1, hI.2.2.2.2.2.1, ?_, hI.2.2.2.2.2.2.2⟩, k, rfl, hk⟩
      intro j
      show z01 (upd (mg10 v) p.toNatClampNeg x j)
      by_cases e : j = p.toNatClampNeg
      · rw [e, upd_at]
        exact hx
      · rw [upd_ne _ _ e]
        exact hI.2.2.2.2.2.2.1 j
    by_cases d : q = 0
    · have e1 : m_B_bulb p q (ph v k (mg6 v)) = if upd (mg10 v) p.toNatClampNeg 1 (k_subst p.toNatClampNeg).toNatClampNeg = 0 then (k_subst p.toNatClampNeg + 1, ph (ms10 v (upd (mg10 v) p.toNatClampNeg 1)) k (mg6 v)) else (0, ph (ms10 v (upd (mg10 v) p.toNatClampNeg 1)) k (mg6 v)) := (if_neg (fun z => c (hb.symm.trans z))).trans ((if_pos d).trans ((if_pos d).trans rfl))
      have e2 : ∃ o : Int32, o = k_subst p.toNatClampNeg ∧ m_M_bulb p q v = if upd (mg10 v) p.toNatClampNeg 1 o.toNatClampNeg = 0 then (o + 1, ms10 (ms0 v 0) (upd (mg10 v) p.toNatClampNeg 1)) else (0, ms10 (ms0 v 0) (upd (mg10 v) p.toNatClampNeg 1)) := by
        rcases hk_w6 c with rfl | rfl | rfl | rfl | rfl | rfl
        · exact ⟨0 + 1, by decide, (if_neg c).trans ((if_pos d).trans ((if_pos (by decide)).trans ((if_pos (by decide)).trans ((if_pos d).trans rfl))))⟩
        · exact ⟨1 - 1, by decide, (if_neg c).trans ((if_pos d).trans ((if_pos (by decide)).trans ((if_neg (by decide)).trans ((if_pos d).trans rfl))))⟩
        · exact ⟨2 + 1, by decide, (if_neg c).trans ((if_pos d).trans ((if_pos (by decide)).trans ((if_pos (by decide)).trans ((if_pos d).trans rfl))))⟩
        · exact ⟨3 - 1, by decide, (if_neg c).trans ((if_pos d).trans ((if_pos (by decide)).trans ((if_neg (by decide)).trans ((if_pos d).trans rfl))))⟩
        · exact ⟨4 - 4, by decide, (if_neg c).trans ((if_pos d).trans ((if_neg (by decide)).trans ((if_pos d).trans rfl)))⟩
        · exact ⟨5 - 4, by decide, (if_neg c).trans ((if_pos d).trans ((if_neg (by decide)).trans ((if_pos d).trans rfl)))⟩
      obtain ⟨o, ho, e2⟩ := e2
      subst ho
      rw [e1, e2]
      by_cases f : upd (mg10 v) p.toNatClampNeg 1 (k_subst p.toNatClampNeg).toNatClampNeg = 0
      · rw [if_pos f, if_pos f]
        exact ⟨rfl, key 1 (Or.inr rfl)⟩
      · rw [if_neg f, if_neg f]
        exact ⟨rfl, key 1 (Or.inr rfl)⟩
    · have e1 : m_B_bulb p q (ph v k (mg6 v)) = (0, ph (ms10 v (upd (mg10 v) p.toNatClampNeg 0)) k (mg6 v)) := (if_neg (fun z => c (hb.symm.trans z))).trans ((if_neg d).trans ((if_neg d).trans rfl))
      have e2 : m_M_bulb p q v = (0, ms10 (ms0 v 0) (upd (mg10 v) p.toNatClampNeg 0)) := by
        refine (if_neg c).trans ((if_neg d).trans ?_)
        by_cases a : p ≤ 3
        · refine (if_pos a).trans ?_
          by_cases b : p - p / 2 * 2 = 0
          · exact (if_pos b).trans ((if_neg d).trans rfl)
          · exact (if_neg b).trans ((if_neg d).trans rfl)
        · exact (if_neg a).trans ((if_neg d).trans rfl)
      rw [e1, e2]
      exact ⟨rfl, key 0 (Or.inl rfl)⟩
/-! keys -/
theorem ix5 {i j : Nat} (hi : i < 4) (hj : j < 5) : ((5 : Int32) * nI i + nI j).toNatClampNeg = 5 * i + j := by
  rw [show (5 : Int32) = nI 5 from rfl, pk_mul, nI_add, nI_clamp (by omega)]
theorem ix5i {i j a b : Nat} (hi : i < 5) (hj : j < 5) : (5 * a + i = 5 * b + j) ↔ (a = b ∧ i = j) := by omega
theorem b_mem_def (p q r : Int32) (u : cB) : m_B_memory p q r u = if m_B_isBelow p 4 = 0 then (-1, u) else (if m_B_isBelow q 5 = 0 then (-2, u) else (if m_M_within r 0 1 = 0 then (-2, u) else (if r = 0 then (if 4 ≤ q then (b7 (f_B_memory_61 p q u) p.toNatClampNeg q.toNatClampNeg, f_B_memory_61 p q u) else (b7 (f_B_memory_61_1 p q u) p.toNatClampNeg q.toNatClampNeg, f_B_memory_61_1 p q u)) else (b7 (m_B_giveBack q (b7 u p.toNatClampNeg q.toNatClampNeg) u) p.toNatClampNeg q.toNatClampNeg, m_B_giveBack q (b7 u p.toNatClampNeg q.toNatClampNeg) u)))) := rfl
theorem m_mem_def (p q r : Int32) (v : cM) : m_M_memory p q r v = if m_M_within p 0 3 = 0 then (-1, ms0 v 0) else (if m_M_within q 0 4 = 0 then (-2, ms0 v 0) else (if m_M_within r 0 1 = 0 then (-2, ms0 v 0) else (if r = 0 then (if q = 4 then (upd (mg24 v) (5 * p + q).toNatClampNeg (mg14 v) (5 * p + q).toNatClampNeg, ms24 (ms0 v 0) (upd (mg24 v) (5 * p + q).toNatClampNeg (mg14 v))) else (upd (mg24 v) (5 * p + q).toNatClampNeg (mg16 v q.toNatClampNeg) (5 * p + q).toNatClampNeg, ms24 (ms0 v 0) (upd (mg24 v) (5 * p + q).toNatClampNeg (mg16 v q.toNatClampNeg)))) else (if mg24 v (5 * p + q).toNatClampNeg < 0 then (mg24 v (5 * p + q).toNatClampNeg, ms0 v 0) else (if q = 4 then (mg24 v (5 * p + q).toNatClampNeg, ms14 (ms0 v 0) (mg24 v (5 * p + q).toNatClampNeg)) else (mg24 v (5 * p + q).toNatClampNeg, ms16 (ms0 v 0) (upd (mg16 v) q.toNatClampNeg (mg24 v (5 * p + q).toNatClampNeg)))))))) := rfl
theorem q_put {v : cM} {k : Nat → Nat → Int32} (hI : Inv v) (hk : KK k v) {i j : Nat} (hi : i < 4) (hj : j < 5) (x : Int32) (hx : rg x (if j = 4 then 100 else 200)) :
    Inv (ms24 (ms0 v 0) (upd (mg24 v) (5 * i + j) x)) ∧ KK (va_up k i (upd (k i) j x)) (ms24 (ms0 v 0) (upd (mg24 v) (5 * i + j) x)) := by
  constructor
  · refine ⟨hI.1, hI.2.1, hI.2.2.1, hI.2.2.2.1, hI.2.2.2.2.1, hI.2.2.2.2.2.1, hI.2.2.2.2.2.2.1, hI.2.2.2.2.2.2.2.1, ?_⟩
    intro a b ha hb
    show upd (mg24 v) (5 * i + j) x (5 * a + b) = -1 ∨ rg (upd (mg24 v) (5 * i + j) x (5 * a + b)) _
    by_cases e : 5 * a + b = 5 * i + j
    · have e2 := (ix5i hb hj).mp e
      rw [e, upd_at]
      rw [e2.2]
      exact Or.inr hx
    · rw [upd_ne _ _ e]
      exact hI.2.2.2.2.2.2.2.2 a b ha hb
  · intro a b ha hb
    show va_up k i (upd (k i) j x) a b = upd (mg24 v) (5 * i + j) x (5 * a + b)
    unfold va_up
    by_cases e : a = i
    · rw [if_pos e]
      subst e
      by_cases f : b = j
      · subst f
        rw [upd_at, upd_at]
      · rw [upd_ne _ _ f, upd_ne _ _ (by omega)]
        exact hk a b ha hb
    · rw [if_neg e, upd_ne _ _ (by omega)]
      exact hk a b ha hb
theorem give_def (q x : Int32) (u : cB) : m_B_giveBack q x u = if x = -1 then u else (if m_B_isBelow q 4 = 0 then s9 u x else s5 u (va_up (b5 u) q.toNatClampNeg ((b5 u q.toNatClampNeg).1, x, (b5 u q.toNatClampNeg).2.2))) := rfl
theorem r_memory {u : cB} {v : cM} (h : RV u v) (p q r : Int32) : (m_B_memory p q r u).1 = (m_M_memory p q r v).1 ∧ RV (m_B_memory p q r u).2 (m_M_memory p q r v).2 := by
  rw [b_mem_def, m_mem_def, show m_B_isBelow p 4 = m_M_within p 0 3 from ab_be 3 (by decide), show m_B_isBelow q 5 = m_M_within q 0 4 from ab_be 4 (by decide)]
  by_cases a : m_M_within p 0 3 = 0
  · rw [if_pos a, if_pos a]
    exact ⟨rfl, h.z 0⟩
  rw [if_neg a, if_neg a]
  by_cases b : m_M_within q 0 4 = 0
  · rw [if_pos b, if_pos b]
    exact ⟨rfl, h.z 0⟩
  rw [if_neg b, if_neg b]
  by_cases c : m_M_within r 0 1 = 0
  · rw [if_pos c, if_pos c]
    exact ⟨rfl, h.z 0⟩
  rw [if_neg c, if_neg c]
  obtain ⟨i, hi, rfl⟩ := hk_wl a (N := 3) rfl (by decide)
  obtain ⟨j, hj, rfl⟩ := hk_wl b (N := 4) rfl (by decide)
  obtain ⟨hI, k, rfl, hk⟩ := h
  have ci : (nI i).toNatClampNeg = i := nI_clamp (by omega)
  have cj : (nI j).toNatClampNeg = j := nI_clamp (by omega)
  rw [ix5 (by omega) (by omega), ci, cj]
  have q4 : nI j = 4 ↔ j = 4 := by
    rw [show (4 : Int32) = nI 4 from rfl, nI_eq (by omega) (by omega)]
  have q4l : (4 : Int32) ≤ nI j ↔ j = 4 := by
    rw [show (4 : Int32) = nI 4 from rfl, nI_leI (by omega) (by omega)]
    omega
  by_cases d : r = 0
  · rw [if_pos d, if_pos d]
    by_cases e : j = 4
    · rw [if_pos (q4l.mpr e), if_pos (q4.mpr e)]
      obtain ⟨i1, i2⟩ := q_put hI hk (i := i) (j := j) (by omega) (by omega) (mg14 v) (by rw [if_pos e]; exact hI.2.2.2.2.1)
      have f1 : f_B_memory_61 (nI i) (nI j) (ph v k (mg6 v)) = ph (ms24 (ms0 v 0) (upd (mg24 v) (5 * i + j) (mg14 v))) (va_up k i (upd (k i) j (mg14 v))) (mg6 v) := by
        have e0 : f_B_memory_61 (nI i) (nI j) (ph v k (mg6 v)) = s7 (ph v k (mg6 v)) (va_up k (nI i).toNatClampNeg (upd (k (nI i).toNatClampNeg) (nI j).toNatClampNeg (mg14 v))) := rfl
        rw [e0, ci, cj]
        rfl
      rw [f1]
      refine ⟨?_, i1, _, rfl, i2⟩
      exact i2 i j (by omega) (by omega)
    · rw [if_neg (fun z => e (q4l.mp z)), if_neg (fun z => e (q4.mp z))]
      obtain ⟨i1, i2⟩ := q_put hI hk (i := i) (j := j) (by omega) (by omega) (mg16 v j) (by rw [if_neg e]; exact (hI.2.2.2.2.2.1 j (by omega)).2)
      have f1 : f_B_memory_61_1 (nI i) (nI j) (ph v k (mg6 v)) = ph (ms24 (ms0 v 0) (upd (mg24 v) (5 * i + j) (mg16 v j))) (va_up k i (upd (k i) j (mg16 v j))) (mg6 v) := by
        have e0 : f_B_memory_61_1 (nI i) (nI j) (ph v k (mg6 v)) = s7 (ph v k (mg6 v)) (va_up k (nI i).toNatClampNeg (upd (k (nI i).toNatClampNeg) (nI j).toNatClampNeg (mg16 v (nI j).toNatClampNeg))) := rfl
        rw [e0, ci, cj]
        rfl
      rw [f1]
      refine ⟨?_, i1, _, rfl, i2⟩
      exact i2 i j (by omega) (by omega)
  · rw [if_neg d, if_neg d]
    have ek : b7 (ph v k (mg6 v)) i j = mg24 v (5 * i + j) := hk i j (by omega) (by omega)
    rw [ek, give_def]
    rcases hI.2.2.2.2.2.2.2.2 i j (by omega) (by omega) with e | e
    · rw [if_pos e, if_pos (by rw [e]; decide)]
      exact ⟨ek, hI, k, rfl, hk⟩
    · obtain ⟨n, hn, hne⟩ := e
      have hn2 : n ≤ 200 := by
        by_cases e4 : j = 4
        · rw [if_pos e4] at hn
          omega
        · rw [if_neg e4] at hn
          exact hn
      rw [if_neg (by rw [hne]; exact nI_nm1 (by omega)), if_neg (by rw [hne]; exact nI_pos (by omega))]
      rw [show m_B_isBelow (nI j) 4 = m_M_within (nI j) 0 3 from ab_be 3 (by decide)]
      by_cases e4 : j = 4
      · rw [if_pos (q4.mpr e4)]
        have w0 : m_M_within (nI j) 0 3 = 0 := by rw [e4]; decide
        rw [if_pos w0]
        refine ⟨ek, ⟨hI.1, hI.2.1, hI.2.2.1, hI.2.2.2.1, ?_, hI.2.2.2.2.2⟩, k, rfl, hk⟩
        show rg (mg24 v (5 * i + j)) 100
        rw [if_pos e4] at hn
        rw [hne]
        exact rg_nI hn
      · rw [if_neg (fun z => e4 (q4.mp z))]
        have w0 : ¬ m_M_within (nI j) 0 3 = 0 := by
          have hj : j = 0 ∨ j = 1 ∨ j = 2 ∨ j = 3 := by omega
          rcases hj with rfl | rfl | rfl | rfl <;> decide
        rw [if_neg w0, cj]
        have e1 : (b5 (ph v k (mg6 v)) j).1 = mg15 v j := rfl
        have e2 : (b5 (ph v k (mg6 v)) j).2.2 = mg17 v j := rfl
        rw [e1, e2, w5R]
        refine ⟨ek, inv16 hI j _ ?_, k, rfl, hk⟩
        rw [hne]
        exact rg_nI hn2
/-! state -/
theorem r_state {u : cB} {v : cM} (h : RV u v) (p : Int32) : m_B_state p u = (m_M_state p v).1 ∧ RV u (m_M_state p v).2 := by
  obtain ⟨hI, k, rfl, hk⟩ := h
  by_cases c : m_M_within p 0 9 = 0
  · have e2 : m_M_state p v = (-2, ms0 v 0) := if_pos c
    have n : ∀ j : Nat, j < 10 → ¬ p = nI j := by
      intro j hj e
      rw [e] at c
      exact absurd c (fun z => by
        have hd : j = 0 ∨ j = 1 ∨ j = 2 ∨ j = 3 ∨ j = 4 ∨ j = 5 ∨ j = 6 ∨ j = 7 ∨ j = 8 ∨ j = 9 := by omega
        rcases hd with rfl | rfl | rfl | rfl | rfl | rfl | rfl | rfl | rfl | rfl <;> exact absurd z (by decide))
    have e1 : m_B_state p (ph v k (mg6 v)) = -2 := (if_neg (n 0 (by decide))).trans ((if_neg (n 1 (by decide))).trans ((if_neg (n 2 (by decide))).trans ((if_neg (n 3 (by decide))).trans ((if_neg (n 4 (by decide))).trans ((if_neg (n 5 (by decide))).trans ((if_neg (n 6 (by decide))).trans ((if_neg (n 7 (by decide))).trans ((if_neg (n 8 (by decide))).trans (if_neg (n 9 (by decide)))))))))))
    rw [e1, e2]
    exact ⟨rfl, hI, k, rfl, hk⟩
  · have r0 : RV (ph v k (mg6 v)) (ms0 v 0) := ⟨hI, k, rfl, hk⟩
    rcases hk_w10 c with rfl | rfl | rfl | rfl | rfl | rfl | rfl | rfl | rfl | rfl
    · have e1 : m_B_state 0 (ph v k (mg6 v)) = mg15 v 0 := (if_pos (by decide)).trans rfl
      have e2 : m_M_state 0 v = (mg15 v 0, ms0 v 0) := (if_neg c).trans ((if_neg (by decide)).trans rfl)
      rw [e1, e2]
      exact ⟨rfl, r0⟩
    · have e1 : m_B_state 1 (ph v k (mg6 v)) = mg15 v 1 := (if_neg (by decide)).trans ((if_pos (by decide)).trans rfl)
      have e2 : m_M_state 1 v = (mg15 v 1, ms0 v 0) := (if_neg c).trans ((if_neg (by decide)).trans rfl)
      rw [e1, e2]
      exact ⟨rfl, r0⟩
    · have e1 : m_B_state 2 (ph v k (mg6 v)) = mg15 v 2 := (if_neg (by decide)).trans ((if_neg (by decide)).trans ((if_pos (by decide)).trans rfl))
      have e2 : m_M_state 2 v = (mg15 v 2, ms0 v 0) := (if_neg c).trans ((if_neg (by decide)).trans rfl)
      rw [e1, e2]
      exact ⟨rfl, r0⟩
    · have e1 : m_B_state 3 (ph v k (mg6 v)) = mg15 v 3 := (if_neg (by decide)).trans ((if_neg (by decide)).trans ((if_neg (by decide)).trans ((if_pos (by decide)).trans rfl)))
      have e2 : m_M_state 3 v = (mg15 v 3, ms0 v 0) := (if_neg c).trans ((if_neg (by decide)).trans rfl)
      rw [e1, e2]
      exact ⟨rfl, r0⟩
    · have e1 : m_B_state 4 (ph v k (mg6 v)) = mg11 v := (if_neg (by decide)).trans ((if_neg (by decide)).trans ((if_neg (by decide)).trans ((if_neg (by decide)).trans ((if_pos (by decide)).trans rfl))))
      have e2 : m_M_state 4 v = (mg11 v, ms0 v 0) := (if_neg c).trans ((if_pos (by decide)).trans ((if_pos (by decide)).trans rfl))
      rw [e1, e2]
      exact ⟨rfl, r0⟩
    · have e1 : m_B_state 5 (ph v k (mg6 v)) = mg12 v := (if_neg (by decide)).trans ((if_neg (by decide)).trans ((if_neg (by decide)).trans ((if_neg (by decide)).trans ((if_neg (by decide)).trans ((if_pos (by decide)).trans rfl)))))
      have e2 : m_M_state 5 v = (mg12 v, ms0 v 0) := (if_neg c).trans ((if_pos (by decide)).trans ((if_neg (by decide)).trans ((if_pos (by decide)).trans rfl)))
      rw [e1, e2]
      exact ⟨rfl, r0⟩
    · have e1 : m_B_state 6 (ph v k (mg6 v)) = mg9 v (6 - 6 : Int32).toNatClampNeg := (if_neg (by decide)).trans ((if_neg (by decide)).trans ((if_neg (by decide)).trans ((if_neg (by decide)).trans ((if_neg (by decide)).trans ((if_neg (by decide)).trans ((if_pos (by decide)).trans rfl))))))
      have e2 : m_M_state 6 v = (mg9 v (6 - 6 : Int32).toNatClampNeg, ms0 v 0) := (if_neg c).trans ((if_pos (by decide)).trans ((if_neg (by decide)).trans ((if_neg (by decide)).trans ((if_neg (by decide)).trans rfl))))
      rw [e1, e2]
      exact ⟨rfl, r0⟩
    · have e1 : m_B_state 7 (ph v k (mg6 v)) = mg9 v (7 - 6 : Int32).toNatClampNeg := (if_neg (by decide)).trans ((if_neg (by decide)).trans ((if_neg (by decide)).trans ((if_neg (by decide)).trans ((if_neg (by decide)).trans ((if_neg (by decide)).trans ((if_neg (by decide)).trans ((if_pos (by decide)).trans rfl)))))))
      have e2 : m_M_state 7 v = (mg9 v (7 - 6 : Int32).toNatClampNeg, ms0 v 0) := (if_neg c).trans ((if_pos (by decide)).trans ((if_neg (by decide)).trans ((if_neg (by decide)).trans ((if_neg (by decide)).trans rfl))))
      rw [e1, e2]
      exact ⟨rfl, r0⟩
    · have e1 : m_B_state 8 (ph v k (mg6 v)) = m_B_bit (mg2 v) := (if_neg (by decide)).trans ((if_neg (by decide)).trans ((if_neg (by decide)).trans ((if_neg (by decide)).trans ((if_neg (by decide)).trans ((if_neg (by decide)).trans ((if_neg (by decide)).trans ((if_neg (by decide)).trans ((if_pos (by decide)).trans rfl))))))))
      have e2 : m_M_state 8 v = if mg2 v = 0 then (0, ms0 v 0) else (1, ms0 v 0) := (if_neg c).trans ((if_pos (by decide)).trans ((if_neg (by decide)).trans ((if_neg (by decide)).trans ((if_pos (by decide)).trans ((if_pos (by decide)).trans rfl)))))
      rw [e1, e2]
      rcases hI.2.1 with z | z
      · rw [z]
        exact ⟨rfl, r0⟩
      · rw [z]
        exact ⟨rfl, r0⟩
    · have e1 : m_B_state 9 (ph v k (mg6 v)) = mg6 v := (if_neg (by decide)).trans ((if_neg (by decide)).trans ((if_neg (by decide)).trans ((if_neg (by decide)).trans ((if_neg (by decide)).trans ((if_neg (by decide)).trans ((if_neg (by decide)).trans ((if_neg (by decide)).trans ((if_neg (by decide)).trans ((if_pos (by decide)).trans rfl)))))))))
      have e2 : m_M_state 9 v = (mg6 v, ms0 v 0) := (if_neg c).trans ((if_pos (by decide)).trans ((if_neg (by decide)).trans ((if_neg (by decide)).trans ((if_pos (by decide)).trans ((if_neg (by decide)).trans rfl)))))
      rw [e1, e2]
      exact ⟨rfl, r0⟩
/-! at the start -/
theorem r_zero : RV x0_B x0_M := by
  refine ⟨?_, fun _ => x0_key, rfl, ?_⟩
  · refine ⟨⟨⟨⟨0, by omega, rfl⟩, 0, by omega, rfl⟩, Or.inl rfl, Or.inl rfl⟩, Or.inl rfl, ⟨0, by omega, rfl⟩, ⟨by decide, Or.inl rfl⟩, ⟨0, by omega, rfl⟩, fun j _ => ⟨⟨0, by omega, rfl⟩, 0, by omega, rfl⟩, fun j => Or.inl rfl, ⟨⟨0, by omega, rfl⟩, ⟨0, by omega, rfl⟩, 0, by omega, rfl⟩, ?_⟩
    intro i j hi hj
    left
    have h : ∀ n : Nat, n < 20 → mg24 x0_M n = -1 := by decide
    exact h _ (by omega)
  · intro i j hi hj
    have h : ∀ n : Nat, n < 20 → mg24 x0_M n = -1 := by decide
    have h5 : ∀ n : Nat, n < 5 → x0_key n = -1 := by decide
    rw [h _ (by omega)]
    exact h5 j hj
