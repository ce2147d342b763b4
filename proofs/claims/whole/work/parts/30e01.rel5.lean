theorem r_load {u : cB} {v : cM} (h : RV u v) (p q : Int32) : (m_B_load p q u).1 = (m_M_load p q v).1 ∧ RV (m_B_load p q u).2 (m_M_load p q v).2 := by
  obtain ⟨hI, k, rfl, hk⟩ := h
  obtain ⟨⟨n, hn, hne⟩, hlh⟩ := hI.2.2.2.2.2.2.2.1
  by_cases c : m_M_within p 0 9 = 0
  · have e1 : m_B_load p q (ph v k (mg6 v)) = (-2, ph v k (mg6 v)) := if_pos c
    have e2 : m_M_load p q v = (-2, ms0 v 0) := if_pos c
    rw [e1, e2]
    exact ⟨rfl, hI, k, rfl, hk⟩
  · have e0 : m_B_load p q (ph v k (mg6 v)) = ((m_Loads_add p q (b6 (ph v k (mg6 v)))).1, s6 (ph v k (mg6 v)) (m_Loads_add p q (b6 (ph v k (mg6 v)))).2) := (if_neg c).trans rfl
    by_cases d : n = 12
    · have c12 : mg18 v = 12 := by rw [hne, d]; rfl
      have g : ¬ l3 (b6 (ph v k (mg6 v))) < 12 := by
        show ¬ mg18 v < 12
        rw [c12]
        decide
      have ea : m_Loads_add p q (b6 (ph v k (mg6 v))) = (-4, b6 (ph v k (mg6 v))) := if_neg g
      have e1 : m_B_load p q (ph v k (mg6 v)) = (-4, ph v k (mg6 v)) := by
        rw [e0, ea]
        rfl
      have e2 : m_M_load p q v = (-4, ms0 v 0) := (if_neg c).trans (if_pos c12)
      rw [e1, e2]
      exact ⟨rfl, hI, k, rfl, hk⟩
    · have c12 : ¬ mg18 v = 12 := by
        rw [hne, show (12 : Int32) = nI 12 from rfl, nI_eq (by omega) (by omega)]
        exact d
      have lt : mg18 v < 12 := by
        rw [hne, show (12 : Int32) = nI 12 from rfl, nI_ltI (by omega) (by omega)]
        omega
      have g : l3 (b6 (ph v k (mg6 v))) < 12 := lt
      have ea : m_Loads_add p q (b6 (ph v k (mg6 v))) = (mg18 v + 1, ((upd (fun j => mg19 v (j + 1)) (mg18 v).toNatClampNeg p, upd (fun j => mg20 v (j + 1)) (mg18 v).toNatClampNeg q, fun j => mg21 v (j + 1), mg18 v + 1, mg22 v, mg23 v) : cL)) := (if_pos g).trans rfl
      have e2 : m_M_load p q v = (mg18 v + 1, ms20 (ms19 (ms18 (ms0 v 0) (mg18 v + 1)) (upd (mg19 v) (mg18 v + 1).toNatClampNeg p)) (upd (mg20 v) (mg18 v + 1).toNatClampNeg q)) := (if_neg c).trans ((if_neg c12).trans rfl)
      rw [e0, e2, ea]
      refine ⟨rfl, ?_⟩
      have a1 : (mg18 v).toNatClampNeg = n := by rw [hne, nI_clamp (by omega)]
      have a2 : (mg18 v + 1).toNatClampNeg = n + 1 := by rw [hne, nI_1, nI_clamp (by omega)]
      dsimp only
      rw [a1, a2, ← upd_sh, ← upd_sh]
      refine ⟨⟨hI.1, hI.2.1, hI.2.2.1, hI.2.2.2.1, hI.2.2.2.2.1, hI.2.2.2.2.2.1, hI.2.2.2.2.2.2.1, ⟨?_, hlh⟩, hI.2.2.2.2.2.2.2.2⟩, k, rfl, hk⟩
      show rg (mg18 v + 1) 12
      rw [hne, nI_1]
      exact rg_nI (by omega)
