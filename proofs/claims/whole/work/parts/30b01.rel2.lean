/-! a side's tick -/
theorem q_mside (v : cM) (p : Int32) : m_M_tickSide p v = if mg7 v p.toNatClampNeg = 0 then v else (if m_M_period p v ≤ mg8 v p.toNatClampNeg + 1 then
    ms7 (ms9 (ms8 v (upd (mg8 v) p.toNatClampNeg 0)) (upd (mg9 v) p.toNatClampNeg (mg9 v p.toNatClampNeg + 1))) (upd (mg7 v) p.toNatClampNeg (if m_M_isWanted p v = 0 then (if 3 ≤ mg9 v p.toNatClampNeg + 1 then 0 else 1) else 1))
    else ms8 v (upd (mg8 v) p.toNatClampNeg (mg8 v p.toNatClampNeg + 1))) := by
  have e : m_M_tickSide p v = if mg7 v p.toNatClampNeg = 0 then v else (if m_M_period p v ≤ upd (mg8 v) p.toNatClampNeg (mg8 v p.toNatClampNeg + 1) p.toNatClampNeg then
      (if m_M_isWanted p v = 0 then (if 3 ≤ upd (mg9 v) p.toNatClampNeg (mg9 v p.toNatClampNeg + 1) p.toNatClampNeg then
        ms7 (ms9 (ms8 v (upd (upd (mg8 v) p.toNatClampNeg (mg8 v p.toNatClampNeg + 1)) p.toNatClampNeg 0)) (upd (mg9 v) p.toNatClampNeg (mg9 v p.toNatClampNeg + 1))) (upd (mg7 v) p.toNatClampNeg 0)
        else ms7 (ms9 (ms8 v (upd (upd (mg8 v) p.toNatClampNeg (mg8 v p.toNatClampNeg + 1)) p.toNatClampNeg 0)) (upd (mg9 v) p.toNatClampNeg (mg9 v p.toNatClampNeg + 1))) (upd (mg7 v) p.toNatClampNeg 1))
        else ms7 (ms9 (ms8 v (upd (upd (mg8 v) p.toNatClampNeg (mg8 v p.toNatClampNeg + 1)) p.toNatClampNeg 0)) (upd (mg9 v) p.toNatClampNeg (mg9 v p.toNatClampNeg + 1))) (upd (mg7 v) p.toNatClampNeg 1))
      else ms8 v (upd (mg8 v) p.toNatClampNeg (mg8 v p.toNatClampNeg + 1))) := rfl
  rw [e, upd_at, upd_at, upd_uu]
  by_cases h1 : m_M_isWanted p v = 0
  · rw [if_pos h1, if_pos h1]
    by_cases h2 : (3 : Int32) ≤ mg9 v p.toNatClampNeg + 1
    · rw [if_pos h2, if_pos h2]
    · rw [if_neg h2, if_neg h2]
  · rw [if_neg h1, if_neg h1]
theorem q_stick (po pw a g c : Int32) : m_Side_tick po pw (a, g, c) = if a = 0 then (a, g, c) else (if g + 1 < m_Side_period po then (a, g + 1, c) else (if pw = 0 then (if 3 ≤ c + 1 then 0 else 1) else 1, 0, c + 1)) := by
  have e : m_Side_tick po pw (a, g, c) = if a = 0 then (a, g, c) else (if g + 1 < m_Side_period po then (a, g + 1, c) else (if pw = 0 then (if 3 ≤ c + 1 then (0, 0, c + 1) else (1, 0, c + 1)) else (1, 0, c + 1))) := rfl
  rw [e]
  by_cases h1 : pw = 0
  · rw [if_pos h1, if_pos h1]
    by_cases h2 : (3 : Int32) ≤ c + 1
    · rw [if_pos h2, if_pos h2]
    · rw [if_neg h2, if_neg h2]
  · rw [if_neg h1, if_neg h1]
theorem q_side {v : cM} (k : Nat → Nat → Int32) (t : Int32) (i : Nat) (p : Int32) (hp : p.toNatClampNeg = i) (hi : i = 0 ∨ i = 1) (h : Inv v) :
    s3 (ph v k t) (va_up (b3 (ph v k t)) i (m_Side_tick (m_B_turnBulbIsOut p (ph v k t)) (m_B_isWanted p (ph v k t)) (b3 (ph v k t) i))) = ph (m_M_tickSide p v) k t ∧ Inv (m_M_tickSide p v) ∧ mg6 (m_M_tickSide p v) = mg6 v ∧ mg24 (m_M_tickSide p v) = mg24 v := by
  subst hp
  obtain ⟨⟨⟨a0, a1⟩, z0, z1⟩, hr⟩ := h
  have ha : rg (mg8 v p.toNatClampNeg) 79 := by rcases hi with e | e <;> rw [e] <;> assumption
  have hz : z01 (mg7 v p.toNatClampNeg) := by rcases hi with e | e <;> rw [e] <;> assumption
  have hb : b3 (ph v k t) p.toNatClampNeg = (mg7 v p.toNatClampNeg, mg8 v p.toNatClampNeg, mg9 v p.toNatClampNeg) := rfl
  have hper : m_Side_period (m_B_turnBulbIsOut p (ph v k t)) = m_M_period p v := rfl
  rw [hb, q_stick, q_mside, q_isWanted, hper]
  obtain ⟨a, hale, hae⟩ := ha
  obtain ⟨P, hP, hPe⟩ := q_per p v
  have hI : ∀ (f g c : Nat → Int32), (∀ j : Nat, j = 0 ∨ j = 1 → rg (g j) 79 ∧ z01 (f j)) → Inv (ms7 (ms9 (ms8 v g) c) f) := fun f g c hh => ⟨⟨⟨(hh 0 (Or.inl rfl)).1, (hh 1 (Or.inr rfl)).1⟩, (hh 0 (Or.inl rfl)).2, (hh 1 (Or.inr rfl)).2⟩, hr⟩
  have hold : ∀ j : Nat, j = 0 ∨ j = 1 → rg (mg8 v j) 79 ∧ z01 (mg7 v j) := by
    intro j hj
    rcases hj with rfl | rfl
    · exact ⟨a0, z0⟩
    · exact ⟨a1, z1⟩
  by_cases h0 : mg7 v p.toNatClampNeg = 0
  · rw [if_pos h0, if_pos h0, w3, upd_id, upd_id, upd_id]
    exact ⟨rfl, ⟨⟨⟨a0, a1⟩, z0, z1⟩, hr⟩, rfl, rfl⟩
  · rw [if_neg h0, if_neg h0]
    by_cases h1 : mg8 v p.toNatClampNeg + 1 < m_M_period p v
    · rw [if_pos h1, if_neg (by rw [Int32.not_le]; exact h1), w3, upd_id, upd_id]
      refine ⟨rfl, ?_, rfl, rfl⟩
      refine hI (mg7 v) (upd (mg8 v) p.toNatClampNeg (mg8 v p.toNatClampNeg + 1)) (mg9 v) (fun j hj => ?_)
      refine ⟨?_, (hold j hj).2⟩
      by_cases hji : j = p.toNatClampNeg
      · subst hji
        rw [upd_at, hae, nI_1]
        rw [hae, hPe, nI_1, nI_ltI (by omega) (by omega)] at h1
        exact rg_nI (by omega)
      · rw [upd_ne _ _ hji]
        exact (hold j hj).1
    · rw [if_neg h1, if_pos (Int32.not_lt.mp h1), w3]
      refine ⟨rfl, ?_, rfl, rfl⟩
      refine hI _ _ _ (fun j hj => ?_)
      by_cases hji : j = p.toNatClampNeg
      · subst hji
        rw [upd_at, upd_at]
        refine ⟨⟨0, by omega, rfl⟩, ?_⟩
        unfold z01
        split
        · split
          · exact Or.inl rfl
          · exact Or.inr rfl
        · exact Or.inr rfl
      · rw [upd_ne _ _ hji, upd_ne _ _ hji]
        exact hold j hj
