theorem inv_by {v : cM} (h : Inv v) (x : Nat → Int32) : Inv (ms25 v x) := h
theorem by_B (n : Nat) (u : cB) : f_B_noteOutputs_18 n u = s1 u (upd (b1 u) n (m_B_outputNow (nI n) u)) := rfl
theorem by_M (n : Nat) (u : cM) : f_M_layBy_18 n u = ms25 u (upd (mg25 u) n (m_M_value (nI n) u)) := rfl
theorem by_b1 (v : cM) (k : Nat → Nat → Int32) (t : Int32) : b1 (ph v k t) = mg25 v := rfl
theorem by_s (v : cM) (x : Nat → Int32) (k : Nat → Nat → Int32) (t : Int32) : s1 (ph v k t) x = ph (ms25 v x) k t := rfl
theorem by_mm (v : cM) (x y : Nat → Int32) : ms25 (ms25 v x) y = ms25 v y := rfl
theorem by_l1 (u : cB) (n : Nat) : li_B_noteOutputs_2 u (n + 1) = f_B_noteOutputs_18 n (li_B_noteOutputs_2 u n) := rfl
theorem by_l2 (v : cM) (n : Nat) : li_M_layBy_2 v (n + 1) = f_M_layBy_18 n (li_M_layBy_2 v n) := rfl
theorem by_i {v : cM} (x : Nat → Int32) (h : Inv v) : rg (mg8 (ms25 v x) 0) 79 ∧ rg (mg8 (ms25 v x) 1) 79 := h.1.1
theorem q_byn (v : cM) (k : Nat → Nat → Int32) (t : Int32) (h : Inv v) (n : Nat) : n ≤ 10 → li_B_noteOutputs_2 (ph v k t) n = ph (li_M_layBy_2 v n) k t ∧ ∃ x, li_M_layBy_2 v n = ms25 v x := by
  induction n with
  | zero => exact fun _ => ⟨rfl, mg25 v, rfl⟩
  | succ n ih =>
    intro hn
    obtain ⟨e, x, hx⟩ := ih (by omega)
    have o := q_out (ms25 v x) k t (by_i x h).1 (by_i x h).2 n (by omega)
    rw [by_l1, by_l2, e, hx, by_B, by_M, by_b1, o, by_s, by_mm]
    exact ⟨rfl, _, rfl⟩
theorem q_by {v : cM} (k : Nat → Nat → Int32) (t : Int32) (h : Inv v) : m_B_noteOutputs (ph v k t) = ph (m_M_layBy v) k t ∧ ∃ x, m_M_layBy v = ms25 v x := q_byn v k t h 10 (Nat.le_refl _)
theorem q_cntn (v : cM) (k : Nat → Nat → Int32) (t : Int32) (h : I1 v) : ∀ n : Nat, n ≤ 10 → li_B_countChangedOutputs_4 (ph v k t) n = li_M_others_4 v n
  | 0, _ => rfl
  | n + 1, hn => by
    have e := q_cntn v k t h n (by omega)
    have e1 : li_B_countChangedOutputs_4 (ph v k t) (n + 1) = if m_B_outputNow (nI n) (ph v k t) = mg25 v n then li_B_countChangedOutputs_4 (ph v k t) n else li_B_countChangedOutputs_4 (ph v k t) n + 1 := rfl
    have e2 : li_M_others_4 v (n + 1) = if mg25 v n = m_M_value (nI n) v then li_M_others_4 v n + 0 else li_M_others_4 v n + 1 := rfl
    rw [e1, e2, e, q_out v k t h.1.1 h.1.2 n (by omega), Int32.add_zero]
    by_cases c : mg25 v n = m_M_value (nI n) v
    · rw [if_pos c.symm, if_pos c]
    · rw [if_neg (fun q => c q.symm), if_neg c]
theorem q_cnt (v : cM) (k : Nat → Nat → Int32) (t : Int32) (h : I1 v) : m_B_countChangedOutputs (ph v k t) = m_M_others v := q_cntn v k t h 10 (Nat.le_refl _)
