theorem b_input_def (p q : Int32) (u : cB) : m_B_input p q u = if m_B_isBelow p 9 = 0 then (-1, u) else (if m_M_within q 0 (k_great p.toNatClampNeg) = 0 then (-2, u) else (if p = 1 then g_B_input_47 p q (m_B_followBrightness q (f_B_input_36 p q (m_B_noteOutputs u))) else g_B_input_47 p q (f_B_input_36 p q (m_B_noteOutputs u)))) := rfl
theorem mi_k (p q : Int32) (z : cM) : (if q < 200 then g_M_input_78 p q (f_M_input_75 z) else (if mg2 z = 0 then g_M_input_78 p q (f_M_input_75_1 z) else (if 400 < q then g_M_input_78 p q (f_M_input_75_1 z) else g_M_input_78 p q (f_M_input_75 z)))) = g_M_input_78 p q (if q < 200 then ms2 z 1 else (if mg2 z = 0 then ms2 z 0 else (if 400 < q then ms2 z 0 else ms2 z 1))) := by
  have a : f_M_input_75 z = ms2 z 1 := rfl
  have b : f_M_input_75_1 z = ms2 z 0 := rfl
  rw [a, b]
  by_cases d : q < 200
  · rw [if_pos d, if_pos d]
  · rw [if_neg d, if_neg d]
    by_cases e : mg2 z = 0
    · rw [if_pos e, if_pos e]
    · rw [if_neg e, if_neg e]
      by_cases f : 400 < q
      · rw [if_pos f, if_pos f]
      · rw [if_neg f, if_neg f]
theorem m_input_def (p q : Int32) (v : cM) : m_M_input p q v = if m_M_within p 0 8 = 0 then (-1, ms0 v 0) else (if m_M_within q 0 (m_M_most p) = 0 then (-2, ms0 v 0) else (if p = 1 then g_M_input_78 p q (if q < 200 then ms2 (f_M_input_42 p q (m_M_layBy (ms0 v 0))) 1 else (if mg2 (f_M_input_42 p q (m_M_layBy (ms0 v 0))) = 0 then ms2 (f_M_input_42 p q (m_M_layBy (ms0 v 0))) 0 else (if 400 < q then ms2 (f_M_input_42 p q (m_M_layBy (ms0 v 0))) 0 else ms2 (f_M_input_42 p q (m_M_layBy (ms0 v 0))) 1))) else g_M_input_78 p q (f_M_input_42 p q (m_M_layBy (ms0 v 0))))) := by
  have c : f_M_input_2 v = ms0 v 0 := rfl
  unfold m_M_input
  rw [c, mi_k]
theorem q_in1 {u1 : cB} {v1 : cM} (r : RV u1 v1) {p q : Int32} (a : ¬ m_M_within p 0 8 = 0) (b : ¬ m_M_within q 0 (m_M_most p) = 0) : RV (f_B_input_36 p q u1) (f_M_input_42 p q v1) := by
  obtain ⟨hI, k, rfl, hk⟩ := r
  refine ⟨⟨hI.1, hI.2.1, ?_, hI.2.2.2⟩, k, rfl, hk⟩
  show rg (upd (mg1 v1) p.toNatClampNeg q 4) 3
  by_cases e : 4 = p.toNatClampNeg
  · obtain ⟨j, hj, rfl⟩ := hk_wl a (N := 8) rfl (by decide)
    rw [nI_clamp (by omega)] at e
    subst e
    rw [nI_clamp (by omega), upd_at]
    obtain ⟨i, hi, rfl⟩ := hk_wl b (N := 3) (by decide) (by decide)
    exact rg_nI hi
  · rw [upd_ne _ _ e]
    exact hI.2.2.1
theorem q_in2 {u2 : cB} {v2 : cM} (r2 : RV u2 v2) {p q : Int32} (b : ¬ m_M_within q 0 (m_M_most p) = 0) :
    (if p = 1 then g_B_input_47 p q (m_B_followBrightness q u2) else g_B_input_47 p q u2).1 = (if p = 1 then g_M_input_78 p q (if q < 200 then ms2 v2 1 else (if mg2 v2 = 0 then ms2 v2 0 else (if 400 < q then ms2 v2 0 else ms2 v2 1))) else g_M_input_78 p q v2).1 ∧
    RV (if p = 1 then g_B_input_47 p q (m_B_followBrightness q u2) else g_B_input_47 p q u2).2 (if p = 1 then g_M_input_78 p q (if q < 200 then ms2 v2 1 else (if mg2 v2 = 0 then ms2 v2 0 else (if 400 < q then ms2 v2 0 else ms2 v2 1))) else g_M_input_78 p q v2).2 := by
  have hq : p = 2 → q = 0 ∨ q = 1 ∨ q = 2 := by
    intro e
    subst e
    obtain ⟨i, hi, rfl⟩ := hk_wl b (N := 2) (by decide) (by decide)
    have h : i = 0 ∨ i = 1 ∨ i = 2 := by omega
    rcases h with rfl | rfl | rfl
    · exact Or.inl rfl
    · exact Or.inr (Or.inl rfl)
    · exact Or.inr (Or.inr rfl)
  by_cases c : p = 1
  · rw [if_pos c, if_pos c]
    obtain ⟨hI, k, rfl, hk⟩ := r2
    obtain ⟨d, hd, e1, e2⟩ := q_bright k (mg6 v2) hI q
    rw [e1, e2]
    exact q_47 (v := ms2 v2 d) ⟨⟨hI.1, hd, hI.2.2⟩, k, rfl, hk⟩ p q hq
  · rw [if_neg c, if_neg c]
    exact q_47 r2 p q hq
