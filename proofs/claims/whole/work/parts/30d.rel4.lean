/-! REL4: sides that begin and end; input, crash -/
def bg (a : Int32) : Bool := decide (a = 0)
theorem q_sbegin (a g c : Int32) : m_Side_begin (a, g, c) = if a = 0 then (1, 0, 0) else (a, g, c) := rfl
/-- the reference's begin, a side by itself -/
def mb (i : Nat) (p : Int32) (v : cM) : cM := if m_M_isWanted p v = 0 then v else (if mg7 v i = 0 then ms9 (ms8 (ms7 v (upd (mg7 v) i 1)) (upd (mg8 v) i 0)) (upd (mg9 v) i 0) else v)
theorem q_mbegin (v : cM) : m_M_begin v = mb 1 1 (mb 0 0 v) := by
  unfold mb
  by_cases h0 : m_M_isWanted 0 v = 0
  · rw [if_pos h0]
    refine (if_pos h0).trans ?_
    by_cases h1 : m_M_isWanted 1 v = 0
    · rw [if_pos h1]
      exact if_pos h1
    · rw [if_neg h1]
      refine (if_neg h1).trans ?_
      by_cases h2 : mg7 v 1 = 0
      · rw [if_pos h2]
        exact (if_pos h2).trans rfl
      · rw [if_neg h2]
        exact if_neg h2
  · rw [if_neg h0]
    refine (if_neg h0).trans ?_
    by_cases h3 : mg7 v 0 = 0
    · rw [if_pos h3]
      refine (if_pos h3).trans ?_
      by_cases h1 : m_M_isWanted 1 v = 0
      · exact (if_pos h1).trans ((if_pos h1).trans rfl).symm
      · refine (if_neg h1).trans (((if_neg h1).trans ?_).symm)
        by_cases h2 : mg7 v 1 = 0
        · exact (if_pos h2).trans ((if_pos h2).trans rfl).symm
        · exact (if_neg h2).trans ((if_neg h2).trans rfl).symm
    · rw [if_neg h3]
      refine (if_neg h3).trans ?_
      by_cases h1 : m_M_isWanted 1 v = 0
      · rw [if_pos h1]
        exact if_pos h1
      · rw [if_neg h1]
        refine (if_neg h1).trans ?_
        by_cases h2 : mg7 v 1 = 0
        · rw [if_pos h2]
          exact (if_pos h2).trans rfl
        · rw [if_neg h2]
          exact if_neg h2
/-- the class's, a side by itself -/
def bb (i : Nat) (p : Int32) (u : cB) : cB := if m_B_isWanted p u = 0 then u else s3 u (va_up (b3 u) i (m_Side_begin (b3 u i)))
theorem q_bbegin (u : cB) : m_B_beginWantedSides u = bb 1 1 (bb 0 0 u) := by
  unfold bb
  by_cases h0 : m_B_isWanted 0 u = 0
  · rw [if_pos h0]
    exact (if_pos h0).trans rfl
  · rw [if_neg h0]
    exact (if_neg h0).trans rfl
theorem q_bb {v : cM} (k : Nat → Nat → Int32) (t : Int32) (i : Nat) (p : Int32) : bb i p (ph v k t) = ph (mb i p v) k t := by
  unfold bb mb
  rw [q_isWanted]
  by_cases h0 : m_M_isWanted p v = 0
  · rw [if_pos h0, if_pos h0]
  · rw [if_neg h0, if_neg h0]
    have e : b3 (ph v k t) i = (mg7 v i, mg8 v i, mg9 v i) := rfl
    rw [e, q_sbegin]
    by_cases h1 : mg7 v i = 0
    · rw [if_pos h1, if_pos h1, w3]
    · rw [if_neg h1, if_neg h1, w3, upd_id, upd_id, upd_id]
      rfl
theorem q_begin {v : cM} (k : Nat → Nat → Int32) (t : Int32) : m_B_beginWantedSides (ph v k t) = ph (m_M_begin v) k t := by rw [q_bbegin, q_bb, q_bb, q_mbegin]
theorem mb_keep (i : Nat) (p : Int32) (v : cM) : ∃ f g c : Nat → Int32, mb i p v = ms9 (ms8 (ms7 v f) g) c ∧ ∀ j : Nat, (f j = mg7 v j ∨ f j = 1) ∧ (g j = mg8 v j ∨ g j = 0) := by
  unfold mb
  by_cases h0 : m_M_isWanted p v = 0
  · rw [if_pos h0]
    exact ⟨mg7 v, mg8 v, mg9 v, rfl, fun j => ⟨Or.inl rfl, Or.inl rfl⟩⟩
  · rw [if_neg h0]
    by_cases h1 : mg7 v i = 0
    · rw [if_pos h1]
      refine ⟨_, _, _, rfl, fun j => ?_⟩
      by_cases hj : j = i
      · subst hj
        rw [upd_at, upd_at]
        exact ⟨Or.inr rfl, Or.inr rfl⟩
      · rw [upd_ne _ _ hj, upd_ne _ _ hj]
        exact ⟨Or.inl rfl, Or.inl rfl⟩
    · rw [if_neg h1]
      exact ⟨mg7 v, mg8 v, mg9 v, rfl, fun j => ⟨Or.inl rfl, Or.inl rfl⟩⟩
theorem mb_inv {v : cM} (h : Inv v) (i : Nat) (p : Int32) : Inv (mb i p v) ∧ mg6 (mb i p v) = mg6 v ∧ mg24 (mb i p v) = mg24 v := by
  obtain ⟨f, g, c, e, hh⟩ := mb_keep i p v
  rw [e]
  refine ⟨⟨⟨⟨?_, ?_⟩, ?_, ?_⟩, h.2⟩, rfl, rfl⟩
  · show rg (g 0) 79
    rcases (hh 0).2 with q | q <;> rw [q]
    · exact h.1.1.1
    · exact ⟨0, by omega, rfl⟩
  · show rg (g 1) 79
    rcases (hh 1).2 with q | q <;> rw [q]
    · exact h.1.1.2
    · exact ⟨0, by omega, rfl⟩
  · show z01 (f 0)
    rcases (hh 0).1 with q | q <;> rw [q]
    · exact h.1.2.1
    · exact Or.inr rfl
  · show z01 (f 1)
    rcases (hh 1).1 with q | q <;> rw [q]
    · exact h.1.2.2
    · exact Or.inr rfl
theorem q_beginR {u : cB} {v : cM} (h : RV u v) : RV (m_B_beginWantedSides u) (m_M_begin v) := by
  obtain ⟨hI, k, rfl, hk⟩ := h
  rw [q_begin, q_mbegin]
  obtain ⟨a1, a2, a3⟩ := mb_inv hI 0 0
  obtain ⟨c1, c2, c3⟩ := mb_inv a1 1 1
  refine ⟨c1, k, by rw [c2, a2], ?_⟩
  unfold KK
  rw [c3, a3]
  exact hk
/-- the side that ends, in the reference -/
def me (i : Nat) (p : Int32) (v : cM) : cM := if mg7 v i = 0 then ms7 v (upd (mg7 v) i 0) else (if m_M_isWanted p v = 0 then ms7 v (upd (mg7 v) i 0) else ms7 v (upd (mg7 v) i 1))
theorem me_eq {v : cM} (h : z01 (mg7 v i)) (p : Int32) : me i p v = ms7 v (upd (mg7 v) i (if m_M_isWanted p v = 0 then 0 else mg7 v i)) := by
  unfold me
  by_cases a : mg7 v i = 0
  · rw [if_pos a, a]
    split <;> rfl
  · rw [if_neg a]
    by_cases b : m_M_isWanted p v = 0
    · rw [if_pos b, if_pos b]
    · rw [if_neg b, if_neg b, h.resolve_left a]
theorem wantedP (p : Int32) (v : cM) (f g c : Nat → Int32) : m_M_isWanted p (ms9 (ms8 (ms7 v f) g) c) = m_M_isWanted p v := rfl
theorem wanted7 (p : Int32) (v : cM) (f : Nat → Int32) : m_M_isWanted p (ms7 v f) = m_M_isWanted p v := rfl
theorem mb_w (i : Nat) (p q : Int32) (v : cM) : m_M_isWanted q (mb i p v) = m_M_isWanted q v := by
  obtain ⟨f, g, c, e, -⟩ := mb_keep i p v
  rw [e]
  rfl
theorem upd_comm (f : Nat → Int32) {i j : Nat} (h : ¬ i = j) (x y : Int32) : upd (upd f i x) j y = upd (upd f j y) i x := by
  funext n
  unfold upd
  by_cases a : n = i <;> by_cases b : n = j
  · exact absurd (a.symm.trans b) h
  · simp [a, h]
  · have c : ¬ j = i := fun z => h z.symm
    simp [b, c]
  · simp [a, b]
/-- ending an unwanted side and beginning the wanted ones, in either order -/
theorem mb_off (i j : Nat) (p q : Int32) (v : cM) (hij : (i = j ∧ p = q) ∨ ¬ i = j) (h : m_M_isWanted q v = 0) : mb i p (ms7 v (upd (mg7 v) j 0)) = ms7 (mb i p v) (upd (mg7 (mb i p v)) j 0) := by
  unfold mb
  rw [wanted7]
  rcases hij with ⟨rfl, rfl⟩ | hij
  · rw [if_pos h, if_pos h]
  · by_cases h0 : m_M_isWanted p v = 0
    · rw [if_pos h0, if_pos h0]
    · rw [if_neg h0, if_neg h0]
      have e : mg7 (ms7 v (upd (mg7 v) j 0)) i = mg7 v i := upd_ne _ _ hij
      rw [e]
      by_cases h1 : mg7 v i = 0
      · rw [if_pos h1, if_pos h1]
        have e2 : upd (mg7 (ms7 v (upd (mg7 v) j 0))) i 1 = upd (upd (mg7 v) i 1) j 0 := upd_comm (mg7 v) (fun z => hij z.symm) 0 1
        rw [e2]
        rfl
      · rw [if_neg h1, if_neg h1]
theorem b_end_def (s : Int32) (u : cB) (hs : s = 0 ∨ s = 1) : m_B_endUnwantedSide s u = if m_B_isWanted s u = 0 then s3 u (va_up (b3 u) s.toNatClampNeg (0, (b3 u s.toNatClampNeg).2.1, (b3 u s.toNatClampNeg).2.2)) else u := by
  have hb : ¬ m_B_isBelow s 2 = 0 := by rcases hs with rfl | rfl <;> decide
  exact (if_neg hb).trans rfl
theorem q_end {v : cM} (k : Nat → Nat → Int32) (t : Int32) (h : Inv v) (j : Nat) (s : Int32) (hs : (j = 0 ∧ s = 0) ∨ (j = 1 ∧ s = 1)) : m_B_endUnwantedSide s (m_B_beginWantedSides (ph v k t)) = ph (m_M_begin (me j s v)) k t := by
  have hsn : s.toNatClampNeg = j := by rcases hs with ⟨rfl, rfl⟩ | ⟨rfl, rfl⟩ <;> rfl
  have hz : z01 (mg7 v j) := by
    rcases hs with ⟨rfl, rfl⟩ | ⟨rfl, rfl⟩
    · exact h.1.2.1
    · exact h.1.2.2
  rw [q_begin, b_end_def s _ (by rcases hs with ⟨-, rfl⟩ | ⟨-, rfl⟩; exact Or.inl rfl; exact Or.inr rfl), q_isWanted, hsn, me_eq hz, q_mbegin, q_mbegin, mb_w, mb_w]
  by_cases c : m_M_isWanted s v = 0
  · rw [if_pos c, if_pos c]
    have e : ∀ w : cM, s3 (ph w k t) (va_up (b3 (ph w k t)) j (0, (b3 (ph w k t) j).2.1, (b3 (ph w k t) j).2.2)) = ph (ms7 w (upd (mg7 w) j 0)) k t := by
      intro w
      have e1 : (b3 (ph w k t) j).2.1 = mg8 w j := rfl
      have e2 : (b3 (ph w k t) j).2.2 = mg9 w j := rfl
      rw [e1, e2, w3, upd_id, upd_id]
      rfl
    rw [e]
    have o0 : mb 0 0 (ms7 v (upd (mg7 v) j 0)) = ms7 (mb 0 0 v) (upd (mg7 (mb 0 0 v)) j 0) := mb_off 0 j 0 s v (by rcases hs with ⟨rfl, rfl⟩ | ⟨rfl, rfl⟩; exact Or.inl ⟨rfl, rfl⟩; exact Or.inr (by decide)) c
    have o1 : mb 1 1 (ms7 (mb 0 0 v) (upd (mg7 (mb 0 0 v)) j 0)) = ms7 (mb 1 1 (mb 0 0 v)) (upd (mg7 (mb 1 1 (mb 0 0 v))) j 0) := mb_off 1 j 1 s (mb 0 0 v) (by rcases hs with ⟨rfl, rfl⟩ | ⟨rfl, rfl⟩; exact Or.inr (by decide); exact Or.inl ⟨rfl, rfl⟩) (by rw [mb_w]; exact c)
    rw [o0, o1]
  · rw [if_neg c, if_neg c, upd_id]
    rfl
theorem me_inv {v : cM} (h : Inv v) (j : Nat) (s : Int32) (hz : z01 (mg7 v j)) : Inv (me j s v) ∧ mg6 (me j s v) = mg6 v ∧ mg24 (me j s v) = mg24 v := by
  rw [me_eq hz]
  have hh : ∀ n : Nat, z01 (mg7 v n) → z01 (upd (mg7 v) j (if m_M_isWanted s v = 0 then 0 else mg7 v j) n) := by
    intro n hn
    by_cases e : n = j
    · rw [e, upd_at]
      split
      · exact Or.inl rfl
      · exact hz
    · rw [upd_ne _ _ e]
      exact hn
  exact ⟨⟨⟨h.1.1, hh 0 h.1.2.1, hh 1 h.1.2.2⟩, h.2⟩, rfl, rfl⟩
/-! input -/
theorem q_bright {v : cM} (k : Nat → Nat → Int32) (t : Int32) (h : Inv v) (q : Int32) : ∃ d : Int32, z01 d ∧ m_B_followBrightness q (ph v k t) = ph (ms2 v d) k t ∧ (if q < 200 then ms2 v 1 else (if mg2 v = 0 then ms2 v 0 else (if 400 < q then ms2 v 0 else ms2 v 1))) = ms2 v d := by
  have e : m_B_followBrightness q (ph v k t) = if 200 ≤ q then (if q ≤ 400 then ph v k t else ph (ms2 v 0) k t) else ph (ms2 v 1) k t := rfl
  have h2 : z01 (mg2 v) := h.2.1
  rw [e]
  by_cases c : q < 200
  · rw [if_pos c, if_neg (by rw [Int32.not_le]; exact c)]
    exact ⟨1, Or.inr rfl, rfl, rfl⟩
  · rw [if_neg c, if_pos (Int32.not_lt.mp c)]
    by_cases d : q ≤ 400
    · rw [if_pos d, if_neg (by rw [Int32.not_lt]; exact d)]
      refine ⟨mg2 v, h2, rfl, ?_⟩
      rcases h2 with z | z
      · rw [if_pos z, z]
      · rw [if_neg (by rw [z]; decide), z]
    · rw [if_neg d, if_pos (Int32.not_le.mp d)]
      refine ⟨0, Or.inl rfl, rfl, ?_⟩
      rw [ite_self]
theorem q_most {p : Int32} (c : ¬ m_M_within p 0 8 = 0) : k_great p.toNatClampNeg = m_M_most p := by
  obtain ⟨j, hj, rfl⟩ := hk_wl c (N := 8) rfl (by decide)
  have h : j = 0 ∨ j = 1 ∨ j = 2 ∨ j = 3 ∨ j = 4 ∨ j = 5 ∨ j = 6 ∨ j = 7 ∨ j = 8 := by omega
  rcases h with rfl | rfl | rfl | rfl | rfl | rfl | rfl | rfl | rfl <;> decide
theorem g47_def (p q : Int32) (u : cB) : g_B_input_47 p q u = if p = 2 then (if q = 0 then (m_B_countChangedOutputs (m_B_beginWantedSides u), m_B_beginWantedSides u) else (m_B_countChangedOutputs (m_B_endUnwantedSide (2 - q) (m_B_beginWantedSides u)), m_B_endUnwantedSide (2 - q) (m_B_beginWantedSides u))) else (m_B_countChangedOutputs (m_B_beginWantedSides u), m_B_beginWantedSides u) := rfl
theorem g78_def (p q : Int32) (v : cM) : g_M_input_78 p q v = if p = 2 then (if q ≤ 0 then (m_M_others (m_M_begin v), m_M_begin v) else (if q = 1 then (m_M_others (m_M_begin (me 1 1 v)), m_M_begin (me 1 1 v)) else (m_M_others (m_M_begin (me 0 0 v)), m_M_begin (me 0 0 v)))) else (m_M_others (m_M_begin v), m_M_begin v) := by
  by_cases c : p = 2
  · rw [if_pos c]
    refine (if_pos c).trans ?_
    by_cases d : q ≤ 0
    · rw [if_pos d]
      exact (if_pos d).trans rfl
    · rw [if_neg d]
      refine (if_neg d).trans ?_
      by_cases e : q = 1
      · rw [if_pos e]
        refine (if_pos e).trans ?_
        unfold me
        by_cases f : mg7 v 1 = 0
        · rw [if_pos f]
          exact (if_pos f).trans rfl
        · rw [if_neg f]
          refine (if_neg f).trans ?_
          by_cases g : m_M_isWanted 1 v = 0
          · rw [if_pos g]
            exact (if_pos g).trans rfl
          · rw [if_neg g]
            exact (if_neg g).trans rfl
      · rw [if_neg e]
        refine (if_neg e).trans ?_
        unfold me
        by_cases f : mg7 v 0 = 0
        · rw [if_pos f]
          exact (if_pos f).trans rfl
        · rw [if_neg f]
          refine (if_neg f).trans ?_
          by_cases g : m_M_isWanted 0 v = 0
          · rw [if_pos g]
            exact (if_pos g).trans rfl
          · rw [if_neg g]
            exact (if_neg g).trans rfl
  · rw [if_neg c]
    exact (if_neg c).trans rfl
theorem q_47 {u : cB} {v : cM} (h : RV u v) (p q : Int32) (hq : p = 2 → q = 0 ∨ q = 1 ∨ q = 2) : (g_B_input_47 p q u).1 = (g_M_input_78 p q v).1 ∧ RV (g_B_input_47 p q u).2 (g_M_input_78 p q v).2 := by
  have hb := q_beginR h
  rw [g47_def, g78_def]
  by_cases c : p = 2
  · rw [if_pos c, if_pos c]
    obtain ⟨hI, k, rfl, hk⟩ := h
    have key : ∀ (j : Nat) (s : Int32), ((j = 0 ∧ s = 0) ∨ (j = 1 ∧ s = 1)) → RV (m_B_endUnwantedSide s (m_B_beginWantedSides (ph v k (mg6 v)))) (m_M_begin (me j s v)) := by
      intro j s hs
      have hz : z01 (mg7 v j) := by
        rcases hs with ⟨rfl, rfl⟩ | ⟨rfl, rfl⟩
        · exact hI.1.2.1
        · exact hI.1.2.2
      obtain ⟨i1, i2, i3⟩ := me_inv hI j s hz
      have r : RV (ph (me j s v) k (mg6 (me j s v))) (me j s v) := ⟨i1, k, rfl, by unfold KK; rw [i3]; exact hk⟩
      have r2 := q_beginR r
      rw [q_begin, i2] at r2
      rw [q_end k (mg6 v) hI j s hs]
      exact r2
    rcases hq c with rfl | rfl | rfl
    · rw [if_pos rfl, if_pos (by decide)]
      exact ⟨q_cntR hb, hb⟩
    · have r := key 1 1 (Or.inr ⟨rfl, rfl⟩)
      rw [if_neg (by decide), if_neg (by decide), if_pos rfl, show (2 : Int32) - 1 = 1 from by decide]
      exact ⟨q_cntR r, r⟩
    · have r := key 0 0 (Or.inl ⟨rfl, rfl⟩)
      rw [if_neg (by decide), if_neg (by decide), if_neg (by decide), show (2 : Int32) - 2 = 0 from by decide]
      exact ⟨q_cntR r, r⟩
  · rw [if_neg c, if_neg c]
    exact ⟨q_cntR hb, hb⟩
theorem b_input_def (p q : Int32) (u : cB) : m_B_input p q u = if m_B_isBelow p 9 = 0 then (-1, u) else (if m_M_within q 0 (k_great p.toNatClampNeg) = 0 then (-2, u) else (if p = 1 then g_B_input_47 p q (m_B_followBrightness q (f_B_input_36 p q (m_B_noteOutputs u))) else g_B_input_47 p q (f_B_input_36 p q (m_B_noteOutputs u)))) := rfl
theorem m_input_def (p q : Int32) (v : cM) : m_M_input p q v = if m_M_within p 0 8 = 0 then (-1, ms0 v 0) else (if m_M_within q 0 (m_M_most p) = 0 then (-2, ms0 v 0) else (if p = 1 then g_M_input_78 p q (if q < 200 then ms2 (f_M_input_42 p q (m_M_layBy (ms0 v 0))) 1 else (if mg2 (f_M_input_42 p q (m_M_layBy (ms0 v 0))) = 0 then ms2 (f_M_input_42 p q (m_M_layBy (ms0 v 0))) 0 else (if 400 < q then ms2 (f_M_input_42 p q (m_M_layBy (ms0 v 0))) 0 else ms2 (f_M_input_42 p q (m_M_layBy (ms0 v 0))) 1))) else g_M_input_78 p q (f_M_input_42 p q (m_M_layBy (ms0 v 0))))) := by
  by_cases a : m_M_within p 0 8 = 0
  · rw [if_pos a]
    exact if_pos a
  · rw [if_neg a]
    refine (if_neg a).trans ?_
    by_cases b : m_M_within q 0 (m_M_most p) = 0
    · rw [if_pos b]
      exact if_pos b
    · rw [if_neg b]
      refine (if_neg b).trans ?_
      by_cases c : p = 1
      · rw [if_pos c]
        refine (if_pos c).trans ?_
        by_cases d : q < 200
        · rw [if_pos d]
          exact (if_pos d).trans rfl
        · rw [if_neg d]
          refine (if_neg d).trans ?_
          by_cases e : mg2 (f_M_input_42 p q (m_M_layBy (ms0 v 0))) = 0
          · rw [if_pos e]
            exact (if_pos e).trans rfl
          · rw [if_neg e]
            refine (if_neg e).trans ?_
            by_cases f : 400 < q
            · rw [if_pos f]
              exact (if_pos f).trans rfl
            · rw [if_neg f]
              exact (if_neg f).trans rfl
      · rw [if_neg c]
        exact (if_neg c).trans rfl
theorem q_in1 {u1 : cB} {v1 : cM} (r : RV u1 v1) {p q : Int32} (a : ¬ m_M_within p 0 8 = 0) (b : ¬ m_M_within q 0 (m_M_most p) = 0) : RV (f_B_input_36 p q u1) (f_M_input_42 p q v1) := by
  obtain ⟨hI, k, rfl, hk⟩ := r
  refine ⟨⟨hI.1, hI.2.1, ?_, hI.2.2.2⟩, k, rfl, hk⟩
  show rg (upd (mg1 v1) p.toNatClampNeg q 4) 3
  by_cases e : 4 = p.toNatClampNeg
  · obtain ⟨j, hj, rfl⟩ := hk_wl a (N := 8) rfl (by decide)
    rw [nI_clamp (by omega)] at e
    subst e
    rw [nI_clamp (by omega), upd_at]
    obtain ⟨i, hi, rfl⟩ := hk_wl b (N := 3) (by decide) (by decide)
    exact rg_nI hi
  · rw [upd_ne _ _ e]
    exact hI.2.2.1
theorem q_in2 {u2 : cB} {v2 : cM} (r2 : RV u2 v2) {p q : Int32} (b : ¬ m_M_within q 0 (m_M_most p) = 0) :
    (if p = 1 then g_B_input_47 p q (m_B_followBrightness q u2) else g_B_input_47 p q u2).1 = (if p = 1 then g_M_input_78 p q (if q < 200 then ms2 v2 1 else (if mg2 v2 = 0 then ms2 v2 0 else (if 400 < q then ms2 v2 0 else ms2 v2 1))) else g_M_input_78 p q v2).1 ∧
    RV (if p = 1 then g_B_input_47 p q (m_B_followBrightness q u2) else g_B_input_47 p q u2).2 (if p = 1 then g_M_input_78 p q (if q < 200 then ms2 v2 1 else (if mg2 v2 = 0 then ms2 v2 0 else (if 400 < q then ms2 v2 0 else ms2 v2 1))) else g_M_input_78 p q v2).2 := by
  have hq : p = 2 → q = 0 ∨ q = 1 ∨ q = 2 := by
    intro e
    subst e
    obtain ⟨i, hi, rfl⟩ := hk_wl b (N := 2) (by decide) (by decide)
    have h : i = 0 ∨ i = 1 ∨ i = 2 := by omega
    rcases h with rfl | rfl | rfl
    · exact Or.inl rfl
    · exact Or.inr (Or.inl rfl)
    · exact Or.inr (Or.inr rfl)
  by_cases c : p = 1
  · rw [if_pos c, if_pos c]
    obtain ⟨hI, k, rfl, hk⟩ := r2
    obtain ⟨d, hd, e1, e2⟩ := q_bright k (mg6 v2) hI q
    rw [e1, e2]
    exact q_47 (v := ms2 v2 d) ⟨⟨hI.1, hd, hI.2.2⟩, k, rfl, hk⟩ p q hq
  · rw [if_neg c, if_neg c]
    exact q_47 r2 p q hq
theorem r_input {u : cB} {v : cM} (h : RV u v) (p q : Int32) : (m_B_input p q u).1 = (m_M_input p q v).1 ∧ RV (m_B_input p q u).2 (m_M_input p q v).2 := by
  rw [b_input_def, m_input_def, show m_B_isBelow p 9 = m_M_within p 0 8 from ab_be 8 (by decide)]
  by_cases a : m_M_within p 0 8 = 0
  · rw [if_pos a, if_pos a]
    exact ⟨rfl, h.z 0⟩
  · rw [if_neg a, if_neg a, q_most a]
    by_cases b : m_M_within q 0 (m_M_most p) = 0
    · rw [if_pos b, if_pos b]
      exact ⟨rfl, h.z 0⟩
    · rw [if_neg b, if_neg b]
      exact q_in2 (q_in1 (q_byR (h.z 0)) a b) b
/-! crash -/
theorem mb_16 (i : Nat) (p : Int32) (v : cM) (x : Nat → Int32) : mb i p (ms16 v x) = ms16 (mb i p v) x := by
  unfold mb
  by_cases a : m_M_isWanted p v = 0
  · rw [if_pos a]
    exact if_pos a
  · rw [if_neg a]
    refine (if_neg a).trans ?_
    by_cases b : mg7 v i = 0
    · rw [if_pos b]
      exact (if_pos b).trans rfl
    · rw [if_neg b]
      exact (if_neg b).trans rfl
theorem mb_g16 (i : Nat) (p : Int32) (v : cM) : mg16 (mb i p v) = mg16 v := by
  obtain ⟨f, g, c, e, -⟩ := mb_keep i p v
  rw [e]
  rfl
theorem q_cw {u : cB} {v : cM} (h : RV u v) (i : Nat) : RV (s5 u (va_up (b5 u) i ((b5 u i).1, (0 : Int32), (b5 u i).2.2))) (ms16 v (upd (mg16 v) i 0)) := by
  obtain ⟨hI, k, rfl, hk⟩ := h
  have e1 : (b5 (ph v k (mg6 v)) i).1 = mg15 v i := rfl
  have e2 : (b5 (ph v k (mg6 v)) i).2.2 = mg17 v i := rfl
  rw [e1, e2, w5R]
  exact ⟨inv16 hI i 0 ⟨0, by omega, rfl⟩, k, rfl, hk⟩
theorem q_cr1 {u1 : cB} {v1 : cM} (r : RV u1 v1) : RV (f_B_crash_16 u1) (f_M_crash_21 v1) := by
  obtain ⟨hJ, k2, rfl, hk2⟩ := r
  exact ⟨hJ, k2, rfl, hk2⟩
theorem q_crc (v2 : cM) : m_M_begin (f_M_crash_37_3 (f_M_crash_37_2 (f_M_crash_37_1 (f_M_crash_37 v2)))) = f_M_crash_37_3 (f_M_crash_37_2 (f_M_crash_37_1 (f_M_crash_37 (m_M_begin v2)))) := by
  have d0 : ∀ z : cM, f_M_crash_37 z = ms16 z (upd (mg16 z) 0 0) := fun z => rfl
  have d1 : ∀ z : cM, f_M_crash_37_1 z = ms16 z (upd (mg16 z) 1 0) := fun z => rfl
  have d2 : ∀ z : cM, f_M_crash_37_2 z = ms16 z (upd (mg16 z) 2 0) := fun z => rfl
  have d3 : ∀ z : cM, f_M_crash_37_3 z = ms16 z (upd (mg16 z) 3 0) := fun z => rfl
  have bc : ∀ (z : cM) (x : Nat → Int32), m_M_begin (ms16 z x) = ms16 (m_M_begin z) x := fun z x => by rw [q_mbegin, q_mbegin, mb_16, mb_16]
  have bg : ∀ z : cM, mg16 (m_M_begin z) = mg16 z := fun z => by rw [q_mbegin, mb_g16, mb_g16]
  have one : ∀ (z : cM) (i : Nat), m_M_begin (ms16 z (upd (mg16 z) i 0)) = ms16 (m_M_begin z) (upd (mg16 (m_M_begin z)) i 0) := fun z i => by rw [bc, bg]
  rw [d3, one, d2, one, d1, one, d0, one, ← d0, ← d1, ← d2, ← d3]
theorem q_cr2 {u2 : cB} {v2 : cM} (r : RV u2 v2) : m_B_countChangedOutputs (f_B_crash_37_3 (f_B_crash_37_2 (f_B_crash_37_1 (f_B_crash_37 (m_B_beginWantedSides u2))))) = m_M_others (m_M_begin (f_M_crash_37_3 (f_M_crash_37_2 (f_M_crash_37_1 (f_M_crash_37 v2))))) ∧ RV (f_B_crash_37_3 (f_B_crash_37_2 (f_B_crash_37_1 (f_B_crash_37 (m_B_beginWantedSides u2))))) (m_M_begin (f_M_crash_37_3 (f_M_crash_37_2 (f_M_crash_37_1 (f_M_crash_37 v2))))) := by
  rw [q_crc]
  have r4 := q_cw (q_cw (q_cw (q_cw (q_beginR r) 0) 1) 2) 3
  exact ⟨q_cntR r4, r4⟩
theorem b_crash_def (u : cB) : m_B_crash u = if b12 u = 0 then (m_B_countChangedOutputs (f_B_crash_37_3 (f_B_crash_37_2 (f_B_crash_37_1 (f_B_crash_37 (m_B_beginWantedSides (f_B_crash_16 (m_B_noteOutputs u))))))), f_B_crash_37_3 (f_B_crash_37_2 (f_B_crash_37_1 (f_B_crash_37 (m_B_beginWantedSides (f_B_crash_16 (m_B_noteOutputs u))))))) else (-3, u) := rfl
theorem m_crash_def (v : cM) : m_M_crash v = if mg3 v = 0 then (m_M_others (m_M_begin (f_M_crash_37_3 (f_M_crash_37_2 (f_M_crash_37_1 (f_M_crash_37 (f_M_crash_21 (m_M_layBy (ms0 v 0)))))))), m_M_begin (f_M_crash_37_3 (f_M_crash_37_2 (f_M_crash_37_1 (f_M_crash_37 (f_M_crash_21 (m_M_layBy (ms0 v 0)))))))) else (-3, ms0 v 0) := rfl
theorem r_crash {u : cB} {v : cM} (h : RV u v) : (m_B_crash u).1 = (m_M_crash v).1 ∧ RV (m_B_crash u).2 (m_M_crash v).2 := by
  have r := q_cr2 (q_cr1 (q_byR (h.z 0)))
  have e3 : b12 u = mg3 v := by
    obtain ⟨-, k, rfl, -⟩ := h
    rfl
  rw [b_crash_def, m_crash_def, e3]
  by_cases c : mg3 v = 0
  · rw [if_pos c, if_pos c]
    exact r
  · rw [if_neg c, if_neg c]
    exact ⟨rfl, h.z 0⟩
