/-! REL5: loads, bulbs, keys, state -/
theorem upd_sh (f : Nat → Int32) (n : Nat) (x : Int32) : (fun j => upd f (n + 1) x (j + 1)) = upd (fun j => f (j + 1)) n x := by
  funext j
  unfold upd
  by_cases h : j = n
  · rw [if_pos h, if_pos (by omega)]
  · rw [if_neg h, if_neg (by omega)]
theorem upd_s0 (f : Nat → Int32) (x : Int32) : (fun j => upd f 0 x (j + 1)) = fun j => f (j + 1) := by
  funext j
  unfold upd
  rw [if_neg (by omega)]
theorem r_load {u : cB} {v : cM} (h : RV u v) (p q : Int32) : (m_B_load p q u).1 = (m_M_load p q v).1 ∧ RV (m_B_load p q u).2 (m_M_load p q v).2 := by
  obtain ⟨hI, k, rfl, hk⟩ := h
  obtain ⟨⟨n, hn, hne⟩, hlh⟩ := hI.2.2.2.2.2.2.2.1
  by_cases c : m_M_within p 0 9 = 0
  · have e1 : m_B_load p q (ph v k (mg6 v)) = (-2, ph v k (mg6 v)) := if_pos c
    have e2 : m_M_load p q v = (-2, ms0 v 0) := if_pos c
    rw [e1, e2]
    exact ⟨rfl, hI, k, rfl, hk⟩
  · have ef : m_Loads_isFull (b6 (ph v k (mg6 v))) = if mg18 v < 12 then 0 else 1 := rfl
    by_cases d : n = 12
    · have c12 : mg18 v = 12 := by rw [hne, d]; rfl
      have g : ¬ m_Loads_isFull (b6 (ph v k (mg6 v))) = 0 := by rw [ef, c12]; decide
      have e1 : m_B_load p q (ph v k (mg6 v)) = (-4, ph v k (mg6 v)) := (if_neg c).trans (if_neg g)
      have e2 : m_M_load p q v = (-4, ms0 v 0) := (if_neg c).trans (if_pos c12)
      rw [e1, e2]
      exact ⟨rfl, hI, k, rfl, hk⟩
    · have c12 : ¬ mg18 v = 12 := by
        rw [hne, show (12 : Int32) = nI 12 from rfl, nI_eq (by omega) (by omega)]
        exact d
      have lt : mg18 v < 12 := by
        rw [hne, show (12 : Int32) = nI 12 from rfl, nI_ltI (by omega) (by omega)]
        omega
      have g : m_Loads_isFull (b6 (ph v k (mg6 v))) = 0 := by rw [ef, if_pos lt]
      have ea : m_Loads_add p q (b6 (ph v k (mg6 v))) = (mg18 v + 1, ((upd (fun j => mg19 v (j + 1)) (mg18 v).toNatClampNeg p, upd (fun j => mg20 v (j + 1)) (mg18 v).toNatClampNeg q, fun j => mg21 v (j + 1), mg18 v + 1, mg22 v, mg23 v) : cL)) := (if_pos g).trans rfl
      have e1 : m_B_load p q (ph v k (mg6 v)) = ((m_Loads_add p q (b6 (ph v k (mg6 v)))).1, s6 (ph v k (mg6 v)) (m_Loads_add p q (b6 (ph v k (mg6 v)))).2) := (if_neg c).trans ((if_pos g).trans rfl)
      have e2 : m_M_load p q v = (mg18 v + 1, ms20 (ms19 (ms18 (ms0 v 0) (mg18 v + 1)) (upd (mg19 v) (mg18 v + 1).toNatClampNeg p)) (upd (mg20 v) (mg18 v + 1).toNatClampNeg q)) := (if_neg c).trans ((if_neg c12).trans rfl)
      rw [e1, e2, ea]
      refine ⟨rfl, ?_⟩
      have a1 : (mg18 v).toNatClampNeg = n := by rw [hne, nI_clamp (by omega)]
      have a2 : (mg18 v + 1).toNatClampNeg = n + 1 := by rw [hne, nI_1, nI_clamp (by omega)]
      dsimp only
      rw [a1, a2, ← upd_sh, ← upd_sh]
      refine ⟨⟨hI.1, hI.2.1, hI.2.2.1, hI.2.2.2.1, hI.2.2.2.2.1, hI.2.2.2.2.2.1, hI.2.2.2.2.2.2.1, ⟨?_, hlh⟩, hI.2.2.2.2.2.2.2.2⟩, k, rfl, hk⟩
      show rg (mg18 v + 1) 12
      rw [hne, nI_1]
      exact rg_nI (by omega)
theorem r_isOn {u : cB} {v : cM} (h : RV u v) (p : Int32) : m_B_isOn p u = (m_M_isOn p v).1 ∧ RV u (m_M_isOn p v).2 := by
  obtain ⟨hI, k, rfl, hk⟩ := h
  obtain ⟨⟨n, hn, hne⟩, hlh⟩ := hI.2.2.2.2.2.2.2.1
  have eh : m_Loads_has p (b6 (ph v k (mg6 v))) = m_M_within p 1 (mg18 v) := rfl
  by_cases c : m_M_within p 1 (mg18 v) = 0
  · have e1 : m_B_isOn p (ph v k (mg6 v)) = -1 := if_pos c
    have e2 : m_M_isOn p v = (-1, ms0 v 0) := if_pos c
    rw [e1, e2]
    exact ⟨rfl, hI, k, rfl, hk⟩
  · have er : m_Loads_runs p (b6 (ph v k (mg6 v))) = if mg21 v ((p - 1).toNatClampNeg + 1) = 0 then 1 else 0 := (if_neg c).trans rfl
    have e1 : m_B_isOn p (ph v k (mg6 v)) = m_B_bit (m_Loads_runs p (b6 (ph v k (mg6 v)))) := if_neg c
    have e2 : m_M_isOn p v = if mg21 v p.toNatClampNeg = 0 then (1, ms0 v 0) else (0, ms0 v 0) := (if_neg c).trans rfl
    obtain ⟨h1, h2⟩ := hk_wb c
    obtain ⟨j, hj, rfl⟩ := nI_of (x := p) (fun z => h1 (Int32.lt_trans z (by decide)))
    have hj1 : 1 ≤ j := by
      rw [show (1 : Int32) = nI 1 from rfl, nI_ltI hj (by omega)] at h1
      omega
    obtain ⟨i, rfl⟩ : ∃ i, j = i + 1 := ⟨j - 1, by omega⟩
    have ep : (nI (i + 1) - 1).toNatClampNeg + 1 = (nI (i + 1)).toNatClampNeg := by rw [nI_pred, nI_clamp (by omega), nI_clamp hj]
    rw [e1, er, e2, ep]
    by_cases d : mg21 v (nI (i + 1)).toNatClampNeg = 0
    · rw [if_pos d, if_pos d]
      exact ⟨rfl, hI, k, rfl, hk⟩
    · rw [if_neg d, if_neg d]
      exact ⟨rfl, hI, k, rfl, hk⟩
/-! shed -/
theorem nI_nm1 {n : Nat} (h : n < 2 ^ 31) : ¬ nI n = -1 := by
  intro e
  have e1 := congrArg Int32.toInt e
  rw [nI_toInt h] at e1
  have e2 : (-1 : Int32).toInt = -1 := rfl
  omega
def Lp (v : cM) : cL := (fun j => mg19 v (j + 1), fun j => mg20 v (j + 1), fun j => mg21 v (j + 1), mg18 v, mg22 v, mg23 v)
/-- none there is none here; place j there is number j + 1 here -/
def same (a b : Int32) (n : Nat) : Prop := (a = -1 ∧ b = 0) ∨ ∃ j : Nat, j < n ∧ a = nI j ∧ b = nI (j + 1)
theorem same.up {a b : Int32} {n : Nat} (h : same a b n) : same a b (n + 1) := by
  rcases h with h | ⟨j, hj, h⟩
  · exact Or.inl h
  · exact Or.inr ⟨j, by omega, h⟩
theorem q_shedn (v : cM) : ∀ n : Nat, n ≤ 12 → same (li_Loads_findNextToShed_4 (Lp v) n) (li_M_putOff_4 v n) n
  | 0, _ => Or.inl ⟨rfl, rfl⟩
  | n + 1, hn => by
    have ih := q_shedn v n (by omega)
    have e1 : li_Loads_findNextToShed_4 (Lp v) (n + 1) = if mg21 v (n + 1) = 0 then (if mg20 v (n + 1) = 0 then (if li_Loads_findNextToShed_4 (Lp v) n = -1 then nI n else (if mg19 v (n + 1) < mg19 v ((li_Loads_findNextToShed_4 (Lp v) n).toNatClampNeg + 1) then li_Loads_findNextToShed_4 (Lp v) n else nI n)) else li_Loads_findNextToShed_4 (Lp v) n) else li_Loads_findNextToShed_4 (Lp v) n := rfl
    have e2 : li_M_putOff_4 v (n + 1) = if mg21 v (n + 1) = 0 then (if mg20 v (n + 1) = 0 then (if li_M_putOff_4 v n = 0 then nI (n + 1) else (if mg19 v (n + 1) < mg19 v (li_M_putOff_4 v n).toNatClampNeg then li_M_putOff_4 v n else nI (n + 1))) else li_M_putOff_4 v n) else li_M_putOff_4 v n := rfl
    rw [e1, e2]
    have new : same (nI n) (nI (n + 1)) (n + 1) := Or.inr ⟨n, by omega, rfl, rfl⟩
    by_cases a : mg21 v (n + 1) = 0
    · rw [if_pos a, if_pos a]
      by_cases b : mg20 v (n + 1) = 0
      · rw [if_pos b, if_pos b]
        rcases ih with ⟨h1, h2⟩ | ⟨j, hj, h1, h2⟩
        · rw [if_pos h1, if_pos h2]
          exact new
        · rw [h1, h2, if_neg (nI_nm1 (by omega)), if_neg (nI_ne0 (by omega) (by omega)), nI_clamp (by omega), nI_clamp (by omega)]
          by_cases c : mg19 v (n + 1) < mg19 v (j + 1)
          · rw [if_pos c, if_pos c]
            exact Or.inr ⟨j, by omega, rfl, rfl⟩
          · rw [if_neg c, if_neg c]
            exact new
      · rw [if_neg b, if_neg b]
        exact ih.up
    · rw [if_neg a, if_neg a]
      exact ih.up
theorem q_resn (v : cM) : ∀ n : Nat, n ≤ 12 → same (li_Loads_findNextToRestore_4 (Lp v) n) (li_M_putOn_4 v n) n
  | 0, _ => Or.inl ⟨rfl, rfl⟩
  | n + 1, hn => by
    have ih := q_resn v n (by omega)
    have e1 : li_Loads_findNextToRestore_4 (Lp v) (n + 1) = if mg21 v (n + 1) = 0 then li_Loads_findNextToRestore_4 (Lp v) n else (if li_Loads_findNextToRestore_4 (Lp v) n = -1 then nI n else (if mg19 v ((li_Loads_findNextToRestore_4 (Lp v) n).toNatClampNeg + 1) ≤ mg19 v (n + 1) then li_Loads_findNextToRestore_4 (Lp v) n else nI n)) := rfl
    have e2 : li_M_putOn_4 v (n + 1) = if mg21 v (n + 1) = 0 then li_M_putOn_4 v n else (if li_M_putOn_4 v n = 0 then nI (n + 1) else (if mg19 v (li_M_putOn_4 v n).toNatClampNeg ≤ mg19 v (n + 1) then li_M_putOn_4 v n else nI (n + 1))) := rfl
    rw [e1, e2]
    have new : same (nI n) (nI (n + 1)) (n + 1) := Or.inr ⟨n, by omega, rfl, rfl⟩
    by_cases a : mg21 v (n + 1) = 0
    · rw [if_pos a, if_pos a]
      exact ih.up
    · rw [if_neg a, if_neg a]
      rcases ih with ⟨h1, h2⟩ | ⟨j, hj, h1, h2⟩
      · rw [if_pos h1, if_pos h2]
        exact new
      · rw [h1, h2, if_neg (nI_nm1 (by omega)), if_neg (nI_ne0 (by omega) (by omega)), nI_clamp (by omega), nI_clamp (by omega)]
        by_cases c : mg19 v (j + 1) ≤ mg19 v (n + 1)
        · rw [if_pos c, if_pos c]
          exact Or.inr ⟨j, by omega, rfl, rfl⟩
        · rw [if_neg c, if_neg c]
          exact new
theorem q_cofn (p : Int32) (v : cM) : ∀ n : Nat, li_Loads_countOff_4 (Lp v) n = li_M_shed_99 p v n
  | 0 => rfl
  | n + 1 => by
    have ih := q_cofn p v n
    have e1 : li_Loads_countOff_4 (Lp v) (n + 1) = if mg21 v (n + 1) = 0 then li_Loads_countOff_4 (Lp v) n else li_Loads_countOff_4 (Lp v) n + 1 := rfl
    have e2 : li_M_shed_99 p v (n + 1) = if mg21 v (n + 1) = 0 then li_M_shed_99 p v n + 0 else li_M_shed_99 p v n + 1 := rfl
    rw [e1, e2, ih, Int32.add_zero]
theorem set_def (i x : Int32) (w : cL) : m_Loads_setOff i x w = if i = -1 then w else t2 w (upd (l2 w) i.toNatClampNeg x) := rfl
theorem q_set {v : cM} {a b : Int32} {n : Nat} (hn : n ≤ 12) (h : same a b n) (x y : Int32) (hx : ¬ b = 0 → y = x) : m_Loads_setOff a x (Lp v) = Lp (ms21 v (upd (mg21 v) b.toNatClampNeg y)) := by
  rw [set_def]
  rcases h with ⟨rfl, rfl⟩ | ⟨j, hj, rfl, rfl⟩
  · rw [if_pos rfl]
    have e : Lp (ms21 v (upd (mg21 v) (0 : Int32).toNatClampNeg y)) = (fun j => mg19 v (j + 1), fun j => mg20 v (j + 1), fun j => upd (mg21 v) 0 y (j + 1), mg18 v, mg22 v, mg23 v) := rfl
    rw [e, upd_s0]
    rfl
  · have hy := hx (nI_ne0 (by omega) (by omega))
    subst hy
    rw [if_neg (nI_nm1 (by omega)), nI_clamp (by omega), nI_clamp (by omega)]
    have e : Lp (ms21 v (upd (mg21 v) (j + 1) y)) = (fun j => mg19 v (j + 1), fun j => mg20 v (j + 1), fun i => upd (mg21 v) (j + 1) y (i + 1), mg18 v, mg22 v, mg23 v) := rfl
    rw [e, upd_sh]
    rfl
theorem q_off {v : cM} (h : rg (mg18 v) 12) : ∃ f, m_M_putOff v = ms21 v f ∧ m_Loads_setOff (m_Loads_findNextToShed (Lp v)) 1 (Lp v) = Lp (ms21 v f) := by
  obtain ⟨n, hn, hne⟩ := h
  have hc : (mg18 v).toNatClampNeg = n := by rw [hne, nI_clamp (by omega)]
  have e0 : m_Loads_findNextToShed (Lp v) = li_Loads_findNextToShed_4 (Lp v) (mg18 v).toNatClampNeg := rfl
  have e1 : m_M_putOff v = if li_M_putOff_4 v (mg18 v).toNatClampNeg ≤ 0 then ms21 v (upd (mg21 v) (li_M_putOff_4 v (mg18 v).toNatClampNeg).toNatClampNeg 0) else ms21 v (upd (mg21 v) (li_M_putOff_4 v (mg18 v).toNatClampNeg).toNatClampNeg 1) := rfl
  rw [e0, e1, hc]
  have s := q_shedn v n hn
  by_cases c : li_M_putOff_4 v n ≤ 0
  · rw [if_pos c]
    refine ⟨_, rfl, q_set hn s 1 0 (fun z => ?_)⟩
    rcases s with ⟨-, h2⟩ | ⟨j, hj, -, h2⟩
    · exact absurd h2 z
    · rw [h2] at c
      exact absurd c (nI_nle (by omega) (by omega))
  · rw [if_neg c]
    exact ⟨_, rfl, q_set hn s 1 1 (fun _ => rfl)⟩
theorem q_on {v : cM} (h : rg (mg18 v) 12) : ∃ f, m_M_putOn v = ms21 v f ∧ m_Loads_setOff (m_Loads_findNextToRestore (Lp v)) 0 (Lp v) = Lp (ms21 v f) := by
  obtain ⟨n, hn, hne⟩ := h
  have hc : (mg18 v).toNatClampNeg = n := by rw [hne, nI_clamp (by omega)]
  have e0 : m_Loads_findNextToRestore (Lp v) = li_Loads_findNextToRestore_4 (Lp v) (mg18 v).toNatClampNeg := rfl
  have e1 : m_M_putOn v = ms21 v (upd (mg21 v) (li_M_putOn_4 v (mg18 v).toNatClampNeg).toNatClampNeg 0) := rfl
  rw [e0, e1, hc]
  exact ⟨_, rfl, q_set hn (q_resn v n hn) 0 0 (fun _ => rfl)⟩
/-- the class's measure, its steps apart -/
def ml1 (p : Int32) (w : cL) : cL := t4 w (if 11500 ≤ p then 0 else l4 w + 1)
def ml2 (p : Int32) (w : cL) : cL := t5 w (if p ≤ 12500 then 0 else l5 w + 1)
def ml3 (w : cL) : cL := if l4 w < 3 then w else m_Loads_setOff (m_Loads_findNextToShed (t4 w 0)) 1 (t4 w 0)
def ml4 (w : cL) : cL := if l5 w < 3 then w else m_Loads_setOff (m_Loads_findNextToRestore (t5 w 0)) 0 (t5 w 0)
theorem q_ms34 (w : cL) : (if l4 w < 3 then (if l5 w < 3 then w else (m_Loads_setOff (m_Loads_findNextToRestore (f_Loads_measure_74 w)) (0 : Int32) (f_Loads_measure_74 w))) else (if l5 (m_Loads_setOff (m_Loads_findNextToShed (f_Loads_measure_52 w)) (1 : Int32) (f_Loads_measure_52 w)) < 3 then (m_Loads_setOff (m_Loads_findNextToShed (f_Loads_measure_52 w)) (1 : Int32) (f_Loads_measure_52 w)) else (m_Loads_setOff (m_Loads_findNextToRestore (f_Loads_measure_74 (m_Loads_setOff (m_Loads_findNextToShed (f_Loads_measure_52 w)) (1 : Int32) (f_Loads_measure_52 w)))) (0 : Int32) (f_Loads_measure_74 (m_Loads_setOff (m_Loads_findNextToShed (f_Loads_measure_52 w)) (1 : Int32) (f_Loads_measure_52 w)))))) = ml4 (ml3 w) := by
  unfold ml3
  by_cases a : l4 w < 3
  · rw [if_pos a, if_pos a]
    rfl
  · rw [if_neg a, if_neg a]
    rfl
theorem q_meas (p : Int32) (w : cL) : m_Loads_measure p w = ml4 (ml3 (ml2 p (ml1 p w))) := by
  unfold ml1 ml2
  by_cases a : 11500 ≤ p
  · rw [if_pos a]
    refine (if_pos a).trans ?_
    by_cases b : p ≤ 12500
    · rw [if_pos b]
      refine (if_pos b).trans ?_
      exact q_ms34 (t5 (t4 w 0) 0)
    · rw [if_neg b]
      refine (if_neg b).trans ?_
      exact q_ms34 (t5 (t4 w 0) (l5 (t4 w 0) + 1))
  · rw [if_neg a]
    refine (if_neg a).trans ?_
    by_cases b : p ≤ 12500
    · rw [if_pos b]
      refine (if_pos b).trans ?_
      exact q_ms34 (t5 (t4 w (l4 w + 1)) 0)
    · rw [if_neg b]
      refine (if_neg b).trans ?_
      exact q_ms34 (t5 (t4 w (l4 w + 1)) (l5 (t4 w (l4 w + 1)) + 1))
theorem lo_22 (v : cM) (x : Int32) : ∀ n : Nat, li_M_putOff_4 (ms22 v x) n = li_M_putOff_4 v n
  | 0 => rfl
  | n + 1 => by
    have e1 : ∀ z : cM, li_M_putOff_4 z (n + 1) = lb_M_putOff_4 z n (li_M_putOff_4 z n) := fun z => rfl
    rw [e1, e1, lo_22 v x n]
    rfl
theorem lo_23 (v : cM) (x : Int32) : ∀ n : Nat, li_M_putOn_4 (ms23 v x) n = li_M_putOn_4 v n
  | 0 => rfl
  | n + 1 => by
    have e1 : ∀ z : cM, li_M_putOn_4 z (n + 1) = lb_M_putOn_4 z n (li_M_putOn_4 z n) := fun z => rfl
    rw [e1, e1, lo_23 v x n]
    rfl
theorem pf_22 (v : cM) (x : Int32) : m_M_putOff (ms22 v x) = ms22 (m_M_putOff v) x := by
  have e1 : ∀ z : cM, m_M_putOff z = if li_M_putOff_4 z (mg18 z).toNatClampNeg ≤ 0 then ms21 z (upd (mg21 z) (li_M_putOff_4 z (mg18 z).toNatClampNeg).toNatClampNeg 0) else ms21 z (upd (mg21 z) (li_M_putOff_4 z (mg18 z).toNatClampNeg).toNatClampNeg 1) := fun z => rfl
  have e2 : mg18 (ms22 v x) = mg18 v := rfl
  have e3 : mg21 (ms22 v x) = mg21 v := rfl
  rw [e1, e1, e2, e3, lo_22]
  split <;> rfl
theorem pn_23 (v : cM) (x : Int32) : m_M_putOn (ms23 v x) = ms23 (m_M_putOn v) x := by
  have e1 : ∀ z : cM, m_M_putOn z = ms21 z (upd (mg21 z) (li_M_putOn_4 z (mg18 z).toNatClampNeg).toNatClampNeg 0) := fun z => rfl
  have e2 : mg18 (ms23 v x) = mg18 v := rfl
  have e3 : mg21 (ms23 v x) = mg21 v := rfl
  rw [e1, e1, e2, e3, lo_23]
  rfl
def mm3 (v : cM) : cM := if mg22 v = 3 then ms22 (m_M_putOff v) 0 else v
def mm4 (v : cM) : cM := if mg23 v = 3 then ms23 (m_M_putOn v) 0 else v
theorem q_mshed (p : Int32) (v : cM) (c : ¬ m_M_within p 0 20000 = 0) : m_M_shed p v = g_M_shed_95 p (mm4 (mm3 (ms23 (ms22 (ms0 v 0) (if 11500 ≤ p then 0 else mg22 v + 1)) (if p ≤ 12500 then 0 else mg23 v + 1)))) := by
  have g61 : ∀ z : cM, g_M_shed_61 p z = g_M_shed_95 p (mm4 (mm3 z)) := by
    intro z
    have g78 : ∀ y : cM, g_M_shed_78 p y = g_M_shed_95 p (mm4 y) := by
      intro y
      unfold mm4
      by_cases a : mg23 y = 3
      · rw [if_pos a]
        exact (if_pos a).trans rfl
      · rw [if_neg a]
        exact if_neg a
    unfold mm3
    by_cases a : mg22 z = 3
    · rw [if_pos a]
      exact (if_pos a).trans (g78 _)
    · rw [if_neg a]
      exact (if_neg a).trans (g78 _)
  refine (if_neg c).trans ?_
  by_cases a : 11500 ≤ p
  · rw [if_pos a]
    refine (if_pos a).trans ?_
    by_cases b : p ≤ 12500
    · rw [if_pos b]
      exact (if_pos b).trans (g61 _)
    · rw [if_neg b]
      exact (if_neg b).trans (g61 _)
  · rw [if_neg a]
    refine (if_neg a).trans ?_
    by_cases b : p ≤ 12500
    · rw [if_pos b]
      exact (if_pos b).trans (g61 _)
    · rw [if_neg b]
      exact (if_neg b).trans (g61 _)
theorem q_m3 {v : cM} (h : rg (mg18 v) 12) (h3 : rg (mg22 v) 3) : ∃ f x, rg x 2 ∧ mm3 v = ms22 (ms21 v f) x ∧ ml3 (Lp v) = Lp (ms22 (ms21 v f) x) := by
  obtain ⟨n, hn, hne⟩ := h3
  unfold mm3 ml3
  have e3 : (3 : Int32) = nI 3 := rfl
  have el : l4 (Lp v) = mg22 v := rfl
  rw [el]
  by_cases c : n = 3
  · have c1 : mg22 v = 3 := by rw [hne, c]; rfl
    rw [if_pos c1, if_neg (by rw [c1]; decide)]
    obtain ⟨f, h1, h2⟩ := q_off (v := ms22 v 0) h
    have e4 : t4 (Lp v) 0 = Lp (ms22 v 0) := rfl
    refine ⟨f, 0, ⟨0, by omega, rfl⟩, ?_, ?_⟩
    · have e5 : m_M_putOff (ms22 v 0) = ms22 (m_M_putOff v) 0 := pf_22 v 0
      rw [← e5, h1]
      rfl
    · rw [e4, h2]
      rfl
  · have c1 : ¬ mg22 v = 3 := by
      rw [hne, e3, nI_eq (by omega) (by omega)]
      exact c
    have c2 : mg22 v < 3 := by
      rw [hne, e3, nI_ltI (by omega) (by omega)]
      omega
    rw [if_neg c1, if_pos c2]
    refine ⟨mg21 v, mg22 v, ?_, rfl, rfl⟩
    rw [hne]
    exact rg_nI (by omega)
theorem q_m4 {v : cM} (h : rg (mg18 v) 12) (h3 : rg (mg23 v) 3) : ∃ f x, rg x 2 ∧ mm4 v = ms23 (ms21 v f) x ∧ ml4 (Lp v) = Lp (ms23 (ms21 v f) x) := by
  obtain ⟨n, hn, hne⟩ := h3
  unfold mm4 ml4
  have e3 : (3 : Int32) = nI 3 := rfl
  have el : l5 (Lp v) = mg23 v := rfl
  rw [el]
  by_cases c : n = 3
  · have c1 : mg23 v = 3 := by rw [hne, c]; rfl
    rw [if_pos c1, if_neg (by rw [c1]; decide)]
    obtain ⟨f, h1, h2⟩ := q_on (v := ms23 v 0) h
    have e4 : t5 (Lp v) 0 = Lp (ms23 v 0) := rfl
    refine ⟨f, 0, ⟨0, by omega, rfl⟩, ?_, ?_⟩
    · have e5 : m_M_putOn (ms23 v 0) = ms23 (m_M_putOn v) 0 := pn_23 v 0
      rw [← e5, h1]
      rfl
    · rw [e4, h2]
      rfl
  · have c1 : ¬ mg23 v = 3 := by
      rw [hne, e3, nI_eq (by omega) (by omega)]
      exact c
    have c2 : mg23 v < 3 := by
      rw [hne, e3, nI_ltI (by omega) (by omega)]
      omega
    rw [if_neg c1, if_pos c2]
    refine ⟨mg21 v, mg23 v, ?_, rfl, rfl⟩
    rw [hne]
    exact rg_nI (by omega)
theorem q_lim {x : Int32} (h : rg x 2) (P : Prop) [Decidable P] : rg (if P then 0 else x + 1) 3 := by
  split
  · exact ⟨0, by omega, rfl⟩
  · obtain ⟨n, hn, rfl⟩ := h
    rw [nI_1]
    exact rg_nI (by omega)
theorem r_shed {u : cB} {v : cM} (h : RV u v) (p : Int32) : (m_B_shed p u).1 = (m_M_shed p v).1 ∧ RV (m_B_shed p u).2 (m_M_shed p v).2 := by
  obtain ⟨hI, k, rfl, hk⟩ := h
  by_cases c : m_M_within p 0 20000 = 0
  · have e1 : m_B_shed p (ph v k (mg6 v)) = (-2, ph v k (mg6 v)) := if_pos c
    have e2 : m_M_shed p v = (-2, ms0 v 0) := if_pos c
    rw [e1, e2]
    exact ⟨rfl, hI, k, rfl, hk⟩
  · have e1 : m_B_shed p (ph v k (mg6 v)) = (m_Loads_countOff (m_Loads_measure p (Lp v)), s6 (ph v k (mg6 v)) (m_Loads_measure p (Lp v))) := if_neg c
    obtain ⟨h18, h22, h23⟩ := hI.2.2.2.2.2.2.2.1
    have el : ml2 p (ml1 p (Lp v)) = Lp (ms23 (ms22 (ms0 v 0) (if 11500 ≤ p then 0 else mg22 v + 1)) (if p ≤ 12500 then 0 else mg23 v + 1)) := rfl
    rw [e1, q_mshed p v c, q_meas, el]
    obtain ⟨f, x, hx, d1, d2⟩ := q_m3 (v := ms23 (ms22 (ms0 v 0) (if 11500 ≤ p then 0 else mg22 v + 1)) (if p ≤ 12500 then 0 else mg23 v + 1)) h18 (q_lim h22 _)
    rw [d1, d2]
    obtain ⟨g, y, hy, d3, d4⟩ := q_m4 (v := ms22 (ms21 (ms23 (ms22 (ms0 v 0) (if 11500 ≤ p then 0 else mg22 v + 1)) (if p ≤ 12500 then 0 else mg23 v + 1)) f) x) h18 (q_lim h23 _)
    rw [d3, d4]
    refine ⟨q_cofn p _ _, ?_⟩
    exact ⟨⟨hI.1, hI.2.1, hI.2.2.1, hI.2.2.2.1, hI.2.2.2.2.1, hI.2.2.2.2.2.1, hI.2.2.2.2.2.2.1, ⟨h18, hx, hy⟩, hI.2.2.2.2.2.2.2.2⟩, k, rfl, hk⟩
