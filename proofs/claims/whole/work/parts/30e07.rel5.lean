theorem q_cofn (p : Int32) (v : cM) : ∀ n : Nat, li_Loads_countOff_4 (Lp v) n = li_M_shed_99 p v n
  | 0 => rfl
  | n + 1 => by
    have ih := q_cofn p v n
    have e1 : li_Loads_countOff_4 (Lp v) (n + 1) = if mg21 v (n + 1) = 0 then li_Loads_countOff_4 (Lp v) n else li_Loads_countOff_4 (Lp v) n + 1 := rfl
    have e2 : li_M_shed_99 p v (n + 1) = if mg21 v (n + 1) = 0 then li_M_shed_99 p v n + 0 else li_M_shed_99 p v n + 1 := rfl
    rw [e1, e2, ih, Int32.add_zero]
theorem set_def (i x : Int32) (w : cL) : m_Loads_setOff i x w = if i = -1 then w else t2 w (upd (l2 w) i.toNatClampNeg x) := rfl
