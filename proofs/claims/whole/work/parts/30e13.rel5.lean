theorem lo_22 (v : cM) (x : Int32) : ∀ n : Nat, li_M_putOff_4 (ms22 v x) n = li_M_putOff_4 v n
  | 0 => rfl
  | n + 1 => by
    have e1 : ∀ z : cM, li_M_putOff_4 z (n + 1) = lb_M_putOff_4 z n (li_M_putOff_4 z n) := fun z => rfl
    rw [e1, e1, lo_22 v x n]
    rfl
theorem lo_23 (v : cM) (x : Int32) : ∀ n : Nat, li_M_putOn_4 (ms23 v x) n = li_M_putOn_4 v n
  | 0 => rfl
  | n + 1 => by
    have e1 : ∀ z : cM, li_M_putOn_4 z (n + 1) = lb_M_putOn_4 z n (li_M_putOn_4 z n) := fun z => rfl
    rw [e1, e1, lo_23 v x n]
    rfl
