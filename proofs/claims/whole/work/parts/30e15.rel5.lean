theorem pn_23 (v : cM) (x : Int32) : m_M_putOn (ms23 v x) = ms23 (m_M_putOn v) x := by
  have e1 : ∀ z : cM, m_M_putOn z = ms21 z (upd (mg21 z) (li_M_putOn_4 z (mg18 z).toNatClampNeg).toNatClampNeg 0) := fun z => rfl
  have e2 : mg18 (ms23 v x) = mg18 v := rfl
  have e3 : mg21 (ms23 v x) = mg21 v := rfl
  rw [e1, e1, e2, e3, lo_23]
  exact sn_d v x _
