theorem pf_22 (v : cM) (x : Int32) : m_M_putOff (ms22 v x) = ms22 (m_M_putOff v) x := by
  have e1 : ∀ z : cM, m_M_putOff z = if li_M_putOff_4 z (mg18 z).toNatClampNeg ≤ 0 then ms21 z (upd (mg21 z) (li_M_putOff_4 z (mg18 z).toNatClampNeg).toNatClampNeg 0) else ms21 z (upd (mg21 z) (li_M_putOff_4 z (mg18 z).toNatClampNeg).toNatClampNeg 1) := fun z => rfl
  have e2 : mg18 (ms22 v x) = mg18 v := rfl
  have e3 : mg21 (ms22 v x) = mg21 v := rfl
  rw [e1, e1, e2, e3, lo_22]
  split
  · exact sn_a v x _
  · exact sn_a v x _
