theorem q_low (v : cM) (k : Nat → Nat → Int32) (t : Int32) : m_B_wantsLow (ph v k t) = if mg1 v 0 = 2 then 1 else (if mg1 v 0 = 3 then (if mg2 v = 0 then 0 else 1) else 0) := rfl
theorem q_park (v : cM) (k : Nat → Nat → Int32) (t : Int32) : m_B_isParkingLit (ph v k t) = if mg3 v = 0 then (if mg1 v 0 = 1 then 1 else (if m_B_wantsLow (ph v k t) = 0 then 0 else 1)) else 1 := rfl
theorem q_llit (v : cM) (k : Nat → Nat → Int32) (t : Int32) : m_B_isLowLit (ph v k t) = if mg1 v 5 = 1 then (if m_B_wantsLow (ph v k t) = 0 then 0 else 1) else 0 := rfl
theorem bit0 : m_B_bit 0 = 0 := rfl
theorem bit1 : m_B_bit 1 = 1 := rfl
