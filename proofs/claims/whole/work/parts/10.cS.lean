theorem Y_B_isBelow : hk_YS y_B_isBelow b_B_isBelow 2 (some .boolean) 2 := ⟨hk_in (by decide +kernel) rfl, hk_in (by decide +kernel) rfl, hk_in (List.mem_of_getElem? (i := 206) rfl) rfl, by decide, by decide, by decide +kernel⟩
abbrev rm_B_isBelow : Room := { frames := 0, cells := 0, slots := 0, locals := 0 }
set_option maxHeartbeats 4000000 in
set_option maxRecDepth 100000 in
theorem c_B_isBelow (l : Launch) (G : hk_G) (p0 : Int32) (p1 : Int32) : hk_I l G y_B_isBelow b_B_isBelow 2 (some .boolean) rm_B_isBelow [.int p0, .int p1] [] (m_B_isBelow p0 p1) [] := by
  refine hk_I_of (by decide) (Nat.le_of_ble_eq_true rfl) ?_
  intro p e s m below meth c A ls C hAe hA hP hD hS hl
  have hx := C.1
  have hb := C.2.1
  have hown := C.2.2.2.2.1
  have hts := C.2.2.2.2.2.1
  have hE := C.2.2.2.2.2.2.2
  have hl : lv_has ls 2 [(0, .int p0), (1, .int p1)] := hl
  refine lv_iload_n hx hb d_B_isBelow_0 rfl (lv_at hl 0 rfl) ?_
  refine lv_if_lt (tgt := 13) hx hb d_B_isBelow_1 (by decide) (fun c_1 => ?_) (fun c_1 => ?_)
  · skip
    refine lv_iconst (v := (0 : Int32)) hx hb d_B_isBelow_13 (by decide) ?_
    have e : m_B_isBelow p0 p1 = (0 : Int32) := (if_pos c_1).trans (rfl)
    exact hk_rz C hAe hP hD hS (Or.inl rfl) e.symm rfl d_B_isBelow_14
  · skip
    refine lv_iload_n hx hb d_B_isBelow_4 rfl (lv_at hl 0 rfl) ?_
    refine lv_iload_n hx hb d_B_isBelow_5 rfl (lv_at hl 1 rfl) ?_
    refine lv_icmp_ge (tgt := 13) hx hb d_B_isBelow_6 (by decide) (fun c_2 => ?_) (fun c_2 => ?_)
    · skip
      refine lv_iconst (v := (0 : Int32)) hx hb d_B_isBelow_13 (by decide) ?_
      have e : m_B_isBelow p0 p1 = (0 : Int32) := (if_neg c_1).trans ((if_pos c_2).trans (rfl))
      exact hk_rz C hAe hP hD hS (Or.inl rfl) e.symm rfl d_B_isBelow_14
    · skip
      refine lv_iconst (v := (1 : Int32)) hx hb d_B_isBelow_9 (by decide) ?_
      refine lv_goto (tgt := 14) hx hb d_B_isBelow_10 (by decide) ?_
      have e : m_B_isBelow p0 p1 = (1 : Int32) := (if_neg c_1).trans ((if_neg c_2).trans (rfl))
      exact hk_rz C hAe hP hD hS (Or.inr rfl) e.symm rfl d_B_isBelow_14
theorem Y_B_isUpTo : hk_YS y_B_isUpTo b_B_isUpTo 2 (some .boolean) 2 := ⟨hk_in (by decide +kernel) rfl, hk_in (by decide +kernel) rfl, hk_in (List.mem_of_getElem? (i := 211) rfl) rfl, by decide, by decide, by decide +kernel⟩
abbrev rm_B_isUpTo : Room := { frames := 0, cells := 0, slots := 0, locals := 0 }
set_option maxHeartbeats 4000000 in
set_option maxRecDepth 100000 in
theorem c_B_isUpTo (l : Launch) (G : hk_G) (p0 : Int32) (p1 : Int32) : hk_I l G y_B_isUpTo b_B_isUpTo 2 (some .boolean) rm_B_isUpTo [.int p0, .int p1] [] (m_B_isUpTo p0 p1) [] := by
  refine hk_I_of (by decide) (Nat.le_of_ble_eq_true rfl) ?_
  intro p e s m below meth c A ls C hAe hA hP hD hS hl
  have hx := C.1
  have hb := C.2.1
  have hown := C.2.2.2.2.1
  have hts := C.2.2.2.2.2.1
  have hE := C.2.2.2.2.2.2.2
  have hl : lv_has ls 2 [(0, .int p0), (1, .int p1)] := hl
  refine lv_iload_n hx hb d_B_isUpTo_0 rfl (lv_at hl 0 rfl) ?_
  refine lv_if_lt (tgt := 13) hx hb d_B_isUpTo_1 (by decide) (fun c_1 => ?_) (fun c_1 => ?_)
  · skip
    refine lv_iconst (v := (0 : Int32)) hx hb d_B_isUpTo_13 (by decide) ?_
    have e : m_B_isUpTo p0 p1 = (0 : Int32) := (if_pos c_1).trans (rfl)
    exact hk_rz C hAe hP hD hS (Or.inl rfl) e.symm rfl d_B_isUpTo_14
  · skip
    refine lv_iload_n hx hb d_B_isUpTo_4 rfl (lv_at hl 0 rfl) ?_
    refine lv_iload_n hx hb d_B_isUpTo_5 rfl (lv_at hl 1 rfl) ?_
    refine lv_icmp_gt (tgt := 13) hx hb d_B_isUpTo_6 (by decide) (fun c_2 => ?_) (fun c_2 => ?_)
    · skip
      refine lv_iconst (v := (0 : Int32)) hx hb d_B_isUpTo_13 (by decide) ?_
      have e : m_B_isUpTo p0 p1 = (0 : Int32) := (if_neg c_1).trans ((if_pos c_2).trans (rfl))
      exact hk_rz C hAe hP hD hS (Or.inl rfl) e.symm rfl d_B_isUpTo_14
    · skip
      refine lv_iconst (v := (1 : Int32)) hx hb d_B_isUpTo_9 (by decide) ?_
      refine lv_goto (tgt := 14) hx hb d_B_isUpTo_10 (by decide) ?_
      have e : m_B_isUpTo p0 p1 = (1 : Int32) := (if_neg c_1).trans ((if_neg c_2).trans (rfl))
      exact hk_rz C hAe hP hD hS (Or.inr rfl) e.symm rfl d_B_isUpTo_14
theorem Y_B_bit : hk_YS y_B_bit b_B_bit 1 (some .int) 1 := ⟨hk_in (by decide +kernel) rfl, hk_in (by decide +kernel) rfl, hk_in (List.mem_of_getElem? (i := 230) rfl) rfl, by decide, by decide, by decide +kernel⟩
abbrev rm_B_bit : Room := { frames := 0, cells := 0, slots := 0, locals := 0 }
set_option maxHeartbeats 4000000 in
set_option maxRecDepth 100000 in
theorem c_B_bit (l : Launch) (G : hk_G) (p0 : Int32) : hk_I l G y_B_bit b_B_bit 1 (some .int) rm_B_bit [.int p0] [] (m_B_bit p0) [] := by
  refine hk_I_of (by decide) (Nat.le_of_ble_eq_true rfl) ?_
  intro p e s m below meth c A ls C hAe hA hP hD hS hl
  have hx := C.1
  have hb := C.2.1
  have hown := C.2.2.2.2.1
  have hts := C.2.2.2.2.2.1
  have hE := C.2.2.2.2.2.2.2
  have hl : lv_has ls 1 [(0, .int p0)] := hl
  refine lv_iload_n hx hb d_B_bit_0 rfl (lv_at hl 0 rfl) ?_
  refine lv_if_eq (tgt := 8) hx hb d_B_bit_1 (by decide) (fun c_1 => ?_) (fun c_1 => ?_)
  · skip
    refine lv_iconst (v := (0 : Int32)) hx hb d_B_bit_8 (by decide) ?_
    have e : m_B_bit p0 = (0 : Int32) := (if_pos c_1).trans (rfl)
    exact hk_ri C hAe hP hD hS e.symm rfl d_B_bit_9
  · skip
    refine lv_iconst (v := (1 : Int32)) hx hb d_B_bit_4 (by decide) ?_
    refine lv_goto (tgt := 9) hx hb d_B_bit_5 (by decide) ?_
    have e : m_B_bit p0 = (1 : Int32) := (if_neg c_1).trans (rfl)
    exact hk_ri C hAe hP hD hS e.symm rfl d_B_bit_9
theorem Y_Side_period : hk_YS y_Side_period b_Side_period 1 (some .int) 1 := ⟨hk_in (by decide +kernel) rfl, hk_in (by decide +kernel) rfl, hk_in (List.mem_of_getElem? (i := 249) rfl) rfl, by decide, by decide, by decide +kernel⟩
abbrev rm_Side_period : Room := { frames := 0, cells := 0, slots := 0, locals := 0 }
set_option maxHeartbeats 4000000 in
set_option maxRecDepth 100000 in
theorem c_Side_period (l : Launch) (G : hk_G) (p0 : Int32) : hk_I l G y_Side_period b_Side_period 1 (some .int) rm_Side_period [.int p0] [] (m_Side_period p0) [] := by
  refine hk_I_of (by decide) (Nat.le_of_ble_eq_true rfl) ?_
  intro p e s m below meth c A ls C hAe hA hP hD hS hl
  have hx := C.1
  have hb := C.2.1
  have hown := C.2.2.2.2.1
  have hts := C.2.2.2.2.2.1
  have hE := C.2.2.2.2.2.2.2
  have hl : lv_has ls 1 [(0, .int p0)] := hl
  refine lv_iload_n hx hb d_Side_period_0 rfl (lv_at hl 0 rfl) ?_
  refine lv_if_eq (tgt := 9) hx hb d_Side_period_1 (by decide) (fun c_1 => ?_) (fun c_1 => ?_)
  · skip
    refine lv_bipush (v := (80 : Int32)) hx hb d_Side_period_9 (by decide) ?_
    have e : m_Side_period p0 = (80 : Int32) := (if_pos c_1).trans (rfl)
    exact hk_ri C hAe hP hD hS e.symm rfl d_Side_period_11
  · skip
    refine lv_bipush (v := (40 : Int32)) hx hb d_Side_period_4 (by decide) ?_
    refine lv_goto (tgt := 11) hx hb d_Side_period_6 (by decide) ?_
    have e : m_Side_period p0 = (40 : Int32) := (if_neg c_1).trans (rfl)
    exact hk_ri C hAe hP hD hS e.symm rfl d_Side_period_11
theorem Y_Side_begin : hk_Y y_Side_begin b_Side_begin 1 none 0 := ⟨hk_in (by decide +kernel) rfl, hk_in (by decide +kernel) rfl, hk_in (by decide +kernel) rfl, hk_in (List.mem_of_getElem? (i := 265) rfl) rfl, by decide, by decide, by decide +kernel⟩
abbrev rm_Side_begin : Room := { frames := 0, cells := 0, slots := 0, locals := 0 }
set_option maxHeartbeats 4000000 in
set_option maxRecDepth 100000 in
theorem c_Side_begin (l : Launch) (G : hk_G) (a0 : Nat) (u : cS) : hk_V l G y_Side_begin b_Side_begin 1 rm_Side_begin [.ref a0] (wS a0 u) (wS a0 (m_Side_begin u)) := by
  refine hk_V_of (by decide) (Nat.le_of_ble_eq_true rfl) ?_
  intro p e s m below meth c A ls C hAe hA hP hD hS hl
  have hx := C.1
  have hb := C.2.1
  have hown := C.2.2.2.2.1
  have hts := C.2.2.2.2.2.1
  have hE := C.2.2.2.2.2.2.2
  have hl : lv_has ls 1 [(0, .ref a0)] := hl
  refine lv_aload_n hx hb d_Side_begin_0 rfl (lv_at hl 0 rfl) ?_
  refine hk_get (v := .int u.1) C hP 0 0 0 i_Side rfl rfl (by decide) (hk_in (by decide +kernel) rfl) rfl d_Side_begin_1 ?_
  refine lv_if_ne (tgt := 22) hx hb d_Side_begin_4 (by decide) (fun c_1 => ?_) (fun c_1 => ?_)
  · skip
    have e : m_Side_begin u = u := (if_neg c_1).trans (rfl)
    exact hk_rv C hAe hP hD hS (by rw [e]) d_Side_begin_22
  · skip
    refine lv_aload_n hx hb d_Side_begin_7 rfl (lv_at hl 0 rfl) ?_
    refine lv_iconst (v := (1 : Int32)) hx hb d_Side_begin_8 (by decide) ?_
    refine hk_put (w2 := wS a0 (f_Side_begin_9 u)) (v := .int (1 : Int32)) (ty := .boolean) C hP hD hS 0 0 0 i_Side t_Side_ok n_Side rfl rfl (by decide) (hk_in (by decide +kernel) rfl) rfl (by decide +kernel) (hk_nb (Or.inr rfl)) (hk_fb (Or.inr rfl)) (Nat.le_of_ble_eq_true rfl) rfl d_Side_begin_9 (fun H locs hP hD hS => ?_)
    obtain ⟨U1, hU1⟩ : ∃ z, (f_Side_begin_9 u) = z := ⟨_, rfl⟩
    rw [hU1] at hP hD
    refine lv_aload_n hx hb d_Side_begin_12 rfl (lv_at hl 0 rfl) ?_
    refine lv_iconst (v := (0 : Int32)) hx hb d_Side_begin_13 (by decide) ?_
    refine hk_put (w2 := wS a0 (f_Side_begin_14 U1)) (v := .int (0 : Int32)) (ty := .int) C hP hD hS 0 0 1 i_Side t_Side_ok n_Side rfl rfl (by decide) (hk_in (by decide +kernel) rfl) rfl (by decide +kernel) rfl rfl (Nat.le_of_ble_eq_true rfl) rfl d_Side_begin_14 (fun H locs hP hD hS => ?_)
    obtain ⟨U2, hU2⟩ : ∃ z, (f_Side_begin_14 U1) = z := ⟨_, rfl⟩
    rw [hU2] at hP hD
    refine lv_aload_n hx hb d_Side_begin_17 rfl (lv_at hl 0 rfl) ?_
    refine lv_iconst (v := (0 : Int32)) hx hb d_Side_begin_18 (by decide) ?_
    refine hk_put (w2 := wS a0 (f_Side_begin_19 U2)) (v := .int (0 : Int32)) (ty := .int) C hP hD hS 0 0 2 i_Side t_Side_ok n_Side rfl rfl (by decide) (hk_in (by decide +kernel) rfl) rfl (by decide +kernel) rfl rfl (Nat.le_of_ble_eq_true rfl) rfl d_Side_begin_19 (fun H locs hP hD hS => ?_)
    obtain ⟨U3, hU3⟩ : ∃ z, (f_Side_begin_19 U2) = z := ⟨_, rfl⟩
    rw [hU3] at hP hD
    subst hU1 hU2 hU3
    have e : m_Side_begin u = (f_Side_begin_19 (f_Side_begin_14 (f_Side_begin_9 u))) := (if_pos c_1).trans (rfl)
    exact hk_rv C hAe hP hD hS (by rw [e]) d_Side_begin_22
theorem Y_Side_tick : hk_Y y_Side_tick b_Side_tick 3 none 2 := ⟨hk_in (by decide +kernel) rfl, hk_in (by decide +kernel) rfl, hk_in (by decide +kernel) rfl, hk_in (List.mem_of_getElem? (i := 285) rfl) rfl, by decide, by decide, by decide +kernel⟩
abbrev rm_Side_tick : Room := { frames := 1, cells := 0, slots := 0, locals := 20 }
set_option maxHeartbeats 4000000 in
set_option maxRecDepth 100000 in
theorem c_Side_tick (l : Launch) (G : hk_G) (a0 : Nat) (u : cS) (p1 : Int32) (p2 : Int32) : hk_V l G y_Side_tick b_Side_tick 3 rm_Side_tick [.ref a0, .int p1, .int p2] (wS a0 u) (wS a0 (m_Side_tick p1 p2 u)) := by
  refine hk_V_of (by decide) (Nat.le_of_ble_eq_true rfl) ?_
  intro p e s m below meth c A ls C hAe hA hP hD hS hl
  have hx := C.1
  have hb := C.2.1
  have hown := C.2.2.2.2.1
  have hts := C.2.2.2.2.2.1
  have hE := C.2.2.2.2.2.2.2
  have hl : lv_has ls 3 [(0, .ref a0), (1, .int p1), (2, .int p2)] := hl
  refine lv_aload_n hx hb d_Side_tick_0 rfl (lv_at hl 0 rfl) ?_
  refine hk_get (v := .int u.1) C hP 0 0 0 i_Side rfl rfl (by decide) (hk_in (by decide +kernel) rfl) rfl d_Side_tick_1 ?_
  refine lv_if_ne (tgt := 8) hx hb d_Side_tick_4 (by decide) (fun c_1 => ?_) (fun c_1 => ?_)
  · skip
    refine lv_aload_n hx hb d_Side_tick_8 rfl (lv_at hl 0 rfl) ?_
    refine lv_dup hx hb d_Side_tick_9 rfl ?_
    refine hk_get (v := .int u.2.1) C hP 0 0 1 i_Side rfl rfl (by decide) (hk_in (by decide +kernel) rfl) rfl d_Side_tick_10 ?_
    refine lv_iconst (v := (1 : Int32)) hx hb d_Side_tick_13 (by decide) ?_
    refine lv_iadd hx hb d_Side_tick_14 ?_
    refine hk_put (w2 := wS a0 (f_Side_tick_15 u)) (v := .int (u.2.1 + (1 : Int32))) (ty := .int) C hP hD hS 0 0 1 i_Side t_Side_ok n_Side rfl rfl (by decide) (hk_in (by decide +kernel) rfl) rfl (by decide +kernel) rfl rfl (Nat.le_of_ble_eq_true rfl) rfl d_Side_tick_15 (fun H locs hP hD hS => ?_)
    obtain ⟨U1, hU1⟩ : ∃ z, (f_Side_tick_15 u) = z := ⟨_, rfl⟩
    rw [hU1] at hP hD
    refine lv_aload_n hx hb d_Side_tick_18 rfl (lv_at hl 0 rfl) ?_
    refine hk_get (v := .int U1.2.1) C hP 0 0 1 i_Side rfl rfl (by decide) (hk_in (by decide +kernel) rfl) rfl d_Side_tick_19 ?_
    refine lv_iload_n hx hb d_Side_tick_22 rfl (lv_at hl 1 rfl) ?_
    refine hk_goIe (hk_kS (k := 1) (As := [.int p1]) (rest := [.int U1.2.1]) C (c_Side_period l G p1 _) Y_Side_period (hk_in (by decide +kernel) rfl) rfl rfl ⟨Nat.le_of_ble_eq_true rfl, Nat.le_of_ble_eq_true rfl⟩ hk_Pn (hk_Dn (A := A)) rfl hl.1 rfl (Nat.le_of_ble_eq_true rfl) d_Side_tick_23 ⟨Nat.zero_le _, Nat.zero_le _⟩) hP hS hA (fun H locs hP hS => ?_)
    refine lv_icmp_lt (tgt := 65) hx hb d_Side_tick_26 (by decide) (fun c_2 => ?_) (fun c_2 => ?_)
    · skip
      subst hU1
      have e : m_Side_tick p1 p2 u = (f_Side_tick_15 u) := (if_neg c_1).trans ((if_pos c_2).trans (rfl))
      exact hk_rv C hAe hP hD hS (by rw [e]) d_Side_tick_65
    · skip
      refine lv_aload_n hx hb d_Side_tick_29 rfl (lv_at hl 0 rfl) ?_
      refine lv_iconst (v := (0 : Int32)) hx hb d_Side_tick_30 (by decide) ?_
      refine hk_put (w2 := wS a0 (f_Side_tick_31 U1)) (v := .int (0 : Int32)) (ty := .int) C hP hD hS 0 0 1 i_Side t_Side_ok n_Side rfl rfl (by decide) (hk_in (by decide +kernel) rfl) rfl (by decide +kernel) rfl rfl (Nat.le_of_ble_eq_true rfl) rfl d_Side_tick_31 (fun H locs hP hD hS => ?_)
      obtain ⟨U2, hU2⟩ : ∃ z, (f_Side_tick_31 U1) = z := ⟨_, rfl⟩
      rw [hU2] at hP hD
      refine lv_aload_n hx hb d_Side_tick_34 rfl (lv_at hl 0 rfl) ?_
      refine lv_dup hx hb d_Side_tick_35 rfl ?_
      refine hk_get (v := .int U2.2.2) C hP 0 0 2 i_Side rfl rfl (by decide) (hk_in (by decide +kernel) rfl) rfl d_Side_tick_36 ?_
      refine lv_iconst (v := (1 : Int32)) hx hb d_Side_tick_39 (by decide) ?_
      refine lv_iadd hx hb d_Side_tick_40 ?_
      refine hk_put (w2 := wS a0 (f_Side_tick_41 U2)) (v := .int (U2.2.2 + (1 : Int32))) (ty := .int) C hP hD hS 0 0 2 i_Side t_Side_ok n_Side rfl rfl (by decide) (hk_in (by decide +kernel) rfl) rfl (by decide +kernel) rfl rfl (Nat.le_of_ble_eq_true rfl) rfl d_Side_tick_41 (fun H locs hP hD hS => ?_)
      obtain ⟨U3, hU3⟩ : ∃ z, (f_Side_tick_41 U2) = z := ⟨_, rfl⟩
      rw [hU3] at hP hD
      refine lv_aload_n hx hb d_Side_tick_44 rfl (lv_at hl 0 rfl) ?_
      refine lv_iload_n hx hb d_Side_tick_45 rfl (lv_at hl 2 rfl) ?_
      refine lv_if_ne (tgt := 57) hx hb d_Side_tick_46 (by decide) (fun c_3 => ?_) (fun c_3 => ?_)
      · skip
        refine lv_iconst (v := (1 : Int32)) hx hb d_Side_tick_57 (by decide) ?_
        refine lv_goto (tgt := 62) hx hb d_Side_tick_58 (by decide) ?_
        refine hk_put (w2 := wS a0 (f_Side_tick_62_1 U3)) (v := .int (1 : Int32)) (ty := .boolean) C hP hD hS 0 0 0 i_Side t_Side_ok n_Side rfl rfl (by decide) (hk_in (by decide +kernel) rfl) rfl (by decide +kernel) (hk_nb (Or.inr rfl)) (hk_fb (Or.inr rfl)) (Nat.le_of_ble_eq_true rfl) rfl d_Side_tick_62 (fun H locs hP hD hS => ?_)
        obtain ⟨U4, hU4⟩ : ∃ z, (f_Side_tick_62_1 U3) = z := ⟨_, rfl⟩
        rw [hU4] at hP hD
        subst hU1 hU2 hU3 hU4
        have e : m_Side_tick p1 p2 u = (f_Side_tick_62_1 (f_Side_tick_41 (f_Side_tick_31 (f_Side_tick_15 u)))) := (if_neg c_1).trans ((if_neg c_2).trans ((if_neg c_3).trans (rfl)))
        exact hk_rv C hAe hP hD hS (by rw [e]) d_Side_tick_65
      · skip
        refine lv_aload_n hx hb d_Side_tick_49 rfl (lv_at hl 0 rfl) ?_
        refine hk_get (v := .int U3.2.2) C hP 0 0 2 i_Side rfl rfl (by decide) (hk_in (by decide +kernel) rfl) rfl d_Side_tick_50 ?_
        refine lv_iconst (v := (3 : Int32)) hx hb d_Side_tick_53 (by decide) ?_
        refine lv_icmp_ge (tgt := 61) hx hb d_Side_tick_54 (by decide) (fun c_4 => ?_) (fun c_4 => ?_)
        · skip
          refine lv_iconst (v := (0 : Int32)) hx hb d_Side_tick_61 (by decide) ?_
          refine hk_put (w2 := wS a0 (f_Side_tick_62 U3)) (v := .int (0 : Int32)) (ty := .boolean) C hP hD hS 0 0 0 i_Side t_Side_ok n_Side rfl rfl (by decide) (hk_in (by decide +kernel) rfl) rfl (by decide +kernel) (hk_nb (Or.inl rfl)) (hk_fb (Or.inl rfl)) (Nat.le_of_ble_eq_true rfl) rfl d_Side_tick_62 (fun H locs hP hD hS => ?_)
          obtain ⟨U5, hU5⟩ : ∃ z, (f_Side_tick_62 U3) = z := ⟨_, rfl⟩
          rw [hU5] at hP hD
          subst hU1 hU2 hU3 hU5
          have e : m_Side_tick p1 p2 u = (f_Side_tick_62 (f_Side_tick_41 (f_Side_tick_31 (f_Side_tick_15 u)))) := (if_neg c_1).trans ((if_neg c_2).trans ((if_pos c_3).trans ((if_pos c_4).trans (rfl))))
          exact hk_rv C hAe hP hD hS (by rw [e]) d_Side_tick_65
        · skip
          refine lv_iconst (v := (1 : Int32)) hx hb d_Side_tick_57 (by decide) ?_
          refine lv_goto (tgt := 62) hx hb d_Side_tick_58 (by decide) ?_
          refine hk_put (w2 := wS a0 (f_Side_tick_62_1 U3)) (v := .int (1 : Int32)) (ty := .boolean) C hP hD hS 0 0 0 i_Side t_Side_ok n_Side rfl rfl (by decide) (hk_in (by decide +kernel) rfl) rfl (by decide +kernel) (hk_nb (Or.inr rfl)) (hk_fb (Or.inr rfl)) (Nat.le_of_ble_eq_true rfl) rfl d_Side_tick_62 (fun H locs hP hD hS => ?_)
          obtain ⟨U6, hU6⟩ : ∃ z, (f_Side_tick_62_1 U3) = z := ⟨_, rfl⟩
          rw [hU6] at hP hD
          subst hU1 hU2 hU3 hU6
          have e : m_Side_tick p1 p2 u = (f_Side_tick_62_1 (f_Side_tick_41 (f_Side_tick_31 (f_Side_tick_15 u)))) := (if_neg c_1).trans ((if_neg c_2).trans ((if_pos c_3).trans ((if_neg c_4).trans (rfl))))
          exact hk_rv C hAe hP hD hS (by rw [e]) d_Side_tick_65
  · skip
    have e : m_Side_tick p1 p2 u = u := (if_pos c_1).trans (rfl)
    exact hk_rv C hAe hP hD hS (by rw [e]) d_Side_tick_7
theorem Y_Side_isBright : hk_Y y_Side_isBright b_Side_isBright 2 (some .boolean) 1 := ⟨hk_in (by decide +kernel) rfl, hk_in (by decide +kernel) rfl, hk_in (by decide +kernel) rfl, hk_in (List.mem_of_getElem? (i := 246) rfl) rfl, by decide, by decide, by decide +kernel⟩
abbrev rm_Side_isBright : Room := { frames := 1, cells := 0, slots := 0, locals := 20 }
set_option maxHeartbeats 4000000 in
set_option maxRecDepth 100000 in
theorem c_Side_isBright (l : Launch) (G : hk_G) (a0 : Nat) (u : cS) (p1 : Int32) : hk_I l G y_Side_isBright b_Side_isBright 2 (some .boolean) rm_Side_isBright [.ref a0, .int p1] (wS a0 u) (m_Side_isBright p1 u) (wS a0 u) := by
  refine hk_I_of (by decide) (Nat.le_of_ble_eq_true rfl) ?_
  intro p e s m below meth c A ls C hAe hA hP hD hS hl
  have hx := C.1
  have hb := C.2.1
  have hown := C.2.2.2.2.1
  have hts := C.2.2.2.2.2.1
  have hE := C.2.2.2.2.2.2.2
  have hl : lv_has ls 2 [(0, .ref a0), (1, .int p1)] := hl
  refine lv_aload_n hx hb d_Side_isBright_0 rfl (lv_at hl 0 rfl) ?_
  refine hk_get (v := .int u.1) C hP 0 0 0 i_Side rfl rfl (by decide) (hk_in (by decide +kernel) rfl) rfl d_Side_isBright_1 ?_
  refine lv_if_eq (tgt := 24) hx hb d_Side_isBright_4 (by decide) (fun c_1 => ?_) (fun c_1 => ?_)
  · skip
    refine lv_iconst (v := (0 : Int32)) hx hb d_Side_isBright_24 (by decide) ?_
    have e : m_Side_isBright p1 u = (0 : Int32) := (if_pos c_1).trans (rfl)
    exact hk_rz C hAe hP hD hS (Or.inl rfl) e.symm rfl d_Side_isBright_25
  · skip
    refine lv_aload_n hx hb d_Side_isBright_7 rfl (lv_at hl 0 rfl) ?_
    refine hk_get (v := .int u.2.1) C hP 0 0 1 i_Side rfl rfl (by decide) (hk_in (by decide +kernel) rfl) rfl d_Side_isBright_8 ?_
    refine lv_iload_n hx hb d_Side_isBright_11 rfl (lv_at hl 1 rfl) ?_
    refine hk_goIe (hk_kS (k := 1) (As := [.int p1]) (rest := [.int u.2.1]) C (c_Side_period l G p1 _) Y_Side_period (hk_in (by decide +kernel) rfl) rfl rfl ⟨Nat.le_of_ble_eq_true rfl, Nat.le_of_ble_eq_true rfl⟩ hk_Pn (hk_Dn (A := A)) rfl hl.1 rfl (Nat.le_of_ble_eq_true rfl) d_Side_isBright_12 ⟨Nat.zero_le _, Nat.zero_le _⟩) hP hS hA (fun H locs hP hS => ?_)
    refine lv_iconst (v := (2 : Int32)) hx hb d_Side_isBright_15 (by decide) ?_
    refine lv_idiv hx hb d_Side_isBright_16 (by decide) ?_
    refine lv_icmp_ge (tgt := 24) hx hb d_Side_isBright_17 (by decide) (fun c_2 => ?_) (fun c_2 => ?_)
    · skip
      refine lv_iconst (v := (0 : Int32)) hx hb d_Side_isBright_24 (by decide) ?_
      have e : m_Side_isBright p1 u = (0 : Int32) := (if_neg c_1).trans ((if_pos c_2).trans (rfl))
      exact hk_rz C hAe hP hD hS (Or.inl rfl) e.symm rfl d_Side_isBright_25
    · skip
      refine lv_iconst (v := (1 : Int32)) hx hb d_Side_isBright_20 (by decide) ?_
      refine lv_goto (tgt := 25) hx hb d_Side_isBright_21 (by decide) ?_
      have e : m_Side_isBright p1 u = (1 : Int32) := (if_neg c_1).trans ((if_neg c_2).trans (rfl))
      exact hk_rz C hAe hP hD hS (Or.inr rfl) e.symm rfl d_Side_isBright_25
theorem Y_Wiper_staysParked : hk_Y y_Wiper_staysParked b_Wiper_staysParked 2 (some .boolean) 1 := ⟨hk_in (by decide +kernel) rfl, hk_in (by decide +kernel) rfl, hk_in (by decide +kernel) rfl, hk_in (List.mem_of_getElem? (i := 305) rfl) rfl, by decide, by decide, by decide +kernel⟩
abbrev rm_Wiper_staysParked : Room := { frames := 0, cells := 0, slots := 0, locals := 0 }
set_option maxHeartbeats 4000000 in
set_option maxRecDepth 100000 in
theorem c_Wiper_staysParked (l : Launch) (G : hk_G) (a0 : Nat) (u : cS) (p1 : Int32) : hk_I l G y_Wiper_staysParked b_Wiper_staysParked 2 (some .boolean) rm_Wiper_staysParked [.ref a0, .int p1] (wP a0 u) ((m_Wiper_staysParked p1 u).1) (wP a0 ((m_Wiper_staysParked p1 u).2)) := by
  refine hk_I_of (by decide) (Nat.le_of_ble_eq_true rfl) ?_
  intro p e s m below meth c A ls C hAe hA hP hD hS hl
  have hx := C.1
  have hb := C.2.1
  have hown := C.2.2.2.2.1
  have hts := C.2.2.2.2.2.1
  have hE := C.2.2.2.2.2.2.2
  have hl : lv_has ls 2 [(0, .ref a0), (1, .int p1)] := hl
  refine lv_iload_n hx hb d_Wiper_staysParked_0 rfl (lv_at hl 1 rfl) ?_
  refine lv_if_ne (tgt := 11) hx hb d_Wiper_staysParked_1 (by decide) (fun c_1 => ?_) (fun c_1 => ?_)
  · skip
    refine lv_aload_n hx hb d_Wiper_staysParked_11 rfl (lv_at hl 0 rfl) ?_
    refine hk_get (v := .int u.2.1) C hP 0 1 1 i_Wiper rfl rfl (by decide) (hk_in (by decide +kernel) rfl) rfl d_Wiper_staysParked_12 ?_
    refine lv_if_le (tgt := 30) hx hb d_Wiper_staysParked_15 (by decide) (fun c_2 => ?_) (fun c_2 => ?_)
    · skip
      refine lv_iconst (v := (0 : Int32)) hx hb d_Wiper_staysParked_30 (by decide) ?_
      have e : m_Wiper_staysParked p1 u = ((0 : Int32), u) := (if_neg c_1).trans ((if_pos c_2).trans (rfl))
      exact hk_rz C hAe hP hD hS (Or.inl rfl) (by rw [e]) (by rw [e]) d_Wiper_staysParked_31
    · skip
      refine lv_aload_n hx hb d_Wiper_staysParked_18 rfl (lv_at hl 0 rfl) ?_
      refine lv_dup hx hb d_Wiper_staysParked_19 rfl ?_
      refine hk_get (v := .int u.2.1) C hP 0 1 1 i_Wiper rfl rfl (by decide) (hk_in (by decide +kernel) rfl) rfl d_Wiper_staysParked_20 ?_
      refine lv_iconst (v := (1 : Int32)) hx hb d_Wiper_staysParked_23 (by decide) ?_
      refine lv_isub hx hb d_Wiper_staysParked_24 ?_
      refine hk_put (w2 := wP a0 (f_Wiper_staysParked_25 u)) (v := .int (u.2.1 - (1 : Int32))) (ty := .int) C hP hD hS 0 1 1 i_Wiper t_Wiper_ok n_Wiper rfl rfl (by decide) (hk_in (by decide +kernel) rfl) rfl (by decide +kernel) rfl rfl (Nat.le_of_ble_eq_true rfl) rfl d_Wiper_staysParked_25 (fun H locs hP hD hS => ?_)
      obtain ⟨U1, hU1⟩ : ∃ z, (f_Wiper_staysParked_25 u) = z := ⟨_, rfl⟩
      rw [hU1] at hP hD
      refine lv_iconst (v := (1 : Int32)) hx hb d_Wiper_staysParked_28 (by decide) ?_
      subst hU1
      have e : m_Wiper_staysParked p1 u = ((1 : Int32), (f_Wiper_staysParked_25 u)) := (if_neg c_1).trans ((if_neg c_2).trans (rfl))
      exact hk_rz C hAe hP hD hS (Or.inr rfl) (by rw [e]) (by rw [e]) d_Wiper_staysParked_29
  · skip
    refine lv_aload_n hx hb d_Wiper_staysParked_4 rfl (lv_at hl 0 rfl) ?_
    refine lv_iconst (v := (0 : Int32)) hx hb d_Wiper_staysParked_5 (by decide) ?_
    refine hk_put (w2 := wP a0 (f_Wiper_staysParked_6 u)) (v := .int (0 : Int32)) (ty := .int) C hP hD hS 0 1 1 i_Wiper t_Wiper_ok n_Wiper rfl rfl (by decide) (hk_in (by decide +kernel) rfl) rfl (by decide +kernel) rfl rfl (Nat.le_of_ble_eq_true rfl) rfl d_Wiper_staysParked_6 (fun H locs hP hD hS => ?_)
    obtain ⟨U2, hU2⟩ : ∃ z, (f_Wiper_staysParked_6 u) = z := ⟨_, rfl⟩
    rw [hU2] at hP hD
    refine lv_iconst (v := (1 : Int32)) hx hb d_Wiper_staysParked_9 (by decide) ?_
    subst hU2
    have e : m_Wiper_staysParked p1 u = ((1 : Int32), (f_Wiper_staysParked_6 u)) := (if_pos c_1).trans (rfl)
    exact hk_rz C hAe hP hD hS (Or.inr rfl) (by rw [e]) (by rw [e]) d_Wiper_staysParked_10
theorem Y_Wiper_tick : hk_Y y_Wiper_tick b_Wiper_tick 3 none 2 := ⟨hk_in (by decide +kernel) rfl, hk_in (by decide +kernel) rfl, hk_in (by decide +kernel) rfl, hk_in (List.mem_of_getElem? (i := 301) rfl) rfl, by decide, by decide, by decide +kernel⟩
abbrev rm_Wiper_tick : Room := { frames := 1, cells := 0, slots := 0, locals := 21 }
set_option maxHeartbeats 4000000 in
set_option maxRecDepth 100000 in
theorem c_Wiper_tick (l : Launch) (G : hk_G) (a0 : Nat) (u : cS) (p1 : Int32) (p2 : Int32) : hk_V l G y_Wiper_tick b_Wiper_tick 3 rm_Wiper_tick [.ref a0, .int p1, .int p2] (wP a0 u) (wP a0 (m_Wiper_tick p1 p2 u)) := by
  refine hk_V_of (by decide) (Nat.le_of_ble_eq_true rfl) ?_
  intro p e s m below meth c A ls C hAe hA hP hD hS hl
  have hx := C.1
  have hb := C.2.1
  have hown := C.2.2.2.2.1
  have hts := C.2.2.2.2.2.1
  have hE := C.2.2.2.2.2.2.2
  have hl : lv_has ls 3 [(0, .ref a0), (1, .int p1), (2, .int p2)] := hl
  refine lv_aload_n hx hb d_Wiper_tick_0 rfl (lv_at hl 0 rfl) ?_
  refine lv_iconst (v := (0 : Int32)) hx hb d_Wiper_tick_1 (by decide) ?_
  refine hk_put (w2 := wP a0 (f_Wiper_tick_2 u)) (v := .int (0 : Int32)) (ty := .int) C hP hD hS 0 1 2 i_Wiper t_Wiper_ok n_Wiper rfl rfl (by decide) (hk_in (by decide +kernel) rfl) rfl (by decide +kernel) rfl rfl (Nat.le_of_ble_eq_true rfl) rfl d_Wiper_tick_2 (fun H locs hP hD hS => ?_)
  obtain ⟨U1, hU1⟩ : ∃ z, (f_Wiper_tick_2 u) = z := ⟨_, rfl⟩
  rw [hU1] at hP hD
  refine lv_aload_n hx hb d_Wiper_tick_5 rfl (lv_at hl 0 rfl) ?_
  refine hk_get (v := .int U1.1) C hP 0 1 0 i_Wiper rfl rfl (by decide) (hk_in (by decide +kernel) rfl) rfl d_Wiper_tick_6 ?_
  refine lv_if_ne (tgt := 21) hx hb d_Wiper_tick_9 (by decide) (fun c_1 => ?_) (fun c_1 => ?_)
  · skip
    refine lv_aload_n hx hb d_Wiper_tick_21 rfl (lv_at hl 0 rfl) ?_
    refine lv_iload_n hx hb d_Wiper_tick_22 rfl (lv_at hl 1 rfl) ?_
    refine lv_iconst (v := (1 : Int32)) hx hb d_Wiper_tick_23 (by decide) ?_
    refine hk_mmax C (hk_in (by decide +kernel) rfl) (Nat.le_of_ble_eq_true rfl) (Nat.le_of_ble_eq_true rfl) (Nat.zero_le _) (Nat.zero_le _) hl.1 d_Wiper_tick_24 ?_
    refine hk_put (w2 := wP a0 (f_Wiper_tick_27 p1 U1)) (v := .int (mx p1 (1 : Int32))) (ty := .int) C hP hD hS 0 1 2 i_Wiper t_Wiper_ok n_Wiper rfl rfl (by decide) (hk_in (by decide +kernel) rfl) rfl (by decide +kernel) rfl rfl (Nat.le_of_ble_eq_true rfl) rfl d_Wiper_tick_27 (fun H locs hP hD hS => ?_)
    obtain ⟨U2, hU2⟩ : ∃ z, (f_Wiper_tick_27 p1 U1) = z := ⟨_, rfl⟩
    rw [hU2] at hP hD
    refine lv_aload_n hx hb d_Wiper_tick_30 rfl (lv_at hl 0 rfl) ?_
    refine lv_dup hx hb d_Wiper_tick_31 rfl ?_
    refine hk_get (v := .int U2.1) C hP 0 1 0 i_Wiper rfl rfl (by decide) (hk_in (by decide +kernel) rfl) rfl d_Wiper_tick_32 ?_
    refine lv_aload_n hx hb d_Wiper_tick_35 rfl (lv_at hl 0 rfl) ?_
    refine hk_get (v := .int U2.2.2) C hP 0 1 2 i_Wiper rfl rfl (by decide) (hk_in (by decide +kernel) rfl) rfl d_Wiper_tick_36 ?_
    refine lv_iadd hx hb d_Wiper_tick_39 ?_
    refine hk_put (w2 := wP a0 (f_Wiper_tick_40 U2)) (v := .int (U2.1 + U2.2.2)) (ty := .int) C hP hD hS 0 1 0 i_Wiper t_Wiper_ok n_Wiper rfl rfl (by decide) (hk_in (by decide +kernel) rfl) rfl (by decide +kernel) rfl rfl (Nat.le_of_ble_eq_true rfl) rfl d_Wiper_tick_40 (fun H locs hP hD hS => ?_)
    obtain ⟨U3, hU3⟩ : ∃ z, (f_Wiper_tick_40 U2) = z := ⟨_, rfl⟩
    rw [hU3] at hP hD
    refine lv_aload_n hx hb d_Wiper_tick_43 rfl (lv_at hl 0 rfl) ?_
    refine hk_get (v := .int U3.1) C hP 0 1 0 i_Wiper rfl rfl (by decide) (hk_in (by decide +kernel) rfl) rfl d_Wiper_tick_44 ?_
    refine lv_bipush (v := (100 : Int32)) hx hb d_Wiper_tick_47 (by decide) ?_
    refine lv_icmp_lt (tgt := 62) hx hb d_Wiper_tick_49 (by decide) (fun c_2 => ?_) (fun c_2 => ?_)
    · skip
      subst hU1 hU2 hU3
      have e : m_Wiper_tick p1 p2 u = (f_Wiper_tick_40 (f_Wiper_tick_27 p1 (f_Wiper_tick_2 u))) := (if_neg c_1).trans ((if_pos c_2).trans (rfl))
      exact hk_rv C hAe hP hD hS (by rw [e]) d_Wiper_tick_62
    · skip
      refine lv_aload_n hx hb d_Wiper_tick_52 rfl (lv_at hl 0 rfl) ?_
      refine lv_iconst (v := (0 : Int32)) hx hb d_Wiper_tick_53 (by decide) ?_
      refine hk_put (w2 := wP a0 (f_Wiper_tick_54 U3)) (v := .int (0 : Int32)) (ty := .int) C hP hD hS 0 1 0 i_Wiper t_Wiper_ok n_Wiper rfl rfl (by decide) (hk_in (by decide +kernel) rfl) rfl (by decide +kernel) rfl rfl (Nat.le_of_ble_eq_true rfl) rfl d_Wiper_tick_54 (fun H locs hP hD hS => ?_)
      obtain ⟨U4, hU4⟩ : ∃ z, (f_Wiper_tick_54 U3) = z := ⟨_, rfl⟩
      rw [hU4] at hP hD
      refine lv_aload_n hx hb d_Wiper_tick_57 rfl (lv_at hl 0 rfl) ?_
      refine lv_iload_n hx hb d_Wiper_tick_58 rfl (lv_at hl 2 rfl) ?_
      refine hk_put (w2 := wP a0 (f_Wiper_tick_59 p2 U4)) (v := .int p2) (ty := .int) C hP hD hS 0 1 1 i_Wiper t_Wiper_ok n_Wiper rfl rfl (by decide) (hk_in (by decide +kernel) rfl) rfl (by decide +kernel) rfl rfl (Nat.le_of_ble_eq_true rfl) rfl d_Wiper_tick_59 (fun H locs hP hD hS => ?_)
      obtain ⟨U5, hU5⟩ : ∃ z, (f_Wiper_tick_59 p2 U4) = z := ⟨_, rfl⟩
      rw [hU5] at hP hD
      subst hU1 hU2 hU3 hU4 hU5
      have e : m_Wiper_tick p1 p2 u = (f_Wiper_tick_59 p2 (f_Wiper_tick_54 (f_Wiper_tick_40 (f_Wiper_tick_27 p1 (f_Wiper_tick_2 u))))) := (if_neg c_1).trans ((if_neg c_2).trans (rfl))
      exact hk_rv C hAe hP hD hS (by rw [e]) d_Wiper_tick_62
  · skip
    refine lv_aload_n hx hb d_Wiper_tick_12 rfl (lv_at hl 0 rfl) ?_
    refine lv_iload_n hx hb d_Wiper_tick_13 rfl (lv_at hl 1 rfl) ?_
    refine hk_goI (hk_kV (k := 1) (As := [.int p1]) (rest := []) C (c_Wiper_staysParked l G a0 U1 p1 _) Y_Wiper_staysParked (hk_in (by decide +kernel) rfl) rfl rfl ⟨Nat.le_of_ble_eq_true rfl, Nat.le_of_ble_eq_true rfl⟩ (va_recv hE.1 hP (ci := 1) (q0 := 0) rfl rfl) hP hD rfl hl.1 rfl (Nat.le_of_ble_eq_true rfl) d_Wiper_tick_14 ⟨Nat.zero_le _, Nat.zero_le _⟩) hD hS hA (fun H locs hP hD hS => ?_)
    obtain ⟨U6, hU6⟩ : ∃ z, (m_Wiper_staysParked p1 U1).2 = z := ⟨_, rfl⟩
    rw [hU6] at hP hD
    refine lv_if_eq (tgt := 21) hx hb d_Wiper_tick_17 (by decide) (fun c_3 => ?_) (fun c_3 => ?_)
    · skip
      refine lv_aload_n hx hb d_Wiper_tick_21 rfl (lv_at hl 0 rfl) ?_
      refine lv_iload_n hx hb d_Wiper_tick_22 rfl (lv_at hl 1 rfl) ?_
      refine lv_iconst (v := (1 : Int32)) hx hb d_Wiper_tick_23 (by decide) ?_
      refine hk_mmax C (hk_in (by decide +kernel) rfl) (Nat.le_of_ble_eq_true rfl) (Nat.le_of_ble_eq_true rfl) (Nat.zero_le _) (Nat.zero_le _) hl.1 d_Wiper_tick_24 ?_
      refine hk_put (w2 := wP a0 (f_Wiper_tick_27 p1 U6)) (v := .int (mx p1 (1 : Int32))) (ty := .int) C hP hD hS 0 1 2 i_Wiper t_Wiper_ok n_Wiper rfl rfl (by decide) (hk_in (by decide +kernel) rfl) rfl (by decide +kernel) rfl rfl (Nat.le_of_ble_eq_true rfl) rfl d_Wiper_tick_27 (fun H locs hP hD hS => ?_)
      obtain ⟨U7, hU7⟩ : ∃ z, (f_Wiper_tick_27 p1 U6) = z := ⟨_, rfl⟩
      rw [hU7] at hP hD
      refine lv_aload_n hx hb d_Wiper_tick_30 rfl (lv_at hl 0 rfl) ?_
      refine lv_dup hx hb d_Wiper_tick_31 rfl ?_
      refine hk_get (v := .int U7.1) C hP 0 1 0 i_Wiper rfl rfl (by decide) (hk_in (by decide +kernel) rfl) rfl d_Wiper_tick_32 ?_
      refine lv_aload_n hx hb d_Wiper_tick_35 rfl (lv_at hl 0 rfl) ?_
      refine hk_get (v := .int U7.2.2) C hP 0 1 2 i_Wiper rfl rfl (by decide) (hk_in (by decide +kernel) rfl) rfl d_Wiper_tick_36 ?_
      refine lv_iadd hx hb d_Wiper_tick_39 ?_
      refine hk_put (w2 := wP a0 (f_Wiper_tick_40 U7)) (v := .int (U7.1 + U7.2.2)) (ty := .int) C hP hD hS 0 1 0 i_Wiper t_Wiper_ok n_Wiper rfl rfl (by decide) (hk_in (by decide +kernel) rfl) rfl (by decide +kernel) rfl rfl (Nat.le_of_ble_eq_true rfl) rfl d_Wiper_tick_40 (fun H locs hP hD hS => ?_)
      obtain ⟨U8, hU8⟩ : ∃ z, (f_Wiper_tick_40 U7) = z := ⟨_, rfl⟩
      rw [hU8] at hP hD
      refine lv_aload_n hx hb d_Wiper_tick_43 rfl (lv_at hl 0 rfl) ?_
      refine hk_get (v := .int U8.1) C hP 0 1 0 i_Wiper rfl rfl (by decide) (hk_in (by decide +kernel) rfl) rfl d_Wiper_tick_44 ?_
      refine lv_bipush (v := (100 : Int32)) hx hb d_Wiper_tick_47 (by decide) ?_
      refine lv_icmp_lt (tgt := 62) hx hb d_Wiper_tick_49 (by decide) (fun c_4 => ?_) (fun c_4 => ?_)
      · skip
        subst hU1 hU6 hU7 hU8
        have e : m_Wiper_tick p1 p2 u = (f_Wiper_tick_40 (f_Wiper_tick_27 p1 (m_Wiper_staysParked p1 (f_Wiper_tick_2 u)).2)) := (if_pos c_1).trans ((if_pos c_3).trans ((if_pos c_4).trans (rfl)))
        exact hk_rv C hAe hP hD hS (by rw [e]) d_Wiper_tick_62
      · skip
        refine lv_aload_n hx hb d_Wiper_tick_52 rfl (lv_at hl 0 rfl) ?_
        refine lv_iconst (v := (0 : Int32)) hx hb d_Wiper_tick_53 (by decide) ?_
        refine hk_put (w2 := wP a0 (f_Wiper_tick_54 U8)) (v := .int (0 : Int32)) (ty := .int) C hP hD hS 0 1 0 i_Wiper t_Wiper_ok n_Wiper rfl rfl (by decide) (hk_in (by decide +kernel) rfl) rfl (by decide +kernel) rfl rfl (Nat.le_of_ble_eq_true rfl) rfl d_Wiper_tick_54 (fun H locs hP hD hS => ?_)
        obtain ⟨U9, hU9⟩ : ∃ z, (f_Wiper_tick_54 U8) = z := ⟨_, rfl⟩
        rw [hU9] at hP hD
        refine lv_aload_n hx hb d_Wiper_tick_57 rfl (lv_at hl 0 rfl) ?_
        refine lv_iload_n hx hb d_Wiper_tick_58 rfl (lv_at hl 2 rfl) ?_
        refine hk_put (w2 := wP a0 (f_Wiper_tick_59 p2 U9)) (v := .int p2) (ty := .int) C hP hD hS 0 1 1 i_Wiper t_Wiper_ok n_Wiper rfl rfl (by decide) (hk_in (by decide +kernel) rfl) rfl (by decide +kernel) rfl rfl (Nat.le_of_ble_eq_true rfl) rfl d_Wiper_tick_59 (fun H locs hP hD hS => ?_)
        obtain ⟨U10, hU10⟩ : ∃ z, (f_Wiper_tick_59 p2 U9) = z := ⟨_, rfl⟩
        rw [hU10] at hP hD
        subst hU1 hU6 hU7 hU8 hU9 hU10
        have e : m_Wiper_tick p1 p2 u = (f_Wiper_tick_59 p2 (f_Wiper_tick_54 (f_Wiper_tick_40 (f_Wiper_tick_27 p1 (m_Wiper_staysParked p1 (f_Wiper_tick_2 u)).2)))) := (if_pos c_1).trans ((if_pos c_3).trans ((if_neg c_4).trans (rfl)))
        exact hk_rv C hAe hP hD hS (by rw [e]) d_Wiper_tick_62
    · skip
      subst hU1 hU6
      have e : m_Wiper_tick p1 p2 u = (m_Wiper_staysParked p1 (f_Wiper_tick_2 u)).2 := (if_pos c_1).trans ((if_neg c_3).trans (rfl))
      exact hk_rv C hAe hP hD hS (by rw [e]) d_Wiper_tick_20
theorem Y_Window_speed : hk_Y y_Window_speed b_Window_speed 1 (some .int) 0 := ⟨hk_in (by decide +kernel) rfl, hk_in (by decide +kernel) rfl, hk_in (by decide +kernel) rfl, hk_in (List.mem_of_getElem? (i := 324) rfl) rfl, by decide, by decide, by decide +kernel⟩
abbrev rm_Window_speed : Room := { frames := 0, cells := 0, slots := 0, locals := 0 }
set_option maxHeartbeats 4000000 in
set_option maxRecDepth 100000 in
theorem c_Window_speed (l : Launch) (G : hk_G) (a0 : Nat) (u : cS) : hk_I l G y_Window_speed b_Window_speed 1 (some .int) rm_Window_speed [.ref a0] (wN a0 u) (m_Window_speed u) (wN a0 u) := by
  refine hk_I_of (by decide) (Nat.le_of_ble_eq_true rfl) ?_
  intro p e s m below meth c A ls C hAe hA hP hD hS hl
  have hx := C.1
  have hb := C.2.1
  have hown := C.2.2.2.2.1
  have hts := C.2.2.2.2.2.1
  have hE := C.2.2.2.2.2.2.2
  have hl : lv_has ls 1 [(0, .ref a0)] := hl
  refine lv_aload_n hx hb d_Window_speed_0 rfl (lv_at hl 0 rfl) ?_
  refine hk_get (v := .int u.2.2) C hP 0 2 2 i_Window rfl rfl (by decide) (hk_in (by decide +kernel) rfl) rfl d_Window_speed_1 ?_
  refine lv_if_eq (tgt := 11) hx hb d_Window_speed_4 (by decide) (fun c_1 => ?_) (fun c_1 => ?_)
  · skip
    refine lv_iconst (v := (1 : Int32)) hx hb d_Window_speed_11 (by decide) ?_
    have e : m_Window_speed u = (1 : Int32) := (if_pos c_1).trans (rfl)
    exact hk_ri C hAe hP hD hS e.symm rfl d_Window_speed_12
  · skip
    refine lv_iconst (v := (2 : Int32)) hx hb d_Window_speed_7 (by decide) ?_
    refine lv_goto (tgt := 12) hx hb d_Window_speed_8 (by decide) ?_
    have e : m_Window_speed u = (2 : Int32) := (if_neg c_1).trans (rfl)
    exact hk_ri C hAe hP hD hS e.symm rfl d_Window_speed_12
theorem Y_Window_tick : hk_Y y_Window_tick b_Window_tick 1 none 0 := ⟨hk_in (by decide +kernel) rfl, hk_in (by decide +kernel) rfl, hk_in (by decide +kernel) rfl, hk_in (List.mem_of_getElem? (i := 320) rfl) rfl, by decide, by decide, by decide +kernel⟩
abbrev rm_Window_tick : Room := { frames := 1, cells := 0, slots := 0, locals := 21 }
set_option maxHeartbeats 4000000 in
set_option maxRecDepth 100000 in
theorem c_Window_tick (l : Launch) (G : hk_G) (a0 : Nat) (u : cS) : hk_V l G y_Window_tick b_Window_tick 1 rm_Window_tick [.ref a0] (wN a0 u) (wN a0 (m_Window_tick u)) := by
  refine hk_V_of (by decide) (Nat.le_of_ble_eq_true rfl) ?_
  intro p e s m below meth c A ls C hAe hA hP hD hS hl
  have hx := C.1
  have hb := C.2.1
  have hown := C.2.2.2.2.1
  have hts := C.2.2.2.2.2.1
  have hE := C.2.2.2.2.2.2.2
  have hl : lv_has ls 1 [(0, .ref a0)] := hl
  refine lv_aload_n hx hb d_Window_tick_0 rfl (lv_at hl 0 rfl) ?_
  refine hk_get (v := .int u.1) C hP 0 2 0 i_Window rfl rfl (by decide) (hk_in (by decide +kernel) rfl) rfl d_Window_tick_1 ?_
  refine lv_aload_n hx hb d_Window_tick_4 rfl (lv_at hl 0 rfl) ?_
  refine hk_get (v := .int u.2.1) C hP 0 2 1 i_Window rfl rfl (by decide) (hk_in (by decide +kernel) rfl) rfl d_Window_tick_5 ?_
  refine lv_icmp_ge (tgt := 34) hx hb d_Window_tick_8 (by decide) (fun c_1 => ?_) (fun c_1 => ?_)
  · skip
    refine lv_aload_n hx hb d_Window_tick_34 rfl (lv_at hl 0 rfl) ?_
    refine lv_aload_n hx hb d_Window_tick_35 rfl (lv_at hl 0 rfl) ?_
    refine hk_get (v := .int u.1) C hP 0 2 0 i_Window rfl rfl (by decide) (hk_in (by decide +kernel) rfl) rfl d_Window_tick_36 ?_
    refine lv_aload_n hx hb d_Window_tick_39 rfl (lv_at hl 0 rfl) ?_
    refine hk_goI (hk_kV (k := 0) (As := []) (rest := [.int u.1, .ref a0]) C (c_Window_speed l G a0 u _) Y_Window_speed (hk_in (by decide +kernel) rfl) rfl rfl ⟨Nat.le_of_ble_eq_true rfl, Nat.le_of_ble_eq_true rfl⟩ (va_recv hE.1 hP (ci := 2) (q0 := 0) rfl rfl) hP hD rfl hl.1 rfl (Nat.le_of_ble_eq_true rfl) d_Window_tick_40 ⟨Nat.zero_le _, Nat.zero_le _⟩) hD hS hA (fun H locs hP hD hS => ?_)
    refine lv_isub hx hb d_Window_tick_43 ?_
    refine lv_aload_n hx hb d_Window_tick_44 rfl (lv_at hl 0 rfl) ?_
    refine hk_get (v := .int u.2.1) C hP 0 2 1 i_Window rfl rfl (by decide) (hk_in (by decide +kernel) rfl) rfl d_Window_tick_45 ?_
    refine hk_mmax C (hk_in (by decide +kernel) rfl) (Nat.le_of_ble_eq_true rfl) (Nat.le_of_ble_eq_true rfl) (Nat.zero_le _) (Nat.zero_le _) hl.1 d_Window_tick_48 ?_
    refine hk_put (w2 := wN a0 (f_Window_tick_51 u)) (v := .int (mx (u.1 - (m_Window_speed u)) u.2.1)) (ty := .int) C hP hD hS 0 2 0 i_Window t_Window_ok n_Window rfl rfl (by decide) (hk_in (by decide +kernel) rfl) rfl (by decide +kernel) rfl rfl (Nat.le_of_ble_eq_true rfl) rfl d_Window_tick_51 (fun H locs hP hD hS => ?_)
    obtain ⟨U1, hU1⟩ : ∃ z, (f_Window_tick_51 u) = z := ⟨_, rfl⟩
    rw [hU1] at hP hD
    subst hU1
    have e : m_Window_tick u = (f_Window_tick_51 u) := (if_pos c_1).trans (rfl)
    exact hk_rv C hAe hP hD hS (by rw [e]) d_Window_tick_54
  · skip
    refine lv_aload_n hx hb d_Window_tick_11 rfl (lv_at hl 0 rfl) ?_
    refine lv_aload_n hx hb d_Window_tick_12 rfl (lv_at hl 0 rfl) ?_
    refine hk_get (v := .int u.1) C hP 0 2 0 i_Window rfl rfl (by decide) (hk_in (by decide +kernel) rfl) rfl d_Window_tick_13 ?_
    refine lv_aload_n hx hb d_Window_tick_16 rfl (lv_at hl 0 rfl) ?_
    refine hk_goI (hk_kV (k := 0) (As := []) (rest := [.int u.1, .ref a0]) C (c_Window_speed l G a0 u _) Y_Window_speed (hk_in (by decide +kernel) rfl) rfl rfl ⟨Nat.le_of_ble_eq_true rfl, Nat.le_of_ble_eq_true rfl⟩ (va_recv hE.1 hP (ci := 2) (q0 := 0) rfl rfl) hP hD rfl hl.1 rfl (Nat.le_of_ble_eq_true rfl) d_Window_tick_17 ⟨Nat.zero_le _, Nat.zero_le _⟩) hD hS hA (fun H locs hP hD hS => ?_)
    refine lv_iadd hx hb d_Window_tick_20 ?_
    refine lv_aload_n hx hb d_Window_tick_21 rfl (lv_at hl 0 rfl) ?_
    refine hk_get (v := .int u.2.1) C hP 0 2 1 i_Window rfl rfl (by decide) (hk_in (by decide +kernel) rfl) rfl d_Window_tick_22 ?_
    refine hk_mmin C (hk_in (by decide +kernel) rfl) (Nat.le_of_ble_eq_true rfl) (Nat.le_of_ble_eq_true rfl) (Nat.zero_le _) (Nat.zero_le _) hl.1 d_Window_tick_25 ?_
    refine hk_put (w2 := wN a0 (f_Window_tick_28 u)) (v := .int (mn (u.1 + (m_Window_speed u)) u.2.1)) (ty := .int) C hP hD hS 0 2 0 i_Window t_Window_ok n_Window rfl rfl (by decide) (hk_in (by decide +kernel) rfl) rfl (by decide +kernel) rfl rfl (Nat.le_of_ble_eq_true rfl) rfl d_Window_tick_28 (fun H locs hP hD hS => ?_)
    obtain ⟨U2, hU2⟩ : ∃ z, (f_Window_tick_28 u) = z := ⟨_, rfl⟩
    rw [hU2] at hP hD
    refine lv_goto (tgt := 54) hx hb d_Window_tick_31 (by decide) ?_
    subst hU2
    have e : m_Window_tick u = (f_Window_tick_28 u) := (if_neg c_1).trans (rfl)
    exact hk_rv C hAe hP hD hS (by rw [e]) d_Window_tick_54
theorem Y_Window_ticksToWish : hk_Y y_Window_ticksToWish b_Window_ticksToWish 2 (some .int) 0 := ⟨hk_in (by decide +kernel) rfl, hk_in (by decide +kernel) rfl, hk_in (by decide +kernel) rfl, hk_in (List.mem_of_getElem? (i := 405) rfl) rfl, by decide, by decide, by decide +kernel⟩
abbrev rm_Window_ticksToWish : Room := { frames := 1, cells := 0, slots := 0, locals := 21 }
set_option maxHeartbeats 4000000 in
set_option maxRecDepth 100000 in
theorem c_Window_ticksToWish (l : Launch) (G : hk_G) (a0 : Nat) (u : cS) : hk_I l G y_Window_ticksToWish b_Window_ticksToWish 2 (some .int) rm_Window_ticksToWish [.ref a0] (wN a0 u) (m_Window_ticksToWish u) (wN a0 u) := by
  refine hk_I_of (by decide) (Nat.le_of_ble_eq_true rfl) ?_
  intro p e s m below meth c A ls C hAe hA hP hD hS hl
  have hx := C.1
  have hb := C.2.1
  have hown := C.2.2.2.2.1
  have hts := C.2.2.2.2.2.1
  have hE := C.2.2.2.2.2.2.2
  have hl : lv_has ls 2 [(0, .ref a0)] := hl
  refine lv_aload_n hx hb d_Window_ticksToWish_0 rfl (lv_at hl 0 rfl) ?_
  refine hk_get (v := .int u.2.1) C hP 0 2 1 i_Window rfl rfl (by decide) (hk_in (by decide +kernel) rfl) rfl d_Window_ticksToWish_1 ?_
  refine lv_aload_n hx hb d_Window_ticksToWish_4 rfl (lv_at hl 0 rfl) ?_
  refine hk_get (v := .int u.1) C hP 0 2 0 i_Window rfl rfl (by decide) (hk_in (by decide +kernel) rfl) rfl d_Window_ticksToWish_5 ?_
  refine lv_isub hx hb d_Window_ticksToWish_8 ?_
  refine hk_mabs C (hk_in (by decide +kernel) rfl) (Nat.le_of_ble_eq_true rfl) (Nat.le_of_ble_eq_true rfl) (Nat.zero_le _) (Nat.zero_le _) hl.1 d_Window_ticksToWish_9 ?_
  refine lv_istore_n (lv' := [(1, .int (ab (u.2.1 - u.1))), (0, .ref a0)]) hx hb d_Window_ticksToWish_12 rfl hl (by decide) rfl (fun ls hl => ?_)
  refine lv_aload_n hx hb d_Window_ticksToWish_13 rfl (lv_at hl 1 rfl) ?_
  refine hk_get (v := .int u.2.2) C hP 0 2 2 i_Window rfl rfl (by decide) (hk_in (by decide +kernel) rfl) rfl d_Window_ticksToWish_14 ?_
  refine lv_if_eq (tgt := 28) hx hb d_Window_ticksToWish_17 (by decide) (fun c_1 => ?_) (fun c_1 => ?_)
  · skip
    refine lv_iload_n hx hb d_Window_ticksToWish_28 rfl (lv_at hl 0 rfl) ?_
    have e : m_Window_ticksToWish u = ab (u.2.1 - u.1) := (if_pos c_1).trans (rfl)
    exact hk_ri C hAe hP hD hS e.symm rfl d_Window_ticksToWish_29
  · skip
    refine lv_iload_n hx hb d_Window_ticksToWish_20 rfl (lv_at hl 0 rfl) ?_
    refine lv_iconst (v := (1 : Int32)) hx hb d_Window_ticksToWish_21 (by decide) ?_
    refine lv_iadd hx hb d_Window_ticksToWish_22 ?_
    refine lv_iconst (v := (2 : Int32)) hx hb d_Window_ticksToWish_23 (by decide) ?_
    refine lv_idiv hx hb d_Window_ticksToWish_24 (by decide) ?_
    refine lv_goto (tgt := 29) hx hb d_Window_ticksToWish_25 (by decide) ?_
    have e : m_Window_ticksToWish u = ((ab (u.2.1 - u.1)) + (1 : Int32)) / (2 : Int32) := (if_neg c_1).trans (rfl)
    exact hk_ri C hAe hP hD hS e.symm rfl d_Window_ticksToWish_29
theorem Y_Window_reverseAt : hk_Y y_Window_reverseAt b_Window_reverseAt 2 (some .boolean) 1 := ⟨hk_in (by decide +kernel) rfl, hk_in (by decide +kernel) rfl, hk_in (by decide +kernel) rfl, hk_in (List.mem_of_getElem? (i := 334) rfl) rfl, by decide, by decide, by decide +kernel⟩
abbrev rm_Window_reverseAt : Room := { frames := 1, cells := 0, slots := 0, locals := 21 }
set_option maxHeartbeats 4000000 in
set_option maxRecDepth 100000 in
theorem c_Window_reverseAt (l : Launch) (G : hk_G) (a0 : Nat) (u : cS) (p1 : Int32) : hk_I l G y_Window_reverseAt b_Window_reverseAt 2 (some .boolean) rm_Window_reverseAt [.ref a0, .int p1] (wN a0 u) ((m_Window_reverseAt p1 u).1) (wN a0 ((m_Window_reverseAt p1 u).2)) := by
  refine hk_I_of (by decide) (Nat.le_of_ble_eq_true rfl) ?_
  intro p e s m below meth c A ls C hAe hA hP hD hS hl
  have hx := C.1
  have hb := C.2.1
  have hown := C.2.2.2.2.1
  have hts := C.2.2.2.2.2.1
  have hE := C.2.2.2.2.2.2.2
  have hl : lv_has ls 2 [(0, .ref a0), (1, .int p1)] := hl
  refine lv_aload_n hx hb d_Window_reverseAt_0 rfl (lv_at hl 0 rfl) ?_
  refine hk_get (v := .int u.2.1) C hP 0 2 1 i_Window rfl rfl (by decide) (hk_in (by decide +kernel) rfl) rfl d_Window_reverseAt_1 ?_
  refine lv_aload_n hx hb d_Window_reverseAt_4 rfl (lv_at hl 0 rfl) ?_
  refine hk_get (v := .int u.1) C hP 0 2 0 i_Window rfl rfl (by decide) (hk_in (by decide +kernel) rfl) rfl d_Window_reverseAt_5 ?_
  refine lv_icmp_le (tgt := 17) hx hb d_Window_reverseAt_8 (by decide) (fun c_1 => ?_) (fun c_1 => ?_)
  · skip
    refine lv_iconst (v := (0 : Int32)) hx hb d_Window_reverseAt_17 (by decide) ?_
    have e : m_Window_reverseAt p1 u = ((0 : Int32), u) := (if_pos c_1).trans (rfl)
    exact hk_rz C hAe hP hD hS (Or.inl rfl) (by rw [e]) (by rw [e]) d_Window_reverseAt_18
  · skip
    refine lv_iload_n hx hb d_Window_reverseAt_11 rfl (lv_at hl 1 rfl) ?_
    refine lv_bipush (v := (100 : Int32)) hx hb d_Window_reverseAt_12 (by decide) ?_
    refine lv_icmp_gt (tgt := 19) hx hb d_Window_reverseAt_14 (by decide) (fun c_2 => ?_) (fun c_2 => ?_)
    · skip
      refine lv_aload_n hx hb d_Window_reverseAt_19 rfl (lv_at hl 0 rfl) ?_
      refine lv_aload_n hx hb d_Window_reverseAt_20 rfl (lv_at hl 0 rfl) ?_
      refine hk_get (v := .int u.1) C hP 0 2 0 i_Window rfl rfl (by decide) (hk_in (by decide +kernel) rfl) rfl d_Window_reverseAt_21 ?_
      refine lv_bipush (v := (60 : Int32)) hx hb d_Window_reverseAt_24 (by decide) ?_
      refine lv_isub hx hb d_Window_reverseAt_26 ?_
      refine lv_iconst (v := (0 : Int32)) hx hb d_Window_reverseAt_27 (by decide) ?_
      refine hk_mmax C (hk_in (by decide +kernel) rfl) (Nat.le_of_ble_eq_true rfl) (Nat.le_of_ble_eq_true rfl) (Nat.zero_le _) (Nat.zero_le _) hl.1 d_Window_reverseAt_28 ?_
      refine hk_put (w2 := wN a0 (f_Window_reverseAt_31 u)) (v := .int (mx (u.1 - (60 : Int32)) (0 : Int32))) (ty := .int) C hP hD hS 0 2 1 i_Window t_Window_ok n_Window rfl rfl (by decide) (hk_in (by decide +kernel) rfl) rfl (by decide +kernel) rfl rfl (Nat.le_of_ble_eq_true rfl) rfl d_Window_reverseAt_31 (fun H locs hP hD hS => ?_)
      obtain ⟨U1, hU1⟩ : ∃ z, (f_Window_reverseAt_31 u) = z := ⟨_, rfl⟩
      rw [hU1] at hP hD
      refine lv_iconst (v := (1 : Int32)) hx hb d_Window_reverseAt_34 (by decide) ?_
      subst hU1
      have e : m_Window_reverseAt p1 u = ((1 : Int32), (f_Window_reverseAt_31 u)) := (if_neg c_1).trans ((if_pos c_2).trans (rfl))
      exact hk_rz C hAe hP hD hS (Or.inr rfl) (by rw [e]) (by rw [e]) d_Window_reverseAt_35
    · skip
      refine lv_iconst (v := (0 : Int32)) hx hb d_Window_reverseAt_17 (by decide) ?_
      have e : m_Window_reverseAt p1 u = ((0 : Int32), u) := (if_neg c_1).trans ((if_neg c_2).trans (rfl))
      exact hk_rz C hAe hP hD hS (Or.inl rfl) (by rw [e]) (by rw [e]) d_Window_reverseAt_18
theorem Y_Window_learnAtEnd : hk_Y y_Window_learnAtEnd b_Window_learnAtEnd 2 (some .boolean) 0 := ⟨hk_in (by decide +kernel) rfl, hk_in (by decide +kernel) rfl, hk_in (by decide +kernel) rfl, hk_in (List.mem_of_getElem? (i := 342) rfl) rfl, by decide, by decide, by decide +kernel⟩
abbrev rm_Window_learnAtEnd : Room := { frames := 0, cells := 0, slots := 0, locals := 0 }
set_option maxHeartbeats 4000000 in
set_option maxRecDepth 100000 in
theorem c_Window_learnAtEnd (l : Launch) (G : hk_G) (a0 : Nat) (u : cS) : hk_I l G y_Window_learnAtEnd b_Window_learnAtEnd 2 (some .boolean) rm_Window_learnAtEnd [.ref a0] (wN a0 u) ((m_Window_learnAtEnd u).1) (wN a0 ((m_Window_learnAtEnd u).2)) := by
  refine hk_I_of (by decide) (Nat.le_of_ble_eq_true rfl) ?_
  intro p e s m below meth c A ls C hAe hA hP hD hS hl
  have hx := C.1
  have hb := C.2.1
  have hown := C.2.2.2.2.1
  have hts := C.2.2.2.2.2.1
  have hE := C.2.2.2.2.2.2.2
  have hl : lv_has ls 2 [(0, .ref a0)] := hl
  refine lv_aload_n hx hb d_Window_learnAtEnd_0 rfl (lv_at hl 0 rfl) ?_
  refine hk_get (v := .int u.1) C hP 0 2 0 i_Window rfl rfl (by decide) (hk_in (by decide +kernel) rfl) rfl d_Window_learnAtEnd_1 ?_
  refine lv_aload_n hx hb d_Window_learnAtEnd_4 rfl (lv_at hl 0 rfl) ?_
  refine hk_get (v := .int u.2.1) C hP 0 2 1 i_Window rfl rfl (by decide) (hk_in (by decide +kernel) rfl) rfl d_Window_learnAtEnd_5 ?_
  refine lv_icmp_ne (tgt := 32) hx hb d_Window_learnAtEnd_8 (by decide) (fun c_1 => ?_) (fun c_1 => ?_)
  · skip
    refine lv_iconst (v := (0 : Int32)) hx hb d_Window_learnAtEnd_32 (by decide) ?_
    refine lv_istore_n (lv' := [(1, .int (0 : Int32)), (0, .ref a0)]) hx hb d_Window_learnAtEnd_33 rfl hl (by decide) rfl (fun ls hl => ?_)
    refine lv_aload_n hx hb d_Window_learnAtEnd_34 rfl (lv_at hl 1 rfl) ?_
    refine lv_aload_n hx hb d_Window_learnAtEnd_35 rfl (lv_at hl 1 rfl) ?_
    refine hk_get (v := .int u.2.2) C hP 0 2 2 i_Window rfl rfl (by decide) (hk_in (by decide +kernel) rfl) rfl d_Window_learnAtEnd_36 ?_
    refine lv_if_ne (tgt := 46) hx hb d_Window_learnAtEnd_39 (by decide) (fun c_2 => ?_) (fun c_2 => ?_)
    · skip
      refine lv_iconst (v := (1 : Int32)) hx hb d_Window_learnAtEnd_46 (by decide) ?_
      refine lv_goto (tgt := 51) hx hb d_Window_learnAtEnd_47 (by decide) ?_
      refine hk_put (w2 := wN a0 (f_Window_learnAtEnd_51 u)) (v := .int (1 : Int32)) (ty := .boolean) C hP hD hS 0 2 2 i_Window t_Window_ok n_Window rfl rfl (by decide) (hk_in (by decide +kernel) rfl) rfl (by decide +kernel) (hk_nb (Or.inr rfl)) (hk_fb (Or.inr rfl)) (Nat.le_of_ble_eq_true rfl) rfl d_Window_learnAtEnd_51 (fun H locs hP hD hS => ?_)
      obtain ⟨U1, hU1⟩ : ∃ z, (f_Window_learnAtEnd_51 u) = z := ⟨_, rfl⟩
      rw [hU1] at hP hD
      refine lv_iload_n hx hb d_Window_learnAtEnd_54 rfl (lv_at hl 0 rfl) ?_
      subst hU1
      have e : m_Window_learnAtEnd u = ((0 : Int32), (f_Window_learnAtEnd_51 u)) := (if_neg c_1).trans ((if_neg c_2).trans (rfl))
      exact hk_rz C hAe hP hD hS (Or.inl rfl) (by rw [e]) (by rw [e]) d_Window_learnAtEnd_55
    · skip
      refine lv_iload_n hx hb d_Window_learnAtEnd_42 rfl (lv_at hl 0 rfl) ?_
      refine lv_if_eq (tgt := 50) hx hb d_Window_learnAtEnd_43 (by decide) (fun c_3 => ?_) (fun c_3 => absurd (by decide) c_3)
      refine lv_iconst (v := (0 : Int32)) hx hb d_Window_learnAtEnd_50 (by decide) ?_
      refine hk_put (w2 := wN a0 (f_Window_learnAtEnd_51_1 u)) (v := .int (0 : Int32)) (ty := .boolean) C hP hD hS 0 2 2 i_Window t_Window_ok n_Window rfl rfl (by decide) (hk_in (by decide +kernel) rfl) rfl (by decide +kernel) (hk_nb (Or.inl rfl)) (hk_fb (Or.inl rfl)) (Nat.le_of_ble_eq_true rfl) rfl d_Window_learnAtEnd_51 (fun H locs hP hD hS => ?_)
      obtain ⟨U2, hU2⟩ : ∃ z, (f_Window_learnAtEnd_51_1 u) = z := ⟨_, rfl⟩
      rw [hU2] at hP hD
      refine lv_iload_n hx hb d_Window_learnAtEnd_54 rfl (lv_at hl 0 rfl) ?_
      subst hU2
      have e : m_Window_learnAtEnd u = ((0 : Int32), (f_Window_learnAtEnd_51_1 u)) := (if_neg c_1).trans ((if_pos c_2).trans (rfl))
      exact hk_rz C hAe hP hD hS (Or.inl rfl) (by rw [e]) (by rw [e]) d_Window_learnAtEnd_55
  · skip
    refine lv_aload_n hx hb d_Window_learnAtEnd_11 rfl (lv_at hl 0 rfl) ?_
    refine hk_get (v := .int u.1) C hP 0 2 0 i_Window rfl rfl (by decide) (hk_in (by decide +kernel) rfl) rfl d_Window_learnAtEnd_12 ?_
    refine lv_if_eq (tgt := 28) hx hb d_Window_learnAtEnd_15 (by decide) (fun c_4 => ?_) (fun c_4 => ?_)
    · skip
      refine lv_iconst (v := (1 : Int32)) hx hb d_Window_learnAtEnd_28 (by decide) ?_
      refine lv_goto (tgt := 33) hx hb d_Window_learnAtEnd_29 (by decide) ?_
      refine lv_istore_n (lv' := [(1, .int (1 : Int32)), (0, .ref a0)]) hx hb d_Window_learnAtEnd_33 rfl hl (by decide) rfl (fun ls hl => ?_)
      refine lv_aload_n hx hb d_Window_learnAtEnd_34 rfl (lv_at hl 1 rfl) ?_
      refine lv_aload_n hx hb d_Window_learnAtEnd_35 rfl (lv_at hl 1 rfl) ?_
      refine hk_get (v := .int u.2.2) C hP 0 2 2 i_Window rfl rfl (by decide) (hk_in (by decide +kernel) rfl) rfl d_Window_learnAtEnd_36 ?_
      refine lv_if_ne (tgt := 46) hx hb d_Window_learnAtEnd_39 (by decide) (fun c_5 => ?_) (fun c_5 => ?_)
      · skip
        refine lv_iconst (v := (1 : Int32)) hx hb d_Window_learnAtEnd_46 (by decide) ?_
        refine lv_goto (tgt := 51) hx hb d_Window_learnAtEnd_47 (by decide) ?_
        refine hk_put (w2 := wN a0 (f_Window_learnAtEnd_51 u)) (v := .int (1 : Int32)) (ty := .boolean) C hP hD hS 0 2 2 i_Window t_Window_ok n_Window rfl rfl (by decide) (hk_in (by decide +kernel) rfl) rfl (by decide +kernel) (hk_nb (Or.inr rfl)) (hk_fb (Or.inr rfl)) (Nat.le_of_ble_eq_true rfl) rfl d_Window_learnAtEnd_51 (fun H locs hP hD hS => ?_)
        obtain ⟨U3, hU3⟩ : ∃ z, (f_Window_learnAtEnd_51 u) = z := ⟨_, rfl⟩
        rw [hU3] at hP hD
        refine lv_iload_n hx hb d_Window_learnAtEnd_54 rfl (lv_at hl 0 rfl) ?_
        subst hU3
        have e : m_Window_learnAtEnd u = ((1 : Int32), (f_Window_learnAtEnd_51 u)) := (if_pos c_1).trans ((if_pos c_4).trans ((if_neg c_5).trans (rfl)))
        exact hk_rz C hAe hP hD hS (Or.inr rfl) (by rw [e]) (by rw [e]) d_Window_learnAtEnd_55
      · skip
        refine lv_iload_n hx hb d_Window_learnAtEnd_42 rfl (lv_at hl 0 rfl) ?_
        refine lv_if_eq (tgt := 50) hx hb d_Window_learnAtEnd_43 (by decide) (fun c_6 => absurd c_6 (by decide)) (fun c_6 => ?_)
        refine lv_iconst (v := (1 : Int32)) hx hb d_Window_learnAtEnd_46 (by decide) ?_
        refine lv_goto (tgt := 51) hx hb d_Window_learnAtEnd_47 (by decide) ?_
        refine hk_put (w2 := wN a0 (f_Window_learnAtEnd_51 u)) (v := .int (1 : Int32)) (ty := .boolean) C hP hD hS 0 2 2 i_Window t_Window_ok n_Window rfl rfl (by decide) (hk_in (by decide +kernel) rfl) rfl (by decide +kernel) (hk_nb (Or.inr rfl)) (hk_fb (Or.inr rfl)) (Nat.le_of_ble_eq_true rfl) rfl d_Window_learnAtEnd_51 (fun H locs hP hD hS => ?_)
        obtain ⟨U4, hU4⟩ : ∃ z, (f_Window_learnAtEnd_51 u) = z := ⟨_, rfl⟩
        rw [hU4] at hP hD
        refine lv_iload_n hx hb d_Window_learnAtEnd_54 rfl (lv_at hl 0 rfl) ?_
        subst hU4
        have e : m_Window_learnAtEnd u = ((1 : Int32), (f_Window_learnAtEnd_51 u)) := (if_pos c_1).trans ((if_pos c_4).trans ((if_pos c_5).trans (rfl)))
        exact hk_rz C hAe hP hD hS (Or.inr rfl) (by rw [e]) (by rw [e]) d_Window_learnAtEnd_55
    · skip
      refine lv_aload_n hx hb d_Window_learnAtEnd_18 rfl (lv_at hl 0 rfl) ?_
      refine hk_get (v := .int u.1) C hP 0 2 0 i_Window rfl rfl (by decide) (hk_in (by decide +kernel) rfl) rfl d_Window_learnAtEnd_19 ?_
      refine lv_sipush (v := (200 : Int32)) hx hb d_Window_learnAtEnd_22 (by decide) ?_
      refine lv_icmp_ne (tgt := 32) hx hb d_Window_learnAtEnd_25 (by decide) (fun c_7 => ?_) (fun c_7 => ?_)
      · skip
        refine lv_iconst (v := (0 : Int32)) hx hb d_Window_learnAtEnd_32 (by decide) ?_
        refine lv_istore_n (lv' := [(1, .int (0 : Int32)), (0, .ref a0)]) hx hb d_Window_learnAtEnd_33 rfl hl (by decide) rfl (fun ls hl => ?_)
        refine lv_aload_n hx hb d_Window_learnAtEnd_34 rfl (lv_at hl 1 rfl) ?_
        refine lv_aload_n hx hb d_Window_learnAtEnd_35 rfl (lv_at hl 1 rfl) ?_
        refine hk_get (v := .int u.2.2) C hP 0 2 2 i_Window rfl rfl (by decide) (hk_in (by decide +kernel) rfl) rfl d_Window_learnAtEnd_36 ?_
        refine lv_if_ne (tgt := 46) hx hb d_Window_learnAtEnd_39 (by decide) (fun c_8 => ?_) (fun c_8 => ?_)
        · skip
          refine lv_iconst (v := (1 : Int32)) hx hb d_Window_learnAtEnd_46 (by decide) ?_
          refine lv_goto (tgt := 51) hx hb d_Window_learnAtEnd_47 (by decide) ?_
          refine hk_put (w2 := wN a0 (f_Window_learnAtEnd_51 u)) (v := .int (1 : Int32)) (ty := .boolean) C hP hD hS 0 2 2 i_Window t_Window_ok n_Window rfl rfl (by decide) (hk_in (by decide +kernel) rfl) rfl (by decide +kernel) (hk_nb (Or.inr rfl)) (hk_fb (Or.inr rfl)) (Nat.le_of_ble_eq_true rfl) rfl d_Window_learnAtEnd_51 (fun H locs hP hD hS => ?_)
          obtain ⟨U5, hU5⟩ : ∃ z, (f_Window_learnAtEnd_51 u) = z := ⟨_, rfl⟩
          rw [hU5] at hP hD
          refine lv_iload_n hx hb d_Window_learnAtEnd_54 rfl (lv_at hl 0 rfl) ?_
          subst hU5
          have e : m_Window_learnAtEnd u = ((0 : Int32), (f_Window_learnAtEnd_51 u)) := (if_pos c_1).trans ((if_neg c_4).trans ((if_neg c_7).trans ((if_neg c_8).trans (rfl))))
          exact hk_rz C hAe hP hD hS (Or.inl rfl) (by rw [e]) (by rw [e]) d_Window_learnAtEnd_55
        · skip
          refine lv_iload_n hx hb d_Window_learnAtEnd_42 rfl (lv_at hl 0 rfl) ?_
          refine lv_if_eq (tgt := 50) hx hb d_Window_learnAtEnd_43 (by decide) (fun c_9 => ?_) (fun c_9 => absurd (by decide) c_9)
          refine lv_iconst (v := (0 : Int32)) hx hb d_Window_learnAtEnd_50 (by decide) ?_
          refine hk_put (w2 := wN a0 (f_Window_learnAtEnd_51_1 u)) (v := .int (0 : Int32)) (ty := .boolean) C hP hD hS 0 2 2 i_Window t_Window_ok n_Window rfl rfl (by decide) (hk_in (by decide +kernel) rfl) rfl (by decide +kernel) (hk_nb (Or.inl rfl)) (hk_fb (Or.inl rfl)) (Nat.le_of_ble_eq_true rfl) rfl d_Window_learnAtEnd_51 (fun H locs hP hD hS => ?_)
          obtain ⟨U6, hU6⟩ : ∃ z, (f_Window_learnAtEnd_51_1 u) = z := ⟨_, rfl⟩
          rw [hU6] at hP hD
          refine lv_iload_n hx hb d_Window_learnAtEnd_54 rfl (lv_at hl 0 rfl) ?_
          subst hU6
          have e : m_Window_learnAtEnd u = ((0 : Int32), (f_Window_learnAtEnd_51_1 u)) := (if_pos c_1).trans ((if_neg c_4).trans ((if_neg c_7).trans ((if_pos c_8).trans (rfl))))
          exact hk_rz C hAe hP hD hS (Or.inl rfl) (by rw [e]) (by rw [e]) d_Window_learnAtEnd_55
      · skip
        refine lv_iconst (v := (1 : Int32)) hx hb d_Window_learnAtEnd_28 (by decide) ?_
        refine lv_goto (tgt := 33) hx hb d_Window_learnAtEnd_29 (by decide) ?_
        refine lv_istore_n (lv' := [(1, .int (1 : Int32)), (0, .ref a0)]) hx hb d_Window_learnAtEnd_33 rfl hl (by decide) rfl (fun ls hl => ?_)
        refine lv_aload_n hx hb d_Window_learnAtEnd_34 rfl (lv_at hl 1 rfl) ?_
        refine lv_aload_n hx hb d_Window_learnAtEnd_35 rfl (lv_at hl 1 rfl) ?_
        refine hk_get (v := .int u.2.2) C hP 0 2 2 i_Window rfl rfl (by decide) (hk_in (by decide +kernel) rfl) rfl d_Window_learnAtEnd_36 ?_
        refine lv_if_ne (tgt := 46) hx hb d_Window_learnAtEnd_39 (by decide) (fun c_10 => ?_) (fun c_10 => ?_)
        · skip
          refine lv_iconst (v := (1 : Int32)) hx hb d_Window_learnAtEnd_46 (by decide) ?_
          refine lv_goto (tgt := 51) hx hb d_Window_learnAtEnd_47 (by decide) ?_
          refine hk_put (w2 := wN a0 (f_Window_learnAtEnd_51 u)) (v := .int (1 : Int32)) (ty := .boolean) C hP hD hS 0 2 2 i_Window t_Window_ok n_Window rfl rfl (by decide) (hk_in (by decide +kernel) rfl) rfl (by decide +kernel) (hk_nb (Or.inr rfl)) (hk_fb (Or.inr rfl)) (Nat.le_of_ble_eq_true rfl) rfl d_Window_learnAtEnd_51 (fun H locs hP hD hS => ?_)
          obtain ⟨U7, hU7⟩ : ∃ z, (f_Window_learnAtEnd_51 u) = z := ⟨_, rfl⟩
          rw [hU7] at hP hD
          refine lv_iload_n hx hb d_Window_learnAtEnd_54 rfl (lv_at hl 0 rfl) ?_
          subst hU7
          have e : m_Window_learnAtEnd u = ((1 : Int32), (f_Window_learnAtEnd_51 u)) := (if_pos c_1).trans ((if_neg c_4).trans ((if_pos c_7).trans ((if_neg c_10).trans (rfl))))
          exact hk_rz C hAe hP hD hS (Or.inr rfl) (by rw [e]) (by rw [e]) d_Window_learnAtEnd_55
        · skip
          refine lv_iload_n hx hb d_Window_learnAtEnd_42 rfl (lv_at hl 0 rfl) ?_
          refine lv_if_eq (tgt := 50) hx hb d_Window_learnAtEnd_43 (by decide) (fun c_11 => absurd c_11 (by decide)) (fun c_11 => ?_)
          refine lv_iconst (v := (1 : Int32)) hx hb d_Window_learnAtEnd_46 (by decide) ?_
          refine lv_goto (tgt := 51) hx hb d_Window_learnAtEnd_47 (by decide) ?_
          refine hk_put (w2 := wN a0 (f_Window_learnAtEnd_51 u)) (v := .int (1 : Int32)) (ty := .boolean) C hP hD hS 0 2 2 i_Window t_Window_ok n_Window rfl rfl (by decide) (hk_in (by decide +kernel) rfl) rfl (by decide +kernel) (hk_nb (Or.inr rfl)) (hk_fb (Or.inr rfl)) (Nat.le_of_ble_eq_true rfl) rfl d_Window_learnAtEnd_51 (fun H locs hP hD hS => ?_)
          obtain ⟨U8, hU8⟩ : ∃ z, (f_Window_learnAtEnd_51 u) = z := ⟨_, rfl⟩
          rw [hU8] at hP hD
          refine lv_iload_n hx hb d_Window_learnAtEnd_54 rfl (lv_at hl 0 rfl) ?_
          subst hU8
          have e : m_Window_learnAtEnd u = ((1 : Int32), (f_Window_learnAtEnd_51 u)) := (if_pos c_1).trans ((if_neg c_4).trans ((if_pos c_7).trans ((if_pos c_10).trans (rfl))))
          exact hk_rz C hAe hP hD hS (Or.inr rfl) (by rw [e]) (by rw [e]) d_Window_learnAtEnd_55
