theorem Y_Loads_measure : hk_Y y_Loads_measure b_Loads_measure 2 none 1 := ⟨hk_in (by decide +kernel) rfl, hk_in (by decide +kernel) rfl, hk_in (by decide +kernel) rfl, hk_in (List.mem_of_getElem? (i := 350) rfl) rfl, by decide, by decide, by decide +kernel⟩
abbrev rm_Loads_measure : Room := { frames := 1, cells := 0, slots := 0, locals := 22 }
set_option maxHeartbeats 4000000 in
set_option maxRecDepth 100000 in
theorem c_Loads_measure (l : Launch) (G : hk_G) (a0 a1 a2 a3 : Nat) (u : cL) (p1 : Int32) (hI : IL u) : hk_V l G y_Loads_measure b_Loads_measure 2 rm_Loads_measure [.ref a0, .int p1] (wL G a0 a1 a2 a3 u) (wL G a0 a1 a2 a3 (m_Loads_measure p1 u)) := by
  refine hk_V_of (by decide) (Nat.le_of_ble_eq_true rfl) ?_
  intro p e s m below meth c A ls C hAe hA hP hD hS hl
  have hx := C.1
  have hb := C.2.1
  have hown := C.2.2.2.2.1
  have hts := C.2.2.2.2.2.1
  have hE := C.2.2.2.2.2.2.2
  have hl : lv_has ls 2 [(0, .ref a0), (1, .int p1)] := hl
  refine lv_aload_n hx hb d_Loads_measure_0 rfl (lv_at hl 0 rfl) ?_
  refine lv_iload_n hx hb d_Loads_measure_1 rfl (lv_at hl 1 rfl) ?_
  refine lv_sipush (v := (11500 : Int32)) hx hb d_Loads_measure_2 (by decide) ?_
  refine lv_icmp_ge (tgt := 17) hx hb d_Loads_measure_5 (by decide) (fun c_1 => ?_) (fun c_1 => ?_)
  · skip
    refine lv_iconst (v := (0 : Int32)) hx hb d_Loads_measure_17 (by decide) ?_
    refine hk_put (w2 := wL G a0 a1 a2 a3 (f_Loads_measure_18 u)) (v := .int (0 : Int32)) (ty := .int) C hP hD hS 0 3 4 i_Loads t_Loads_ok n_Loads rfl rfl (by decide) (hk_in (by decide +kernel) rfl) rfl (by decide +kernel) rfl rfl (Nat.le_of_ble_eq_true rfl) rfl d_Loads_measure_18 (fun H locs hP hD hS => ?_)
    have hI1 : IL (f_Loads_measure_18 u) := (IL_of (k3_f_Loads_measure_18 _) hI)
    obtain ⟨U1, hU1⟩ : ∃ z, (f_Loads_measure_18 u) = z := ⟨_, rfl⟩
    rw [hU1] at hP hD hI1
    refine lv_aload_n hx hb d_Loads_measure_21 rfl (lv_at hl 0 rfl) ?_
    refine lv_iload_n hx hb d_Loads_measure_22 rfl (lv_at hl 1 rfl) ?_
    refine lv_sipush (v := (12500 : Int32)) hx hb d_Loads_measure_23 (by decide) ?_
    refine lv_icmp_le (tgt := 38) hx hb d_Loads_measure_26 (by decide) (fun c_2 => ?_) (fun c_2 => ?_)
    · skip
      refine lv_iconst (v := (0 : Int32)) hx hb d_Loads_measure_38 (by decide) ?_
      refine hk_put (w2 := wL G a0 a1 a2 a3 (f_Loads_measure_39 U1)) (v := .int (0 : Int32)) (ty := .int) C hP hD hS 0 3 5 i_Loads t_Loads_ok n_Loads rfl rfl (by decide) (hk_in (by decide +kernel) rfl) rfl (by decide +kernel) rfl rfl (Nat.le_of_ble_eq_true rfl) rfl d_Loads_measure_39 (fun H locs hP hD hS => ?_)
      have hI2 : IL (f_Loads_measure_39 U1) := (IL_of (k3_f_Loads_measure_39 _) hI1)
      obtain ⟨U2, hU2⟩ : ∃ z, (f_Loads_measure_39 U1) = z := ⟨_, rfl⟩
      rw [hU2] at hP hD hI2
      refine lv_aload_n hx hb d_Loads_measure_42 rfl (lv_at hl 0 rfl) ?_
      refine hk_get (v := .int (l4 U2)) C hP 0 3 4 i_Loads rfl rfl (by decide) (hk_in (by decide +kernel) rfl) rfl d_Loads_measure_43 ?_
      refine lv_iconst (v := (3 : Int32)) hx hb d_Loads_measure_46 (by decide) ?_
      refine lv_icmp_lt (tgt := 64) hx hb d_Loads_measure_47 (by decide) (fun c_3 => ?_) (fun c_3 => ?_)
      · skip
        refine lv_aload_n hx hb d_Loads_measure_64 rfl (lv_at hl 0 rfl) ?_
        refine hk_get (v := .int (l5 U2)) C hP 0 3 5 i_Loads rfl rfl (by decide) (hk_in (by decide +kernel) rfl) rfl d_Loads_measure_65 ?_
        refine lv_iconst (v := (3 : Int32)) hx hb d_Loads_measure_68 (by decide) ?_
        refine lv_icmp_lt (tgt := 86) hx hb d_Loads_measure_69 (by decide) (fun c_4 => ?_) (fun c_4 => ?_)
        · skip
          subst hU1 hU2
          have e : m_Loads_measure p1 u = (f_Loads_measure_39 (f_Loads_measure_18 u)) := (if_pos c_1).trans ((if_pos c_2).trans ((if_pos c_3).trans ((if_pos c_4).trans (rfl))))
          exact hk_rv C hAe hP hD hS (by rw [e]) d_Loads_measure_86
        · skip
          refine lv_aload_n hx hb d_Loads_measure_72 rfl (lv_at hl 0 rfl) ?_
          refine lv_iconst (v := (0 : Int32)) hx hb d_Loads_measure_73 (by decide) ?_
          refine hk_put (w2 := wL G a0 a1 a2 a3 (f_Loads_measure_74 U2)) (v := .int (0 : Int32)) (ty := .int) C hP hD hS 0 3 5 i_Loads t_Loads_ok n_Loads rfl rfl (by decide) (hk_in (by decide +kernel) rfl) rfl (by decide +kernel) rfl rfl (Nat.le_of_ble_eq_true rfl) rfl d_Loads_measure_74 (fun H locs hP hD hS => ?_)
          have hI3 : IL (f_Loads_measure_74 U2) := (IL_of (k3_f_Loads_measure_74 _) hI2)
          obtain ⟨U3, hU3⟩ : ∃ z, (f_Loads_measure_74 U2) = z := ⟨_, rfl⟩
          rw [hU3] at hP hD hI3
          refine lv_aload_n hx hb d_Loads_measure_77 rfl (lv_at hl 0 rfl) ?_
          refine lv_aload_n hx hb d_Loads_measure_78 rfl (lv_at hl 0 rfl) ?_
          refine hk_goI (hk_kV (k := 0) (As := []) (rest := [.ref a0]) C (c_Loads_findNextToRestore l G a0 a1 a2 a3 U3 hI3 _) Y_Loads_findNextToRestore (hk_in (by decide +kernel) rfl) rfl rfl ⟨Nat.le_of_ble_eq_true rfl, Nat.le_of_ble_eq_true rfl⟩ (va_recv hE.1 hP (ci := 3) (q0 := 0) rfl rfl) hP hD rfl hl.1 rfl (Nat.le_of_ble_eq_true rfl) d_Loads_measure_79 ⟨Nat.zero_le _, Nat.zero_le _⟩) hD hS hA (fun H locs hP hD hS => ?_)
          refine lv_iconst (v := (0 : Int32)) hx hb d_Loads_measure_82 (by decide) ?_
          refine hk_goV (hk_kV (k := 2) (As := [.int (m_Loads_findNextToRestore U3), .int (0 : Int32)]) (rest := []) C (c_Loads_setOff l G a0 a1 a2 a3 U3 (m_Loads_findNextToRestore U3) (0 : Int32) hI3 (Or.inl rfl) (fr_rest hI3) _) Y_Loads_setOff (hk_in (by decide +kernel) rfl) rfl rfl ⟨Nat.le_of_ble_eq_true rfl, Nat.le_of_ble_eq_true rfl⟩ (va_recv hE.1 hP (ci := 3) (q0 := 0) rfl rfl) hP hD rfl hl.1 rfl (Nat.le_of_ble_eq_true rfl) d_Loads_measure_83 ⟨Nat.zero_le _, Nat.zero_le _⟩) hD hS hA (fun H locs hP hD hS => ?_)
          have hI4 : IL (m_Loads_setOff (m_Loads_findNextToRestore U3) (0 : Int32) U3) := (km_Loads_setOff hI3)
          obtain ⟨U4, hU4⟩ : ∃ z, (m_Loads_setOff (m_Loads_findNextToRestore U3) (0 : Int32) U3) = z := ⟨_, rfl⟩
          rw [hU4] at hP hD hI4
          subst hU1 hU2 hU3 hU4
          have e : m_Loads_measure p1 u = (m_Loads_setOff (m_Loads_findNextToRestore (f_Loads_measure_74 (f_Loads_measure_39 (f_Loads_measure_18 u)))) (0 : Int32) (f_Loads_measure_74 (f_Loads_measure_39 (f_Loads_measure_18 u)))) := (if_pos c_1).trans ((if_pos c_2).trans ((if_pos c_3).trans ((if_neg c_4).trans (rfl))))
          exact hk_rv C hAe hP hD hS (by rw [e]) d_Loads_measure_86
      · skip
        refine lv_aload_n hx hb d_Loads_measure_50 rfl (lv_at hl 0 rfl) ?_
        refine lv_iconst (v := (0 : Int32)) hx hb d_Loads_measure_51 (by decide) ?_
        refine hk_put (w2 := wL G a0 a1 a2 a3 (f_Loads_measure_52 U2)) (v := .int (0 : Int32)) (ty := .int) C hP hD hS 0 3 4 i_Loads t_Loads_ok n_Loads rfl rfl (by decide) (hk_in (by decide +kernel) rfl) rfl (by decide +kernel) rfl rfl (Nat.le_of_ble_eq_true rfl) rfl d_Loads_measure_52 (fun H locs hP hD hS => ?_)
        have hI5 : IL (f_Loads_measure_52 U2) := (IL_of (k3_f_Loads_measure_52 _) hI2)
        obtain ⟨U5, hU5⟩ : ∃ z, (f_Loads_measure_52 U2) = z := ⟨_, rfl⟩
        rw [hU5] at hP hD hI5
        refine lv_aload_n hx hb d_Loads_measure_55 rfl (lv_at hl 0 rfl) ?_
        refine lv_aload_n hx hb d_Loads_measure_56 rfl (lv_at hl 0 rfl) ?_
        refine hk_goI (hk_kV (k := 0) (As := []) (rest := [.ref a0]) C (c_Loads_findNextToShed l G a0 a1 a2 a3 U5 hI5 _) Y_Loads_findNextToShed (hk_in (by decide +kernel) rfl) rfl rfl ⟨Nat.le_of_ble_eq_true rfl, Nat.le_of_ble_eq_true rfl⟩ (va_recv hE.1 hP (ci := 3) (q0 := 0) rfl rfl) hP hD rfl hl.1 rfl (Nat.le_of_ble_eq_true rfl) d_Loads_measure_57 ⟨Nat.zero_le _, Nat.zero_le _⟩) hD hS hA (fun H locs hP hD hS => ?_)
        refine lv_iconst (v := (1 : Int32)) hx hb d_Loads_measure_60 (by decide) ?_
        refine hk_goV (hk_kV (k := 2) (As := [.int (m_Loads_findNextToShed U5), .int (1 : Int32)]) (rest := []) C (c_Loads_setOff l G a0 a1 a2 a3 U5 (m_Loads_findNextToShed U5) (1 : Int32) hI5 (Or.inr rfl) (fr_shed hI5) _) Y_Loads_setOff (hk_in (by decide +kernel) rfl) rfl rfl ⟨Nat.le_of_ble_eq_true rfl, Nat.le_of_ble_eq_true rfl⟩ (va_recv hE.1 hP (ci := 3) (q0 := 0) rfl rfl) hP hD rfl hl.1 rfl (Nat.le_of_ble_eq_true rfl) d_Loads_measure_61 ⟨Nat.zero_le _, Nat.zero_le _⟩) hD hS hA (fun H locs hP hD hS => ?_)
        have hI6 : IL (m_Loads_setOff (m_Loads_findNextToShed U5) (1 : Int32) U5) := (km_Loads_setOff hI5)
        obtain ⟨U6, hU6⟩ : ∃ z, (m_Loads_setOff (m_Loads_findNextToShed U5) (1 : Int32) U5) = z := ⟨_, rfl⟩
        rw [hU6] at hP hD hI6
        refine lv_aload_n hx hb d_Loads_measure_64 rfl (lv_at hl 0 rfl) ?_
        refine hk_get (v := .int (l5 U6)) C hP 0 3 5 i_Loads rfl rfl (by decide) (hk_in (by decide +kernel) rfl) rfl d_Loads_measure_65 ?_
        refine lv_iconst (v := (3 : Int32)) hx hb d_Loads_measure_68 (by decide) ?_
        refine lv_icmp_lt (tgt := 86) hx hb d_Loads_measure_69 (by decide) (fun c_5 => ?_) (fun c_5 => ?_)
        · skip
          subst hU1 hU2 hU5 hU6
          have e : m_Loads_measure p1 u = (m_Loads_setOff (m_Loads_findNextToShed (f_Loads_measure_52 (f_Loads_measure_39 (f_Loads_measure_18 u)))) (1 : Int32) (f_Loads_measure_52 (f_Loads_measure_39 (f_Loads_measure_18 u)))) := (if_pos c_1).trans ((if_pos c_2).trans ((if_neg c_3).trans ((if_pos c_5).trans (rfl))))
          exact hk_rv C hAe hP hD hS (by rw [e]) d_Loads_measure_86
        · skip
          refine lv_aload_n hx hb d_Loads_measure_72 rfl (lv_at hl 0 rfl) ?_
          refine lv_iconst (v := (0 : Int32)) hx hb d_Loads_measure_73 (by decide) ?_
          refine hk_put (w2 := wL G a0 a1 a2 a3 (f_Loads_measure_74 U6)) (v := .int (0 : Int32)) (ty := .int) C hP hD hS 0 3 5 i_Loads t_Loads_ok n_Loads rfl rfl (by decide) (hk_in (by decide +kernel) rfl) rfl (by decide +kernel) rfl rfl (Nat.le_of_ble_eq_true rfl) rfl d_Loads_measure_74 (fun H locs hP hD hS => ?_)
          have hI7 : IL (f_Loads_measure_74 U6) := (IL_of (k3_f_Loads_measure_74 _) hI6)
          obtain ⟨U7, hU7⟩ : ∃ z, (f_Loads_measure_74 U6) = z := ⟨_, rfl⟩
          rw [hU7] at hP hD hI7
          refine lv_aload_n hx hb d_Loads_measure_77 rfl (lv_at hl 0 rfl) ?_
          refine lv_aload_n hx hb d_Loads_measure_78 rfl (lv_at hl 0 rfl) ?_
          refine hk_goI (hk_kV (k := 0) (As := []) (rest := [.ref a0]) C (c_Loads_findNextToRestore l G a0 a1 a2 a3 U7 hI7 _) Y_Loads_findNextToRestore (hk_in (by decide +kernel) rfl) rfl rfl ⟨Nat.le_of_ble_eq_true rfl, Nat.le_of_ble_eq_true rfl⟩ (va_recv hE.1 hP (ci := 3) (q0 := 0) rfl rfl) hP hD rfl hl.1 rfl (Nat.le_of_ble_eq_true rfl) d_Loads_measure_79 ⟨Nat.zero_le _, Nat.zero_le _⟩) hD hS hA (fun H locs hP hD hS => ?_)
          refine lv_iconst (v := (0 : Int32)) hx hb d_Loads_measure_82 (by decide) ?_
          refine hk_goV (hk_kV (k := 2) (As := [.int (m_Loads_findNextToRestore U7), .int (0 : Int32)]) (rest := []) C (c_Loads_setOff l G a0 a1 a2 a3 U7 (m_Loads_findNextToRestore U7) (0 : Int32) hI7 (Or.inl rfl) (fr_rest hI7) _) Y_Loads_setOff (hk_in (by decide +kernel) rfl) rfl rfl ⟨Nat.le_of_ble_eq_true rfl, Nat.le_of_ble_eq_true rfl⟩ (va_recv hE.1 hP (ci := 3) (q0 := 0) rfl rfl) hP hD rfl hl.1 rfl (Nat.le_of_ble_eq_true rfl) d_Loads_measure_83 ⟨Nat.zero_le _, Nat.zero_le _⟩) hD hS hA (fun H locs hP hD hS => ?_)
          have hI8 : IL (m_Loads_setOff (m_Loads_findNextToRestore U7) (0 : Int32) U7) := (km_Loads_setOff hI7)
          obtain ⟨U8, hU8⟩ : ∃ z, (m_Loads_setOff (m_Loads_findNextToRestore U7) (0 : Int32) U7) = z := ⟨_, rfl⟩
          rw [hU8] at hP hD hI8
          subst hU1 hU2 hU5 hU6 hU7 hU8
          have e : m_Loads_measure p1 u = (m_Loads_setOff (m_Loads_findNextToRestore (f_Loads_measure_74 (m_Loads_setOff (m_Loads_findNextToShed (f_Loads_measure_52 (f_Loads_measure_39 (f_Loads_measure_18 u)))) (1 : Int32) (f_Loads_measure_52 (f_Loads_measure_39 (f_Loads_measure_18 u)))))) (0 : Int32) (f_Loads_measure_74 (m_Loads_setOff (m_Loads_findNextToShed (f_Loads_measure_52 (f_Loads_measure_39 (f_Loads_measure_18 u)))) (1 : Int32) (f_Loads_measure_52 (f_Loads_measure_39 (f_Loads_measure_18 u)))))) := (if_pos c_1).trans ((if_pos c_2).trans ((if_neg c_3).trans ((if_neg c_5).trans (rfl))))
          exact hk_rv C hAe hP hD hS (by rw [e]) d_Loads_measure_86
    · skip
      refine lv_aload_n hx hb d_Loads_measure_29 rfl (lv_at hl 0 rfl) ?_
      refine hk_get (v := .int (l5 U1)) C hP 0 3 5 i_Loads rfl rfl (by decide) (hk_in (by decide +kernel) rfl) rfl d_Loads_measure_30 ?_
      refine lv_iconst (v := (1 : Int32)) hx hb d_Loads_measure_33 (by decide) ?_
      refine lv_iadd hx hb d_Loads_measure_34 ?_
      refine lv_goto (tgt := 39) hx hb d_Loads_measure_35 (by decide) ?_
      refine hk_put (w2 := wL G a0 a1 a2 a3 (f_Loads_measure_39_1 U1)) (v := .int ((l5 U1) + (1 : Int32))) (ty := .int) C hP hD hS 0 3 5 i_Loads t_Loads_ok n_Loads rfl rfl (by decide) (hk_in (by decide +kernel) rfl) rfl (by decide +kernel) rfl rfl (Nat.le_of_ble_eq_true rfl) rfl d_Loads_measure_39 (fun H locs hP hD hS => ?_)
      have hI9 : IL (f_Loads_measure_39_1 U1) := (IL_of (k3_f_Loads_measure_39_1 _) hI1)
      obtain ⟨U9, hU9⟩ : ∃ z, (f_Loads_measure_39_1 U1) = z := ⟨_, rfl⟩
      rw [hU9] at hP hD hI9
      refine lv_aload_n hx hb d_Loads_measure_42 rfl (lv_at hl 0 rfl) ?_
      refine hk_get (v := .int (l4 U9)) C hP 0 3 4 i_Loads rfl rfl (by decide) (hk_in (by decide +kernel) rfl) rfl d_Loads_measure_43 ?_
      refine lv_iconst (v := (3 : Int32)) hx hb d_Loads_measure_46 (by decide) ?_
      refine lv_icmp_lt (tgt := 64) hx hb d_Loads_measure_47 (by decide) (fun c_6 => ?_) (fun c_6 => ?_)
      · skip
        refine lv_aload_n hx hb d_Loads_measure_64 rfl (lv_at hl 0 rfl) ?_
        refine hk_get (v := .int (l5 U9)) C hP 0 3 5 i_Loads rfl rfl (by decide) (hk_in (by decide +kernel) rfl) rfl d_Loads_measure_65 ?_
        refine lv_iconst (v := (3 : Int32)) hx hb d_Loads_measure_68 (by decide) ?_
        refine lv_icmp_lt (tgt := 86) hx hb d_Loads_measure_69 (by decide) (fun c_7 => ?_) (fun c_7 => ?_)
        · skip
          subst hU1 hU9
          have e : m_Loads_measure p1 u = (f_Loads_measure_39_1 (f_Loads_measure_18 u)) := (if_pos c_1).trans ((if_neg c_2).trans ((if_pos c_6).trans ((if_pos c_7).trans (rfl))))
          exact hk_rv C hAe hP hD hS (by rw [e]) d_Loads_measure_86
        · skip
          refine lv_aload_n hx hb d_Loads_measure_72 rfl (lv_at hl 0 rfl) ?_
          refine lv_iconst (v := (0 : Int32)) hx hb d_Loads_measure_73 (by decide) ?_
          refine hk_put (w2 := wL G a0 a1 a2 a3 (f_Loads_measure_74 U9)) (v := .int (0 : Int32)) (ty := .int) C hP hD hS 0 3 5 i_Loads t_Loads_ok n_Loads rfl rfl (by decide) (hk_in (by decide +kernel) rfl) rfl (by decide +kernel) rfl rfl (Nat.le_of_ble_eq_true rfl) rfl d_Loads_measure_74 (fun H locs hP hD hS => ?_)
          have hI10 : IL (f_Loads_measure_74 U9) := (IL_of (k3_f_Loads_measure_74 _) hI9)
          obtain ⟨U10, hU10⟩ : ∃ z, (f_Loads_measure_74 U9) = z := ⟨_, rfl⟩
          rw [hU10] at hP hD hI10
          refine lv_aload_n hx hb d_Loads_measure_77 rfl (lv_at hl 0 rfl) ?_
          refine lv_aload_n hx hb d_Loads_measure_78 rfl (lv_at hl 0 rfl) ?_
          refine hk_goI (hk_kV (k := 0) (As := []) (rest := [.ref a0]) C (c_Loads_findNextToRestore l G a0 a1 a2 a3 U10 hI10 _) Y_Loads_findNextToRestore (hk_in (by decide +kernel) rfl) rfl rfl ⟨Nat.le_of_ble_eq_true rfl, Nat.le_of_ble_eq_true rfl⟩ (va_recv hE.1 hP (ci := 3) (q0 := 0) rfl rfl) hP hD rfl hl.1 rfl (Nat.le_of_ble_eq_true rfl) d_Loads_measure_79 ⟨Nat.zero_le _, Nat.zero_le _⟩) hD hS hA (fun H locs hP hD hS => ?_)
          refine lv_iconst (v := (0 : Int32)) hx hb d_Loads_measure_82 (by decide) ?_
          refine hk_goV (hk_kV (k := 2) (As := [.int (m_Loads_findNextToRestore U10), .int (0 : Int32)]) (rest := []) C (c_Loads_setOff l G a0 a1 a2 a3 U10 (m_Loads_findNextToRestore U10) (0 : Int32) hI10 (Or.inl rfl) (fr_rest hI10) _) Y_Loads_setOff (hk_in (by decide +kernel) rfl) rfl rfl ⟨Nat.le_of_ble_eq_true rfl, Nat.le_of_ble_eq_true rfl⟩ (va_recv hE.1 hP (ci := 3) (q0 := 0) rfl rfl) hP hD rfl hl.1 rfl (Nat.le_of_ble_eq_true rfl) d_Loads_measure_83 ⟨Nat.zero_le _, Nat.zero_le _⟩) hD hS hA (fun H locs hP hD hS => ?_)
          have hI11 : IL (m_Loads_setOff (m_Loads_findNextToRestore U10) (0 : Int32) U10) := (km_Loads_setOff hI10)
          obtain ⟨U11, hU11⟩ : ∃ z, (m_Loads_setOff (m_Loads_findNextToRestore U10) (0 : Int32) U10) = z := ⟨_, rfl⟩
          rw [hU11] at hP hD hI11
          subst hU1 hU9 hU10 hU11
          have e : m_Loads_measure p1 u = (m_Loads_setOff (m_Loads_findNextToRestore (f_Loads_measure_74 (f_Loads_measure_39_1 (f_Loads_measure_18 u)))) (0 : Int32) (f_Loads_measure_74 (f_Loads_measure_39_1 (f_Loads_measure_18 u)))) := (if_pos c_1).trans ((if_neg c_2).trans ((if_pos c_6).trans ((if_neg c_7).trans (rfl))))
          exact hk_rv C hAe hP hD hS (by rw [e]) d_Loads_measure_86
      · skip
        refine lv_aload_n hx hb d_Loads_measure_50 rfl (lv_at hl 0 rfl) ?_
        refine lv_iconst (v := (0 : Int32)) hx hb d_Loads_measure_51 (by decide) ?_
        refine hk_put (w2 := wL G a0 a1 a2 a3 (f_Loads_measure_52 U9)) (v := .int (0 : Int32)) (ty := .int) C hP hD hS 0 3 4 i_Loads t_Loads_ok n_Loads rfl rfl (by decide) (hk_in (by decide +kernel) rfl) rfl (by decide +kernel) rfl rfl (Nat.le_of_ble_eq_true rfl) rfl d_Loads_measure_52 (fun H locs hP hD hS => ?_)
        have hI12 : IL (f_Loads_measure_52 U9) := (IL_of (k3_f_Loads_measure_52 _) hI9)
        obtain ⟨U12, hU12⟩ : ∃ z, (f_Loads_measure_52 U9) = z := ⟨_, rfl⟩
        rw [hU12] at hP hD hI12
        refine lv_aload_n hx hb d_Loads_measure_55 rfl (lv_at hl 0 rfl) ?_
        refine lv_aload_n hx hb d_Loads_measure_56 rfl (lv_at hl 0 rfl) ?_
        refine hk_goI (hk_kV (k := 0) (As := []) (rest := [.ref a0]) C (c_Loads_findNextToShed l G a0 a1 a2 a3 U12 hI12 _) Y_Loads_findNextToShed (hk_in (by decide +kernel) rfl) rfl rfl ⟨Nat.le_of_ble_eq_true rfl, Nat.le_of_ble_eq_true rfl⟩ (va_recv hE.1 hP (ci := 3) (q0 := 0) rfl rfl) hP hD rfl hl.1 rfl (Nat.le_of_ble_eq_true rfl) d_Loads_measure_57 ⟨Nat.zero_le _, Nat.zero_le _⟩) hD hS hA (fun H locs hP hD hS => ?_)
        refine lv_iconst (v := (1 : Int32)) hx hb d_Loads_measure_60 (by decide) ?_
        refine hk_goV (hk_kV (k := 2) (As := [.int (m_Loads_findNextToShed U12), .int (1 : Int32)]) (rest := []) C (c_Loads_setOff l G a0 a1 a2 a3 U12 (m_Loads_findNextToShed U12) (1 : Int32) hI12 (Or.inr rfl) (fr_shed hI12) _) Y_Loads_setOff (hk_in (by decide +kernel) rfl) rfl rfl ⟨Nat.le_of_ble_eq_true rfl, Nat.le_of_ble_eq_true rfl⟩ (va_recv hE.1 hP (ci := 3) (q0 := 0) rfl rfl) hP hD rfl hl.1 rfl (Nat.le_of_ble_eq_true rfl) d_Loads_measure_61 ⟨Nat.zero_le _, Nat.zero_le _⟩) hD hS hA (fun H locs hP hD hS => ?_)
        have hI13 : IL (m_Loads_setOff (m_Loads_findNextToShed U12) (1 : Int32) U12) := (km_Loads_setOff hI12)
        obtain ⟨U13, hU13⟩ : ∃ z, (m_Loads_setOff (m_Loads_findNextToShed U12) (1 : Int32) U12) = z := ⟨_, rfl⟩
        rw [hU13] at hP hD hI13
        refine lv_aload_n hx hb d_Loads_measure_64 rfl (lv_at hl 0 rfl) ?_
        refine hk_get (v := .int (l5 U13)) C hP 0 3 5 i_Loads rfl rfl (by decide) (hk_in (by decide +kernel) rfl) rfl d_Loads_measure_65 ?_
        refine lv_iconst (v := (3 : Int32)) hx hb d_Loads_measure_68 (by decide) ?_
        refine lv_icmp_lt (tgt := 86) hx hb d_Loads_measure_69 (by decide) (fun c_8 => ?_) (fun c_8 => ?_)
        · skip
          subst hU1 hU9 hU12 hU13
          have e : m_Loads_measure p1 u = (m_Loads_setOff (m_Loads_findNextToShed (f_Loads_measure_52 (f_Loads_measure_39_1 (f_Loads_measure_18 u)))) (1 : Int32) (f_Loads_measure_52 (f_Loads_measure_39_1 (f_Loads_measure_18 u)))) := (if_pos c_1).trans ((if_neg c_2).trans ((if_neg c_6).trans ((if_pos c_8).trans (rfl))))
          exact hk_rv C hAe hP hD hS (by rw [e]) d_Loads_measure_86
        · skip
          refine lv_aload_n hx hb d_Loads_measure_72 rfl (lv_at hl 0 rfl) ?_
          refine lv_iconst (v := (0 : Int32)) hx hb d_Loads_measure_73 (by decide) ?_
          refine hk_put (w2 := wL G a0 a1 a2 a3 (f_Loads_measure_74 U13)) (v := .int (0 : Int32)) (ty := .int) C hP hD hS 0 3 5 i_Loads t_Loads_ok n_Loads rfl rfl (by decide) (hk_in (by decide +kernel) rfl) rfl (by decide +kernel) rfl rfl (Nat.le_of_ble_eq_true rfl) rfl d_Loads_measure_74 (fun H locs hP hD hS => ?_)
          have hI14 : IL (f_Loads_measure_74 U13) := (IL_of (k3_f_Loads_measure_74 _) hI13)
          obtain ⟨U14, hU14⟩ : ∃ z, (f_Loads_measure_74 U13) = z := ⟨_, rfl⟩
          rw [hU14] at hP hD hI14
          refine lv_aload_n hx hb d_Loads_measure_77 rfl (lv_at hl 0 rfl) ?_
          refine lv_aload_n hx hb d_Loads_measure_78 rfl (lv_at hl 0 rfl) ?_
          refine hk_goI (hk_kV (k := 0) (As := []) (rest := [.ref a0]) C (c_Loads_findNextToRestore l G a0 a1 a2 a3 U14 hI14 _) Y_Loads_findNextToRestore (hk_in (by decide +kernel) rfl) rfl rfl ⟨Nat.le_of_ble_eq_true rfl, Nat.le_of_ble_eq_true rfl⟩ (va_recv hE.1 hP (ci := 3) (q0 := 0) rfl rfl) hP hD rfl hl.1 rfl (Nat.le_of_ble_eq_true rfl) d_Loads_measure_79 ⟨Nat.zero_le _, Nat.zero_le _⟩) hD hS hA (fun H locs hP hD hS => ?_)
          refine lv_iconst (v := (0 : Int32)) hx hb d_Loads_measure_82 (by decide) ?_
          refine hk_goV (hk_kV (k := 2) (As := [.int (m_Loads_findNextToRestore U14), .int (0 : Int32)]) (rest := []) C (c_Loads_setOff l G a0 a1 a2 a3 U14 (m_Loads_findNextToRestore U14) (0 : Int32) hI14 (Or.inl rfl) (fr_rest hI14) _) Y_Loads_setOff (hk_in (by decide +kernel) rfl) rfl rfl ⟨Nat.le_of_ble_eq_true rfl, Nat.le_of_ble_eq_true rfl⟩ (va_recv hE.1 hP (ci := 3) (q0 := 0) rfl rfl) hP hD rfl hl.1 rfl (Nat.le_of_ble_eq_true rfl) d_Loads_measure_83 ⟨Nat.zero_le _, Nat.zero_le _⟩) hD hS hA (fun H locs hP hD hS => ?_)
          have hI15 : IL (m_Loads_setOff (m_Loads_findNextToRestore U14) (0 : Int32) U14) := (km_Loads_setOff hI14)
          obtain ⟨U15, hU15⟩ : ∃ z, (m_Loads_setOff (m_Loads_findNextToRestore U14) (0 : Int32) U14) = z := ⟨_, rfl⟩
          rw [hU15] at hP hD hI15
          subst hU1 hU9 hU12 hU13 hU14 hU15
          have e : m_Loads_measure p1 u = (m_Loads_setOff (m_Loads_findNextToRestore (f_Loads_measure_74 (m_Loads_setOff (m_Loads_findNextToShed (f_Loads_measure_52 (f_Loads_measure_39_1 (f_Loads_measure_18 u)))) (1 : Int32) (f_Loads_measure_52 (f_Loads_measure_39_1 (f_Loads_measure_18 u)))))) (0 : Int32) (f_Loads_measure_74 (m_Loads_setOff (m_Loads_findNextToShed (f_Loads_measure_52 (f_Loads_measure_39_1 (f_Loads_measure_18 u)))) (1 : Int32) (f_Loads_measure_52 (f_Loads_measure_39_1 (f_Loads_measure_18 u)))))) := (if_pos c_1).trans ((if_neg c_2).trans ((if_neg c_6).trans ((if_neg c_8).trans (rfl))))
          exact hk_rv C hAe hP hD hS (by rw [e]) d_Loads_measure_86
  · skip
    refine lv_aload_n hx hb d_Loads_measure_8 rfl (lv_at hl 0 rfl) ?_
    refine hk_get (v := .int (l4 u)) C hP 0 3 4 i_Loads rfl rfl (by decide) (hk_in (by decide +kernel) rfl) rfl d_Loads_measure_9 ?_
    refine lv_iconst (v := (1 : Int32)) hx hb d_Loads_measure_12 (by decide) ?_
    refine lv_iadd hx hb d_Loads_measure_13 ?_
    refine lv_goto (tgt := 18) hx hb d_Loads_measure_14 (by decide) ?_
    refine hk_put (w2 := wL G a0 a1 a2 a3 (f_Loads_measure_18_1 u)) (v := .int ((l4 u) + (1 : Int32))) (ty := .int) C hP hD hS 0 3 4 i_Loads t_Loads_ok n_Loads rfl rfl (by decide) (hk_in (by decide +kernel) rfl) rfl (by decide +kernel) rfl rfl (Nat.le_of_ble_eq_true rfl) rfl d_Loads_measure_18 (fun H locs hP hD hS => ?_)
    have hI16 : IL (f_Loads_measure_18_1 u) := (IL_of (k3_f_Loads_measure_18_1 _) hI)
    obtain ⟨U16, hU16⟩ : ∃ z, (f_Loads_measure_18_1 u) = z := ⟨_, rfl⟩
    rw [hU16] at hP hD hI16
    refine lv_aload_n hx hb d_Loads_measure_21 rfl (lv_at hl 0 rfl) ?_
    refine lv_iload_n hx hb d_Loads_measure_22 rfl (lv_at hl 1 rfl) ?_
    refine lv_sipush (v := (12500 : Int32)) hx hb d_Loads_measure_23 (by decide) ?_
    refine lv_icmp_le (tgt := 38) hx hb d_Loads_measure_26 (by decide) (fun c_9 => ?_) (fun c_9 => ?_)
    · skip
      refine lv_iconst (v := (0 : Int32)) hx hb d_Loads_measure_38 (by decide) ?_
      refine hk_put (w2 := wL G a0 a1 a2 a3 (f_Loads_measure_39 U16)) (v := .int (0 : Int32)) (ty := .int) C hP hD hS 0 3 5 i_Loads t_Loads_ok n_Loads rfl rfl (by decide) (hk_in (by decide +kernel) rfl) rfl (by decide +kernel) rfl rfl (Nat.le_of_ble_eq_true rfl) rfl d_Loads_measure_39 (fun H locs hP hD hS => ?_)
      have hI17 : IL (f_Loads_measure_39 U16) := (IL_of (k3_f_Loads_measure_39 _) hI16)
      obtain ⟨U17, hU17⟩ : ∃ z, (f_Loads_measure_39 U16) = z := ⟨_, rfl⟩
      rw [hU17] at hP hD hI17
      refine lv_aload_n hx hb d_Loads_measure_42 rfl (lv_at hl 0 rfl) ?_
      refine hk_get (v := .int (l4 U17)) C hP 0 3 4 i_Loads rfl rfl (by decide) (hk_in (by decide +kernel) rfl) rfl d_Loads_measure_43 ?_
      refine lv_iconst (v := (3 : Int32)) hx hb d_Loads_measure_46 (by decide) ?_
      refine lv_icmp_lt (tgt := 64) hx hb d_Loads_measure_47 (by decide) (fun c_10 => ?_) (fun c_10 => ?_)
      · skip
        refine lv_aload_n hx hb d_Loads_measure_64 rfl (lv_at hl 0 rfl) ?_
        refine hk_get (v := .int (l5 U17)) C hP 0 3 5 i_Loads rfl rfl (by decide) (hk_in (by decide +kernel) rfl) rfl d_Loads_measure_65 ?_
        refine lv_iconst (v := (3 : Int32)) hx hb d_Loads_measure_68 (by decide) ?_
        refine lv_icmp_lt (tgt := 86) hx hb d_Loads_measure_69 (by decide) (fun c_11 => ?_) (fun c_11 => ?_)
        · skip
          subst hU16 hU17
          have e : m_Loads_measure p1 u = (f_Loads_measure_39 (f_Loads_measure_18_1 u)) := (if_neg c_1).trans ((if_pos c_9).trans ((if_pos c_10).trans ((if_pos c_11).trans (rfl))))
          exact hk_rv C hAe hP hD hS (by rw [e]) d_Loads_measure_86
        · skip
          refine lv_aload_n hx hb d_Loads_measure_72 rfl (lv_at hl 0 rfl) ?_
          refine lv_iconst (v := (0 : Int32)) hx hb d_Loads_measure_73 (by decide) ?_
          refine hk_put (w2 := wL G a0 a1 a2 a3 (f_Loads_measure_74 U17)) (v := .int (0 : Int32)) (ty := .int) C hP hD hS 0 3 5 i_Loads t_Loads_ok n_Loads rfl rfl (by decide) (hk_in (by decide +kernel) rfl) rfl (by decide +kernel) rfl rfl (Nat.le_of_ble_eq_true rfl) rfl d_Loads_measure_74 (fun H locs hP hD hS => ?_)
          have hI18 : IL (f_Loads_measure_74 U17) := (IL_of (k3_f_Loads_measure_74 _) hI17)
          obtain ⟨U18, hU18⟩ : ∃ z, (f_Loads_measure_74 U17) = z := ⟨_, rfl⟩
          rw [hU18] at hP hD hI18
          refine lv_aload_n hx hb d_Loads_measure_77 rfl (lv_at hl 0 rfl) ?_
          refine lv_aload_n hx hb d_Loads_measure_78 rfl (lv_at hl 0 rfl) ?_
          refine hk_goI (hk_kV (k := 0) (As := []) (rest := [.ref a0]) C (c_Loads_findNextToRestore l G a0 a1 a2 a3 U18 hI18 _) Y_Loads_findNextToRestore (hk_in (by decide +kernel) rfl) rfl rfl ⟨Nat.le_of_ble_eq_true rfl, Nat.le_of_ble_eq_true rfl⟩ (va_recv hE.1 hP (ci := 3) (q0 := 0) rfl rfl) hP hD rfl hl.1 rfl (Nat.le_of_ble_eq_true rfl) d_Loads_measure_79 ⟨Nat.zero_le _, Nat.zero_le _⟩) hD hS hA (fun H locs hP hD hS => ?_)
          refine lv_iconst (v := (0 : Int32)) hx hb d_Loads_measure_82 (by decide) ?_
          refine hk_goV (hk_kV (k := 2) (As := [.int (m_Loads_findNextToRestore U18), .int (0 : Int32)]) (rest := []) C (c_Loads_setOff l G a0 a1 a2 a3 U18 (m_Loads_findNextToRestore U18) (0 : Int32) hI18 (Or.inl rfl) (fr_rest hI18) _) Y_Loads_setOff (hk_in (by decide +kernel) rfl) rfl rfl ⟨Nat.le_of_ble_eq_true rfl, Nat.le_of_ble_eq_true rfl⟩ (va_recv hE.1 hP (ci := 3) (q0 := 0) rfl rfl) hP hD rfl hl.1 rfl (Nat.le_of_ble_eq_true rfl) d_Loads_measure_83 ⟨Nat.zero_le _, Nat.zero_le _⟩) hD hS hA (fun H locs hP hD hS => ?_)
          have hI19 : IL (m_Loads_setOff (m_Loads_findNextToRestore U18) (0 : Int32) U18) := (km_Loads_setOff hI18)
          obtain ⟨U19, hU19⟩ : ∃ z, (m_Loads_setOff (m_Loads_findNextToRestore U18) (0 : Int32) U18) = z := ⟨_, rfl⟩
          rw [hU19] at hP hD hI19
          subst hU16 hU17 hU18 hU19
          have e : m_Loads_measure p1 u = (m_Loads_setOff (m_Loads_findNextToRestore (f_Loads_measure_74 (f_Loads_measure_39 (f_Loads_measure_18_1 u)))) (0 : Int32) (f_Loads_measure_74 (f_Loads_measure_39 (f_Loads_measure_18_1 u)))) := (if_neg c_1).trans ((if_pos c_9).trans ((if_pos c_10).trans ((if_neg c_11).trans (rfl))))
          exact hk_rv C hAe hP hD hS (by rw [e]) d_Loads_measure_86
      · skip
        refine lv_aload_n hx hb d_Loads_measure_50 rfl (lv_at hl 0 rfl) ?_
        refine lv_iconst (v := (0 : Int32)) hx hb d_Loads_measure_51 (by decide) ?_
        refine hk_put (w2 := wL G a0 a1 a2 a3 (f_Loads_measure_52 U17)) (v := .int (0 : Int32)) (ty := .int) C hP hD hS 0 3 4 i_Loads t_Loads_ok n_Loads rfl rfl (by decide) (hk_in (by decide +kernel) rfl) rfl (by decide +kernel) rfl rfl (Nat.le_of_ble_eq_true rfl) rfl d_Loads_measure_52 (fun H locs hP hD hS => ?_)
        have hI20 : IL (f_Loads_measure_52 U17) := (IL_of (k3_f_Loads_measure_52 _) hI17)
        obtain ⟨U20, hU20⟩ : ∃ z, (f_Loads_measure_52 U17) = z := ⟨_, rfl⟩
        rw [hU20] at hP hD hI20
        refine lv_aload_n hx hb d_Loads_measure_55 rfl (lv_at hl 0 rfl) ?_
        refine lv_aload_n hx hb d_Loads_measure_56 rfl (lv_at hl 0 rfl) ?_
        refine hk_goI (hk_kV (k := 0) (As := []) (rest := [.ref a0]) C (c_Loads_findNextToShed l G a0 a1 a2 a3 U20 hI20 _) Y_Loads_findNextToShed (hk_in (by decide +kernel) rfl) rfl rfl ⟨Nat.le_of_ble_eq_true rfl, Nat.le_of_ble_eq_true rfl⟩ (va_recv hE.1 hP (ci := 3) (q0 := 0) rfl rfl) hP hD rfl hl.1 rfl (Nat.le_of_ble_eq_true rfl) d_Loads_measure_57 ⟨Nat.zero_le _, Nat.zero_le _⟩) hD hS hA (fun H locs hP hD hS => ?_)
        refine lv_iconst (v := (1 : Int32)) hx hb d_Loads_measure_60 (by decide) ?_
        refine hk_goV (hk_kV (k := 2) (As := [.int (m_Loads_findNextToShed U20), .int (1 : Int32)]) (rest := []) C (c_Loads_setOff l G a0 a1 a2 a3 U20 (m_Loads_findNextToShed U20) (1 : Int32) hI20 (Or.inr rfl) (fr_shed hI20) _) Y_Loads_setOff (hk_in (by decide +kernel) rfl) rfl rfl ⟨Nat.le_of_ble_eq_true rfl, Nat.le_of_ble_eq_true rfl⟩ (va_recv hE.1 hP (ci := 3) (q0 := 0) rfl rfl) hP hD rfl hl.1 rfl (Nat.le_of_ble_eq_true rfl) d_Loads_measure_61 ⟨Nat.zero_le _, Nat.zero_le _⟩) hD hS hA (fun H locs hP hD hS => ?_)
        have hI21 : IL (m_Loads_setOff (m_Loads_findNextToShed U20) (1 : Int32) U20) := (km_Loads_setOff hI20)
        obtain ⟨U21, hU21⟩ : ∃ z, (m_Loads_setOff (m_Loads_findNextToShed U20) (1 : Int32) U20) = z := ⟨_, rfl⟩
        rw [hU21] at hP hD hI21
        refine lv_aload_n hx hb d_Loads_measure_64 rfl (lv_at hl 0 rfl) ?_
        refine hk_get (v := .int (l5 U21)) C hP 0 3 5 i_Loads rfl rfl (by decide) (hk_in (by decide +kernel) rfl) rfl d_Loads_measure_65 ?_
        refine lv_iconst (v := (3 : Int32)) hx hb d_Loads_measure_68 (by decide) ?_
        refine lv_icmp_lt (tgt := 86) hx hb d_Loads_measure_69 (by decide) (fun c_12 => ?_) (fun c_12 => ?_)
        · skip
          subst hU16 hU17 hU20 hU21
          have e : m_Loads_measure p1 u = (m_Loads_setOff (m_Loads_findNextToShed (f_Loads_measure_52 (f_Loads_measure_39 (f_Loads_measure_18_1 u)))) (1 : Int32) (f_Loads_measure_52 (f_Loads_measure_39 (f_Loads_measure_18_1 u)))) := (if_neg c_1).trans ((if_pos c_9).trans ((if_neg c_10).trans ((if_pos c_12).trans (rfl))))
          exact hk_rv C hAe hP hD hS (by rw [e]) d_Loads_measure_86
        · skip
          refine lv_aload_n hx hb d_Loads_measure_72 rfl (lv_at hl 0 rfl) ?_
          refine lv_iconst (v := (0 : Int32)) hx hb d_Loads_measure_73 (by decide) ?_
          refine hk_put (w2 := wL G a0 a1 a2 a3 (f_Loads_measure_74 U21)) (v := .int (0 : Int32)) (ty := .int) C hP hD hS 0 3 5 i_Loads t_Loads_ok n_Loads rfl rfl (by decide) (hk_in (by decide +kernel) rfl) rfl (by decide +kernel) rfl rfl (Nat.le_of_ble_eq_true rfl) rfl d_Loads_measure_74 (fun H locs hP hD hS => ?_)
          have hI22 : IL (f_Loads_measure_74 U21) := (IL_of (k3_f_Loads_measure_74 _) hI21)
          obtain ⟨U22, hU22⟩ : ∃ z, (f_Loads_measure_74 U21) = z := ⟨_, rfl⟩
          rw [hU22] at hP hD hI22
          refine lv_aload_n hx hb d_Loads_measure_77 rfl (lv_at hl 0 rfl) ?_
          refine lv_aload_n hx hb d_Loads_measure_78 rfl (lv_at hl 0 rfl) ?_
          refine hk_goI (hk_kV (k := 0) (As := []) (rest := [.ref a0]) C (c_Loads_findNextToRestore l G a0 a1 a2 a3 U22 hI22 _) Y_Loads_findNextToRestore (hk_in (by decide +kernel) rfl) rfl rfl ⟨Nat.le_of_ble_eq_true rfl, Nat.le_of_ble_eq_true rfl⟩ (va_recv hE.1 hP (ci := 3) (q0 := 0) rfl rfl) hP hD rfl hl.1 rfl (Nat.le_of_ble_eq_true rfl) d_Loads_measure_79 ⟨Nat.zero_le _, Nat.zero_le _⟩) hD hS hA (fun H locs hP hD hS => ?_)
          refine lv_iconst (v := (0 : Int32)) hx hb d_Loads_measure_82 (by decide) ?_
          refine hk_goV (hk_kV (k := 2) (As := [.int (m_Loads_findNextToRestore U22), .int (0 : Int32)]) (rest := []) C (c_Loads_setOff l G a0 a1 a2 a3 U22 (m_Loads_findNextToRestore U22) (0 : Int32) hI22 (Or.inl rfl) (fr_rest hI22) _) Y_Loads_setOff (hk_in (by decide +kernel) rfl) rfl rfl ⟨Nat.le_of_ble_eq_true rfl, Nat.le_of_ble_eq_true rfl⟩ (va_recv hE.1 hP (ci := 3) (q0 := 0) rfl rfl) hP hD rfl hl.1 rfl (Nat.le_of_ble_eq_true rfl) d_Loads_measure_83 ⟨Nat.zero_le _, Nat.zero_le _⟩) hD hS hA (fun H locs hP hD hS => ?_)
          have hI23 : IL (m_Loads_setOff (m_Loads_findNextToRestore U22) (0 : Int32) U22) := (km_Loads_setOff hI22)
          obtain ⟨U23, hU23⟩ : ∃ z, (m_Loads_setOff (m_Loads_findNextToRestore U22) (0 : Int32) U22) = z := ⟨_, rfl⟩
          rw [hU23] at hP hD hI23
          subst hU16 hU17 hU20 hU21 hU22 hU23
          have e : m_Loads_measure p1 u = (m_Loads_setOff (m_Loads_findNextToRestore (f_Loads_measure_74 (m_Loads_setOff (m_Loads_findNextToShed (f_Loads_measure_52 (f_Loads_measure_39 (f_Loads_measure_18_1 u)))) (1 : Int32) (f_Loads_measure_52 (f_Loads_measure_39 (f_Loads_measure_18_1 u)))))) (0 : Int32) (f_Loads_measure_74 (m_Loads_setOff (m_Loads_findNextToShed (f_Loads_measure_52 (f_Loads_measure_39 (f_Loads_measure_18_1 u)))) (1 : Int32) (f_Loads_measure_52 (f_Loads_measure_39 (f_Loads_measure_18_1 u)))))) := (if_neg c_1).trans ((if_pos c_9).trans ((if_neg c_10).trans ((if_neg c_12).trans (rfl))))
          exact hk_rv C hAe hP hD hS (by rw [e]) d_Loads_measure_86
    · skip
      refine lv_aload_n hx hb d_Loads_measure_29 rfl (lv_at hl 0 rfl) ?_
      refine hk_get (v := .int (l5 U16)) C hP 0 3 5 i_Loads rfl rfl (by decide) (hk_in (by decide +kernel) rfl) rfl d_Loads_measure_30 ?_
      refine lv_iconst (v := (1 : Int32)) hx hb d_Loads_measure_33 (by decide) ?_
      refine lv_iadd hx hb d_Loads_measure_34 ?_
      refine lv_goto (tgt := 39) hx hb d_Loads_measure_35 (by decide) ?_
      refine hk_put (w2 := wL G a0 a1 a2 a3 (f_Loads_measure_39_1 U16)) (v := .int ((l5 U16) + (1 : Int32))) (ty := .int) C hP hD hS 0 3 5 i_Loads t_Loads_ok n_Loads rfl rfl (by decide) (hk_in (by decide +kernel) rfl) rfl (by decide +kernel) rfl rfl (Nat.le_of_ble_eq_true rfl) rfl d_Loads_measure_39 (fun H locs hP hD hS => ?_)
      have hI24 : IL (f_Loads_measure_39_1 U16) := (IL_of (k3_f_Loads_measure_39_1 _) hI16)
      obtain ⟨U24, hU24⟩ : ∃ z, (f_Loads_measure_39_1 U16) = z := ⟨_, rfl⟩
      rw [hU24] at hP hD hI24
      refine lv_aload_n hx hb d_Loads_measure_42 rfl (lv_at hl 0 rfl) ?_
      refine hk_get (v := .int (l4 U24)) C hP 0 3 4 i_Loads rfl rfl (by decide) (hk_in (by decide +kernel) rfl) rfl d_Loads_measure_43 ?_
      refine lv_iconst (v := (3 : Int32)) hx hb d_Loads_measure_46 (by decide) ?_
      refine lv_icmp_lt (tgt := 64) hx hb d_Loads_measure_47 (by decide) (fun c_13 => ?_) (fun c_13 => ?_)
      · skip
        refine lv_aload_n hx hb d_Loads_measure_64 rfl (lv_at hl 0 rfl) ?_
        refine hk_get (v := .int (l5 U24)) C hP 0 3 5 i_Loads rfl rfl (by decide) (hk_in (by decide +kernel) rfl) rfl d_Loads_measure_65 ?_
        refine lv_iconst (v := (3 : Int32)) hx hb d_Loads_measure_68 (by decide) ?_
        refine lv_icmp_lt (tgt := 86) hx hb d_Loads_measure_69 (by decide) (fun c_14 => ?_) (fun c_14 => ?_)
        · skip
          subst hU16 hU24
          have e : m_Loads_measure p1 u = (f_Loads_measure_39_1 (f_Loads_measure_18_1 u)) := (if_neg c_1).trans ((if_neg c_9).trans ((if_pos c_13).trans ((if_pos c_14).trans (rfl))))
          exact hk_rv C hAe hP hD hS (by rw [e]) d_Loads_measure_86
        · skip
          refine lv_aload_n hx hb d_Loads_measure_72 rfl (lv_at hl 0 rfl) ?_
          refine lv_iconst (v := (0 : Int32)) hx hb d_Loads_measure_73 (by decide) ?_
          refine hk_put (w2 := wL G a0 a1 a2 a3 (f_Loads_measure_74 U24)) (v := .int (0 : Int32)) (ty := .int) C hP hD hS 0 3 5 i_Loads t_Loads_ok n_Loads rfl rfl (by decide) (hk_in (by decide +kernel) rfl) rfl (by decide +kernel) rfl rfl (Nat.le_of_ble_eq_true rfl) rfl d_Loads_measure_74 (fun H locs hP hD hS => ?_)
          have hI25 : IL (f_Loads_measure_74 U24) := (IL_of (k3_f_Loads_measure_74 _) hI24)
          obtain ⟨U25, hU25⟩ : ∃ z, (f_Loads_measure_74 U24) = z := ⟨_, rfl⟩
          rw [hU25] at hP hD hI25
          refine lv_aload_n hx hb d_Loads_measure_77 rfl (lv_at hl 0 rfl) ?_
          refine lv_aload_n hx hb d_Loads_measure_78 rfl (lv_at hl 0 rfl) ?_
          refine hk_goI (hk_kV (k := 0) (As := []) (rest := [.ref a0]) C (c_Loads_findNextToRestore l G a0 a1 a2 a3 U25 hI25 _) Y_Loads_findNextToRestore (hk_in (by decide +kernel) rfl) rfl rfl ⟨Nat.le_of_ble_eq_true rfl, Nat.le_of_ble_eq_true rfl⟩ (va_recv hE.1 hP (ci := 3) (q0 := 0) rfl rfl) hP hD rfl hl.1 rfl (Nat.le_of_ble_eq_true rfl) d_Loads_measure_79 ⟨Nat.zero_le _, Nat.zero_le _⟩) hD hS hA (fun H locs hP hD hS => ?_)
          refine lv_iconst (v := (0 : Int32)) hx hb d_Loads_measure_82 (by decide) ?_
          refine hk_goV (hk_kV (k := 2) (As := [.int (m_Loads_findNextToRestore U25), .int (0 : Int32)]) (rest := []) C (c_Loads_setOff l G a0 a1 a2 a3 U25 (m_Loads_findNextToRestore U25) (0 : Int32) hI25 (Or.inl rfl) (fr_rest hI25) _) Y_Loads_setOff (hk_in (by decide +kernel) rfl) rfl rfl ⟨Nat.le_of_ble_eq_true rfl, Nat.le_of_ble_eq_true rfl⟩ (va_recv hE.1 hP (ci := 3) (q0 := 0) rfl rfl) hP hD rfl hl.1 rfl (Nat.le_of_ble_eq_true rfl) d_Loads_measure_83 ⟨Nat.zero_le _, Nat.zero_le _⟩) hD hS hA (fun H locs hP hD hS => ?_)
          have hI26 : IL (m_Loads_setOff (m_Loads_findNextToRestore U25) (0 : Int32) U25) := (km_Loads_setOff hI25)
          obtain ⟨U26, hU26⟩ : ∃ z, (m_Loads_setOff (m_Loads_findNextToRestore U25) (0 : Int32) U25) = z := ⟨_, rfl⟩
          rw [hU26] at hP hD hI26
          subst hU16 hU24 hU25 hU26
          have e : m_Loads_measure p1 u = (m_Loads_setOff (m_Loads_findNextToRestore (f_Loads_measure_74 (f_Loads_measure_39_1 (f_Loads_measure_18_1 u)))) (0 : Int32) (f_Loads_measure_74 (f_Loads_measure_39_1 (f_Loads_measure_18_1 u)))) := (if_neg c_1).trans ((if_neg c_9).trans ((if_pos c_13).trans ((if_neg c_14).trans (rfl))))
          exact hk_rv C hAe hP hD hS (by rw [e]) d_Loads_measure_86
      · skip
        refine lv_aload_n hx hb d_Loads_measure_50 rfl (lv_at hl 0 rfl) ?_
        refine lv_iconst (v := (0 : Int32)) hx hb d_Loads_measure_51 (by decide) ?_
        refine hk_put (w2 := wL G a0 a1 a2 a3 (f_Loads_measure_52 U24)) (v := .int (0 : Int32)) (ty := .int) C hP hD hS 0 3 4 i_Loads t_Loads_ok n_Loads rfl rfl (by decide) (hk_in (by decide +kernel) rfl) rfl (by decide +kernel) rfl rfl (Nat.le_of_ble_eq_true rfl) rfl d_Loads_measure_52 (fun H locs hP hD hS => ?_)
        have hI27 : IL (f_Loads_measure_52 U24) := (IL_of (k3_f_Loads_measure_52 _) hI24)
        obtain ⟨U27, hU27⟩ : ∃ z, (f_Loads_measure_52 U24) = z := ⟨_, rfl⟩
        rw [hU27] at hP hD hI27
        refine lv_aload_n hx hb d_Loads_measure_55 rfl (lv_at hl 0 rfl) ?_
        refine lv_aload_n hx hb d_Loads_measure_56 rfl (lv_at hl 0 rfl) ?_
        refine hk_goI (hk_kV (k := 0) (As := []) (rest := [.ref a0]) C (c_Loads_findNextToShed l G a0 a1 a2 a3 U27 hI27 _) Y_Loads_findNextToShed (hk_in (by decide +kernel) rfl) rfl rfl ⟨Nat.le_of_ble_eq_true rfl, Nat.le_of_ble_eq_true rfl⟩ (va_recv hE.1 hP (ci := 3) (q0 := 0) rfl rfl) hP hD rfl hl.1 rfl (Nat.le_of_ble_eq_true rfl) d_Loads_measure_57 ⟨Nat.zero_le _, Nat.zero_le _⟩) hD hS hA (fun H locs hP hD hS => ?_)
        refine lv_iconst (v := (1 : Int32)) hx hb d_Loads_measure_60 (by decide) ?_
        refine hk_goV (hk_kV (k := 2) (As := [.int (m_Loads_findNextToShed U27), .int (1 : Int32)]) (rest := []) C (c_Loads_setOff l G a0 a1 a2 a3 U27 (m_Loads_findNextToShed U27) (1 : Int32) hI27 (Or.inr rfl) (fr_shed hI27) _) Y_Loads_setOff (hk_in (by decide +kernel) rfl) rfl rfl ⟨Nat.le_of_ble_eq_true rfl, Nat.le_of_ble_eq_true rfl⟩ (va_recv hE.1 hP (ci := 3) (q0 := 0) rfl rfl) hP hD rfl hl.1 rfl (Nat.le_of_ble_eq_true rfl) d_Loads_measure_61 ⟨Nat.zero_le _, Nat.zero_le _⟩) hD hS hA (fun H locs hP hD hS => ?_)
        have hI28 : IL (m_Loads_setOff (m_Loads_findNextToShed U27) (1 : Int32) U27) := (km_Loads_setOff hI27)
        obtain ⟨U28, hU28⟩ : ∃ z, (m_Loads_setOff (m_Loads_findNextToShed U27) (1 : Int32) U27) = z := ⟨_, rfl⟩
        rw [hU28] at hP hD hI28
        refine lv_aload_n hx hb d_Loads_measure_64 rfl (lv_at hl 0 rfl) ?_
        refine hk_get (v := .int (l5 U28)) C hP 0 3 5 i_Loads rfl rfl (by decide) (hk_in (by decide +kernel) rfl) rfl d_Loads_measure_65 ?_
        refine lv_iconst (v := (3 : Int32)) hx hb d_Loads_measure_68 (by decide) ?_
        refine lv_icmp_lt (tgt := 86) hx hb d_Loads_measure_69 (by decide) (fun c_15 => ?_) (fun c_15 => ?_)
        · skip
          subst hU16 hU24 hU27 hU28
          have e : m_Loads_measure p1 u = (m_Loads_setOff (m_Loads_findNextToShed (f_Loads_measure_52 (f_Loads_measure_39_1 (f_Loads_measure_18_1 u)))) (1 : Int32) (f_Loads_measure_52 (f_Loads_measure_39_1 (f_Loads_measure_18_1 u)))) := (if_neg c_1).trans ((if_neg c_9).trans ((if_neg c_13).trans ((if_pos c_15).trans (rfl))))
          exact hk_rv C hAe hP hD hS (by rw [e]) d_Loads_measure_86
        · skip
          refine lv_aload_n hx hb d_Loads_measure_72 rfl (lv_at hl 0 rfl) ?_
          refine lv_iconst (v := (0 : Int32)) hx hb d_Loads_measure_73 (by decide) ?_
          refine hk_put (w2 := wL G a0 a1 a2 a3 (f_Loads_measure_74 U28)) (v := .int (0 : Int32)) (ty := .int) C hP hD hS 0 3 5 i_Loads t_Loads_ok n_Loads rfl rfl (by decide) (hk_in (by decide +kernel) rfl) rfl (by decide +kernel) rfl rfl (Nat.le_of_ble_eq_true rfl) rfl d_Loads_measure_74 (fun H locs hP hD hS => ?_)
          have hI29 : IL (f_Loads_measure_74 U28) := (IL_of (k3_f_Loads_measure_74 _) hI28)
          obtain ⟨U29, hU29⟩ : ∃ z, (f_Loads_measure_74 U28) = z := ⟨_, rfl⟩
          rw [hU29] at hP hD hI29
          refine lv_aload_n hx hb d_Loads_measure_77 rfl (lv_at hl 0 rfl) ?_
          refine lv_aload_n hx hb d_Loads_measure_78 rfl (lv_at hl 0 rfl) ?_
          refine hk_goI (hk_kV (k := 0) (As := []) (rest := [.ref a0]) C (c_Loads_findNextToRestore l G a0 a1 a2 a3 U29 hI29 _) Y_Loads_findNextToRestore (hk_in (by decide +kernel) rfl) rfl rfl ⟨Nat.le_of_ble_eq_true rfl, Nat.le_of_ble_eq_true rfl⟩ (va_recv hE.1 hP (ci := 3) (q0 := 0) rfl rfl) hP hD rfl hl.1 rfl (Nat.le_of_ble_eq_true rfl) d_Loads_measure_79 ⟨Nat.zero_le _, Nat.zero_le _⟩) hD hS hA (fun H locs hP hD hS => ?_)
          refine lv_iconst (v := (0 : Int32)) hx hb d_Loads_measure_82 (by decide) ?_
          refine hk_goV (hk_kV (k := 2) (As := [.int (m_Loads_findNextToRestore U29), .int (0 : Int32)]) (rest := []) C (c_Loads_setOff l G a0 a1 a2 a3 U29 (m_Loads_findNextToRestore U29) (0 : Int32) hI29 (Or.inl rfl) (fr_rest hI29) _) Y_Loads_setOff (hk_in (by decide +kernel) rfl) rfl rfl ⟨Nat.le_of_ble_eq_true rfl, Nat.le_of_ble_eq_true rfl⟩ (va_recv hE.1 hP (ci := 3) (q0 := 0) rfl rfl) hP hD rfl hl.1 rfl (Nat.le_of_ble_eq_true rfl) d_Loads_measure_83 ⟨Nat.zero_le _, Nat.zero_le _⟩) hD hS hA (fun H locs hP hD hS => ?_)
          have hI30 : IL (m_Loads_setOff (m_Loads_findNextToRestore U29) (0 : Int32) U29) := (km_Loads_setOff hI29)
          obtain ⟨U30, hU30⟩ : ∃ z, (m_Loads_setOff (m_Loads_findNextToRestore U29) (0 : Int32) U29) = z := ⟨_, rfl⟩
          rw [hU30] at hP hD hI30
          subst hU16 hU24 hU27 hU28 hU29 hU30
          have e : m_Loads_measure p1 u = (m_Loads_setOff (m_Loads_findNextToRestore (f_Loads_measure_74 (m_Loads_setOff (m_Loads_findNextToShed (f_Loads_measure_52 (f_Loads_measure_39_1 (f_Loads_measure_18_1 u)))) (1 : Int32) (f_Loads_measure_52 (f_Loads_measure_39_1 (f_Loads_measure_18_1 u)))))) (0 : Int32) (f_Loads_measure_74 (m_Loads_setOff (m_Loads_findNextToShed (f_Loads_measure_52 (f_Loads_measure_39_1 (f_Loads_measure_18_1 u)))) (1 : Int32) (f_Loads_measure_52 (f_Loads_measure_39_1 (f_Loads_measure_18_1 u)))))) := (if_neg c_1).trans ((if_neg c_9).trans ((if_neg c_13).trans ((if_neg c_15).trans (rfl))))
          exact hk_rv C hAe hP hD hS (by rw [e]) d_Loads_measure_86
