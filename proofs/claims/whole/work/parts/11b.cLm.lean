theorem Y_Loads_measure : hk_Y y_Loads_measure b_Loads_measure 2 none 1 := ⟨hk_in (by decide +kernel) rfl, hk_in (by decide +kernel) rfl, hk_in (by decide +kernel) rfl, hk_in (List.mem_of_getElem? (i := 351) rfl) rfl, by decide, by decide, by decide +kernel⟩
abbrev rm_Loads_measure : Room := { frames := 1, cells := 0, slots := 0, locals := 22 }
set_option maxHeartbeats 4000000 in
set_option maxRecDepth 100000 in
theorem c_Loads_measure (l : Launch) (G : hk_G) (a0 a1 a2 a3 : Nat) (u : cL) (p1 : Int32) (hI : IL u) : hk_V l G y_Loads_measure b_Loads_measure 2 rm_Loads_measure [.ref a0, .int p1] (wL G a0 a1 a2 a3 u) (wL G a0 a1 a2 a3 (m_Loads_measure p1 u)) := by
  refine hk_V_of (by decide) (Nat.le_of_ble_eq_true rfl) ?_
  intro p e s m below meth c A ls C hAe hA hP hD hS hl
  have hx := C.1
  have hb := C.2.1
  have hown := C.2.2.2.2.1
  have hts := C.2.2.2.2.2.1
  have hE := C.2.2.2.2.2.2.2
  have hl : lv_has ls 2 [(0, .ref a0), (1, .int p1)] := hl
  refine lv_aload_n hx hb d_Loads_measure_0 rfl (lv_at hl 0 rfl) ?_
  refine lv_iload_n hx hb d_Loads_measure_1 rfl (lv_at hl 1 rfl) ?_
  refine lv_sipush (v := (11500 : Int32)) hx hb d_Loads_measure_2 (by decide) ?_
  refine lv_icmp_ge (tgt := 17) hx hb d_Loads_measure_5 (by decide) (fun c_1 => ?_) (fun c_1 => ?_)
  · skip
    refine lv_iconst (v := (0 : Int32)) hx hb d_Loads_measure_17 (by decide) ?_
    refine hk_put (w2 := wL G a0 a1 a2 a3 (f_Loads_measure_18 u)) (v := .int (0 : Int32)) (ty := .int) C hP hD hS 0 3 4 i_Loads t_Loads_ok n_Loads rfl rfl (by decide) (hk_in (by decide +kernel) rfl) rfl (by decide +kernel) rfl rfl (Nat.le_of_ble_eq_true rfl) rfl d_Loads_measure_18 (fun H locs hP hD hS => ?_)
    refine lv_aload_n hx hb d_Loads_measure_21 rfl (lv_at hl 0 rfl) ?_
    refine lv_iload_n hx hb d_Loads_measure_22 rfl (lv_at hl 1 rfl) ?_
    refine lv_sipush (v := (12500 : Int32)) hx hb d_Loads_measure_23 (by decide) ?_
    refine lv_icmp_le (tgt := 38) hx hb d_Loads_measure_26 (by decide) (fun c_2 => ?_) (fun c_2 => ?_)
    · skip
      refine lv_iconst (v := (0 : Int32)) hx hb d_Loads_measure_38 (by decide) ?_
      refine hk_put (w2 := wL G a0 a1 a2 a3 (f_Loads_measure_39 (f_Loads_measure_18 u))) (v := .int (0 : Int32)) (ty := .int) C hP hD hS 0 3 5 i_Loads t_Loads_ok n_Loads rfl rfl (by decide) (hk_in (by decide +kernel) rfl) rfl (by decide +kernel) rfl rfl (Nat.le_of_ble_eq_true rfl) rfl d_Loads_measure_39 (fun H locs hP hD hS => ?_)
      refine lv_aload_n hx hb d_Loads_measure_42 rfl (lv_at hl 0 rfl) ?_
      refine hk_get (v := .int (l4 (f_Loads_measure_39 (f_Loads_measure_18 u)))) C hP 0 3 4 i_Loads rfl rfl (by decide) (hk_in (by decide +kernel) rfl) rfl d_Loads_measure_43 ?_
      refine lv_iconst (v := (3 : Int32)) hx hb d_Loads_measure_46 (by decide) ?_
      refine lv_icmp_lt (tgt := 64) hx hb d_Loads_measure_47 (by decide) (fun c_3 => ?_) (fun c_3 => ?_)
      · skip
        refine lv_aload_n hx hb d_Loads_measure_64 rfl (lv_at hl 0 rfl) ?_
        refine hk_get (v := .int (l5 (f_Loads_measure_39 (f_Loads_measure_18 u)))) C hP 0 3 5 i_Loads rfl rfl (by decide) (hk_in (by decide +kernel) rfl) rfl d_Loads_measure_65 ?_
        refine lv_iconst (v := (3 : Int32)) hx hb d_Loads_measure_68 (by decide) ?_
        refine lv_icmp_lt (tgt := 86) hx hb d_Loads_measure_69 (by decide) (fun c_4 => ?_) (fun c_4 => ?_)
        · skip
          have e : m_Loads_measure p1 u = (f_Loads_measure_39 (f_Loads_measure_18 u)) := (if_pos c_1).trans ((if_pos c_2).trans ((if_pos c_3).trans ((if_pos c_4).trans (rfl))))
          exact hk_rv C hAe hP hD hS (by rw [e]) d_Loads_measure_86
        · skip
          refine lv_aload_n hx hb d_Loads_measure_72 rfl (lv_at hl 0 rfl) ?_
          refine lv_iconst (v := (0 : Int32)) hx hb d_Loads_measure_73 (by decide) ?_
          refine hk_put (w2 := wL G a0 a1 a2 a3 (f_Loads_measure_74 (f_Loads_measure_39 (f_Loads_measure_18 u)))) (v := .int (0 : Int32)) (ty := .int) C hP hD hS 0 3 5 i_Loads t_Loads_ok n_Loads rfl rfl (by decide) (hk_in (by decide +kernel) rfl) rfl (by decide +kernel) rfl rfl (Nat.le_of_ble_eq_true rfl) rfl d_Loads_measure_74 (fun H locs hP hD hS => ?_)
          refine lv_aload_n hx hb d_Loads_measure_77 rfl (lv_at hl 0 rfl) ?_
          refine lv_aload_n hx hb d_Loads_measure_78 rfl (lv_at hl 0 rfl) ?_
          refine hk_goI (hk_kV (k := 0) (As := []) (rest := [.ref a0]) C (c_Loads_findNextToRestore l G a0 a1 a2 a3 (f_Loads_measure_74 (f_Loads_measure_39 (f_Loads_measure_18 u))) (IL_of (k3_f_Loads_measure_74 _) (IL_of (k3_f_Loads_measure_39 _) (IL_of (k3_f_Loads_measure_18 _) hI))) _) Y_Loads_findNextToRestore (hk_in (by decide +kernel) rfl) rfl rfl ⟨Nat.le_of_ble_eq_true rfl, Nat.le_of_ble_eq_true rfl⟩ (va_recv hE.1 hP (ci := 3) (q0 := 0) rfl rfl) hP hD rfl hl.1 rfl (Nat.le_of_ble_eq_true rfl) d_Loads_measure_79 ⟨Nat.zero_le _, Nat.zero_le _⟩) hD hS hA (fun H locs hP hD hS => ?_)
          refine lv_iconst (v := (0 : Int32)) hx hb d_Loads_measure_82 (by decide) ?_
          refine hk_goV (hk_kV (k := 2) (As := [.int (m_Loads_findNextToRestore (f_Loads_measure_74 (f_Loads_measure_39 (f_Loads_measure_18 u)))), .int (0 : Int32)]) (rest := []) C (c_Loads_setOff l G a0 a1 a2 a3 (f_Loads_measure_74 (f_Loads_measure_39 (f_Loads_measure_18 u))) (m_Loads_findNextToRestore (f_Loads_measure_74 (f_Loads_measure_39 (f_Loads_measure_18 u)))) (0 : Int32) (IL_of (k3_f_Loads_measure_74 _) (IL_of (k3_f_Loads_measure_39 _) (IL_of (k3_f_Loads_measure_18 _) hI))) (Or.inl rfl) (fr_rest (IL_of (k3_f_Loads_measure_74 _) (IL_of (k3_f_Loads_measure_39 _) (IL_of (k3_f_Loads_measure_18 _) hI)))) _) Y_Loads_setOff (hk_in (by decide +kernel) rfl) rfl rfl ⟨Nat.le_of_ble_eq_true rfl, Nat.le_of_ble_eq_true rfl⟩ (va_recv hE.1 hP (ci := 3) (q0 := 0) rfl rfl) hP hD rfl hl.1 rfl (Nat.le_of_ble_eq_true rfl) d_Loads_measure_83 ⟨Nat.zero_le _, Nat.zero_le _⟩) hD hS hA (fun H locs hP hD hS => ?_)
          have e : m_Loads_measure p1 u = (m_Loads_setOff (m_Loads_findNextToRestore (f_Loads_measure_74 (f_Loads_measure_39 (f_Loads_measure_18 u)))) (0 : Int32) (f_Loads_measure_74 (f_Loads_measure_39 (f_Loads_measure_18 u)))) := (if_pos c_1).trans ((if_pos c_2).trans ((if_pos c_3).trans ((if_neg c_4).trans (rfl))))
          exact hk_rv C hAe hP hD hS (by rw [e]) d_Loads_measure_86
      · skip
        refine lv_aload_n hx hb d_Loads_measure_50 rfl (lv_at hl 0 rfl) ?_
        refine lv_iconst (v := (0 : Int32)) hx hb d_Loads_measure_51 (by decide) ?_
        refine hk_put (w2 := wL G a0 a1 a2 a3 (f_Loads_measure_52 (f_Loads_measure_39 (f_Loads_measure_18 u)))) (v := .int (0 : Int32)) (ty := .int) C hP hD hS 0 3 4 i_Loads t_Loads_ok n_Loads rfl rfl (by decide) (hk_in (by decide +kernel) rfl) rfl (by decide +kernel) rfl rfl (Nat.le_of_ble_eq_true rfl) rfl d_Loads_measure_52 (fun H locs hP hD hS => ?_)
        refine lv_aload_n hx hb d_Loads_measure_55 rfl (lv_at hl 0 rfl) ?_
        refine lv_aload_n hx hb d_Loads_measure_56 rfl (lv_at hl 0 rfl) ?_
        refine hk_goI (hk_kV (k := 0) (As := []) (rest := [.ref a0]) C (c_Loads_findNextToShed l G a0 a1 a2 a3 (f_Loads_measure_52 (f_Loads_measure_39 (f_Loads_measure_18 u))) (IL_of (k3_f_Loads_measure_52 _) (IL_of (k3_f_Loads_measure_39 _) (IL_of (k3_f_Loads_measure_18 _) hI))) _) Y_Loads_findNextToShed (hk_in (by decide +kernel) rfl) rfl rfl ⟨Nat.le_of_ble_eq_true rfl, Nat.le_of_ble_eq_true rfl⟩ (va_recv hE.1 hP (ci := 3) (q0 := 0) rfl rfl) hP hD rfl hl.1 rfl (Nat.le_of_ble_eq_true rfl) d_Loads_measure_57 ⟨Nat.zero_le _, Nat.zero_le _⟩) hD hS hA (fun H locs hP hD hS => ?_)
        refine lv_iconst (v := (1 : Int32)) hx hb d_Loads_measure_60 (by decide) ?_
        refine hk_goV (hk_kV (k := 2) (As := [.int (m_Loads_findNextToShed (f_Loads_measure_52 (f_Loads_measure_39 (f_Loads_measure_18 u)))), .int (1 : Int32)]) (rest := []) C (c_Loads_setOff l G a0 a1 a2 a3 (f_Loads_measure_52 (f_Loads_measure_39 (f_Loads_measure_18 u))) (m_Loads_findNextToShed (f_Loads_measure_52 (f_Loads_measure_39 (f_Loads_measure_18 u)))) (1 : Int32) (IL_of (k3_f_Loads_measure_52 _) (IL_of (k3_f_Loads_measure_39 _) (IL_of (k3_f_Loads_measure_18 _) hI))) (Or.inr rfl) (fr_shed (IL_of (k3_f_Loads_measure_52 _) (IL_of (k3_f_Loads_measure_39 _) (IL_of (k3_f_Loads_measure_18 _) hI)))) _) Y_Loads_setOff (hk_in (by decide +kernel) rfl) rfl rfl ⟨Nat.le_of_ble_eq_true rfl, Nat.le_of_ble_eq_true rfl⟩ (va_recv hE.1 hP (ci := 3) (q0 := 0) rfl rfl) hP hD rfl hl.1 rfl (Nat.le_of_ble_eq_true rfl) d_Loads_measure_61 ⟨Nat.zero_le _, Nat.zero_le _⟩) hD hS hA (fun H locs hP hD hS => ?_)
        refine lv_aload_n hx hb d_Loads_measure_64 rfl (lv_at hl 0 rfl) ?_
        refine hk_get (v := .int (l5 (m_Loads_setOff (m_Loads_findNextToShed (f_Loads_measure_52 (f_Loads_measure_39 (f_Loads_measure_18 u)))) (1 : Int32) (f_Loads_measure_52 (f_Loads_measure_39 (f_Loads_measure_18 u)))))) C hP 0 3 5 i_Loads rfl rfl (by decide) (hk_in (by decide +kernel) rfl) rfl d_Loads_measure_65 ?_
        refine lv_iconst (v := (3 : Int32)) hx hb d_Loads_measure_68 (by decide) ?_
        refine lv_icmp_lt (tgt := 86) hx hb d_Loads_measure_69 (by decide) (fun c_5 => ?_) (fun c_5 => ?_)
        · skip
          have e : m_Loads_measure p1 u = (m_Loads_setOff (m_Loads_findNextToShed (f_Loads_measure_52 (f_Loads_measure_39 (f_Loads_measure_18 u)))) (1 : Int32) (f_Loads_measure_52 (f_Loads_measure_39 (f_Loads_measure_18 u)))) := (if_pos c_1).trans ((if_pos c_2).trans ((if_neg c_3).trans ((if_pos c_5).trans (rfl))))
          exact hk_rv C hAe hP hD hS (by rw [e]) d_Loads_measure_86
        · skip
          refine lv_aload_n hx hb d_Loads_measure_72 rfl (lv_at hl 0 rfl) ?_
          refine lv_iconst (v := (0 : Int32)) hx hb d_Loads_measure_73 (by decide) ?_
          refine hk_put (w2 := wL G a0 a1 a2 a3 (f_Loads_measure_74 (m_Loads_setOff (m_Loads_findNextToShed (f_Loads_measure_52 (f_Loads_measure_39 (f_Loads_measure_18 u)))) (1 : Int32) (f_Loads_measure_52 (f_Loads_measure_39 (f_Loads_measure_18 u)))))) (v := .int (0 : Int32)) (ty := .int) C hP hD hS 0 3 5 i_Loads t_Loads_ok n_Loads rfl rfl (by decide) (hk_in (by decide +kernel) rfl) rfl (by decide +kernel) rfl rfl (Nat.le_of_ble_eq_true rfl) rfl d_Loads_measure_74 (fun H locs hP hD hS => ?_)
          refine lv_aload_n hx hb d_Loads_measure_77 rfl (lv_at hl 0 rfl) ?_
          refine lv_aload_n hx hb d_Loads_measure_78 rfl (lv_at hl 0 rfl) ?_
          refine hk_goI (hk_kV (k := 0) (As := []) (rest := [.ref a0]) C (c_Loads_findNextToRestore l G a0 a1 a2 a3 (f_Loads_measure_74 (m_Loads_setOff (m_Loads_findNextToShed (f_Loads_measure_52 (f_Loads_measure_39 (f_Loads_measure_18 u)))) (1 : Int32) (f_Loads_measure_52 (f_Loads_measure_39 (f_Loads_measure_18 u))))) (IL_of (k3_f_Loads_measure_74 _) (km_Loads_setOff (IL_of (k3_f_Loads_measure_52 _) (IL_of (k3_f_Loads_measure_39 _) (IL_of (k3_f_Loads_measure_18 _) hI))))) _) Y_Loads_findNextToRestore (hk_in (by decide +kernel) rfl) rfl rfl ⟨Nat.le_of_ble_eq_true rfl, Nat.le_of_ble_eq_true rfl⟩ (va_recv hE.1 hP (ci := 3) (q0 := 0) rfl rfl) hP hD rfl hl.1 rfl (Nat.le_of_ble_eq_true rfl) d_Loads_measure_79 ⟨Nat.zero_le _, Nat.zero_le _⟩) hD hS hA (fun H locs hP hD hS => ?_)
          refine lv_iconst (v := (0 : Int32)) hx hb d_Loads_measure_82 (by decide) ?_
          refine hk_goV (hk_kV (k := 2) (As := [.int (m_Loads_findNextToRestore (f_Loads_measure_74 (m_Loads_setOff (m_Loads_findNextToShed (f_Loads_measure_52 (f_Loads_measure_39 (f_Loads_measure_18 u)))) (1 : Int32) (f_Loads_measure_52 (f_Loads_measure_39 (f_Loads_measure_18 u)))))), .int (0 : Int32)]) (rest := []) C (c_Loads_setOff l G a0 a1 a2 a3 (f_Loads_measure_74 (m_Loads_setOff (m_Loads_findNextToShed (f_Loads_measure_52 (f_Loads_measure_39 (f_Loads_measure_18 u)))) (1 : Int32) (f_Loads_measure_52 (f_Loads_measure_39 (f_Loads_measure_18 u))))) (m_Loads_findNextToRestore (f_Loads_measure_74 (m_Loads_setOff (m_Loads_findNextToShed (f_Loads_measure_52 (f_Loads_measure_39 (f_Loads_measure_18 u)))) (1 : Int32) (f_Loads_measure_52 (f_Loads_measure_39 (f_Loads_measure_18 u)))))) (0 : Int32) (IL_of (k3_f_Loads_measure_74 _) (km_Loads_setOff (IL_of (k3_f_Loads_measure_52 _) (IL_of (k3_f_Loads_measure_39 _) (IL_of (k3_f_Loads_measure_18 _) hI))))) (Or.inl rfl) (fr_rest (IL_of (k3_f_Loads_measure_74 _) (km_Loads_setOff (IL_of (k3_f_Loads_measure_52 _) (IL_of (k3_f_Loads_measure_39 _) (IL_of (k3_f_Loads_measure_18 _) hI)))))) _) Y_Loads_setOff (hk_in (by decide +kernel) rfl) rfl rfl ⟨Nat.le_of_ble_eq_true rfl, Nat.le_of_ble_eq_true rfl⟩ (va_recv hE.1 hP (ci := 3) (q0 := 0) rfl rfl) hP hD rfl hl.1 rfl (Nat.le_of_ble_eq_true rfl) d_Loads_measure_83 ⟨Nat.zero_le _, Nat.zero_le _⟩) hD hS hA (fun H locs hP hD hS => ?_)
          have e : m_Loads_measure p1 u = (m_Loads_setOff (m_Loads_findNextToRestore (f_Loads_measure_74 (m_Loads_setOff (m_Loads_findNextToShed (f_Loads_measure_52 (f_Loads_measure_39 (f_Loads_measure_18 u)))) (1 : Int32) (f_Loads_measure_52 (f_Loads_measure_39 (f_Loads_measure_18 u)))))) (0 : Int32) (f_Loads_measure_74 (m_Loads_setOff (m_Loads_findNextToShed (f_Loads_measure_52 (f_Loads_measure_39 (f_Loads_measure_18 u)))) (1 : Int32) (f_Loads_measure_52 (f_Loads_measure_39 (f_Loads_measure_18 u)))))) := (if_pos c_1).trans ((if_pos c_2).trans ((if_neg c_3).trans ((if_neg c_5).trans (rfl))))
          exact hk_rv C hAe hP hD hS (by rw [e]) d_Loads_measure_86
    · skip
      refine lv_aload_n hx hb d_Loads_measure_29 rfl (lv_at hl 0 rfl) ?_
      refine hk_get (v := .int (l5 (f_Loads_measure_18 u))) C hP 0 3 5 i_Loads rfl rfl (by decide) (hk_in (by decide +kernel) rfl) rfl d_Loads_measure_30 ?_
      refine lv_iconst (v := (1 : Int32)) hx hb d_Loads_measure_33 (by decide) ?_
      refine lv_iadd hx hb d_Loads_measure_34 ?_
      refine lv_goto (tgt := 39) hx hb d_Loads_measure_35 (by decide) ?_
      refine hk_put (w2 := wL G a0 a1 a2 a3 (f_Loads_measure_39_1 (f_Loads_measure_18 u))) (v := .int ((l5 (f_Loads_measure_18 u)) + (1 : Int32))) (ty := .int) C hP hD hS 0 3 5 i_Loads t_Loads_ok n_Loads rfl rfl (by decide) (hk_in (by decide +kernel) rfl) rfl (by decide +kernel) rfl rfl (Nat.le_of_ble_eq_true rfl) rfl d_Loads_measure_39 (fun H locs hP hD hS => ?_)
      refine lv_aload_n hx hb d_Loads_measure_42 rfl (lv_at hl 0 rfl) ?_
      refine hk_get (v := .int (l4 (f_Loads_measure_39_1 (f_Loads_measure_18 u)))) C hP 0 3 4 i_Loads rfl rfl (by decide) (hk_in (by decide +kernel) rfl) rfl d_Loads_measure_43 ?_
      refine lv_iconst (v := (3 : Int32)) hx hb d_Loads_measure_46 (by decide) ?_
      refine lv_icmp_lt (tgt := 64) hx hb d_Loads_measure_47 (by decide) (fun c_6 => ?_) (fun c_6 => ?_)
      · skip
        refine lv_aload_n hx hb d_Loads_measure_64 rfl (lv_at hl 0 rfl) ?_
        refine hk_get (v := .int (l5 (f_Loads_measure_39_1 (f_Loads_measure_18 u)))) C hP 0 3 5 i_Loads rfl rfl (by decide) (hk_in (by decide +kernel) rfl) rfl d_Loads_measure_65 ?_
        refine lv_iconst (v := (3 : Int32)) hx hb d_Loads_measure_68 (by decide) ?_
        refine lv_icmp_lt (tgt := 86) hx hb d_Loads_measure_69 (by decide) (fun c_7 => ?_) (fun c_7 => ?_)
        · skip
          have e : m_Loads_measure p1 u = (f_Loads_measure_39_1 (f_Loads_measure_18 u)) := (if_pos c_1).trans ((if_neg c_2).trans ((if_pos c_6).trans ((if_pos c_7).trans (rfl))))
          exact hk_rv C hAe hP hD hS (by rw [e]) d_Loads_measure_86
        · skip
          refine lv_aload_n hx hb d_Loads_measure_72 rfl (lv_at hl 0 rfl) ?_
          refine lv_iconst (v := (0 : Int32)) hx hb d_Loads_measure_73 (by decide) ?_
          refine hk_put (w2 := wL G a0 a1 a2 a3 (f_Loads_measure_74 (f_Loads_measure_39_1 (f_Loads_measure_18 u)))) (v := .int (0 : Int32)) (ty := .int) C hP hD hS 0 3 5 i_Loads t_Loads_ok n_Loads rfl rfl (by decide) (hk_in (by decide +kernel) rfl) rfl (by decide +kernel) rfl rfl (Nat.le_of_ble_eq_true rfl) rfl d_Loads_measure_74 (fun H locs hP hD hS => ?_)
          refine lv_aload_n hx hb d_Loads_measure_77 rfl (lv_at hl 0 rfl) ?_
          refine lv_aload_n hx hb d_Loads_measure_78 rfl (lv_at hl 0 rfl) ?_
          refine hk_goI (hk_kV (k := 0) (As := []) (rest := [.ref a0]) C (c_Loads_findNextToRestore l G a0 a1 a2 a3 (f_Loads_measure_74 (f_Loads_measure_39_1 (f_Loads_measure_18 u))) (IL_of (k3_f_Loads_measure_74 _) (IL_of (k3_f_Loads_measure_39_1 _) (IL_of (k3_f_Loads_measure_18 _) hI))) _) Y_Loads_findNextToRestore (hk_in (by decide +kernel) rfl) rfl rfl ⟨Nat.le_of_ble_eq_true rfl, Nat.le_of_ble_eq_true rfl⟩ (va_recv hE.1 hP (ci := 3) (q0 := 0) rfl rfl) hP hD rfl hl.1 rfl (Nat.le_of_ble_eq_true rfl) d_Loads_measure_79 ⟨Nat.zero_le _, Nat.zero_le _⟩) hD hS hA (fun H locs hP hD hS => ?_)
          refine lv_iconst (v := (0 : Int32)) hx hb d_Loads_measure_82 (by decide) ?_
          refine hk_goV (hk_kV (k := 2) (As := [.int (m_Loads_findNextToRestore (f_Loads_measure_74 (f_Loads_measure_39_1 (f_Loads_measure_18 u)))), .int (0 : Int32)]) (rest := []) C (c_Loads_setOff l G a0 a1 a2 a3 (f_Loads_measure_74 (f_Loads_measure_39_1 (f_Loads_measure_18 u))) (m_Loads_findNextToRestore (f_Loads_measure_74 (f_Loads_measure_39_1 (f_Loads_measure_18 u)))) (0 : Int32) (IL_of (k3_f_Loads_measure_74 _) (IL_of (k3_f_Loads_measure_39_1 _) (IL_of (k3_f_Loads_measure_18 _) hI))) (Or.inl rfl) (fr_rest (IL_of (k3_f_Loads_measure_74 _) (IL_of (k3_f_Loads_measure_39_1 _) (IL_of (k3_f_Loads_measure_18 _) hI)))) _) Y_Loads_setOff (hk_in (by decide +kernel) rfl) rfl rfl ⟨Nat.le_of_ble_eq_true rfl, Nat.le_of_ble_eq_true rfl⟩ (va_recv hE.1 hP (ci := 3) (q0 := 0) rfl rfl) hP hD rfl hl.1 rfl (Nat.le_of_ble_eq_true rfl) d_Loads_measure_83 ⟨Nat.zero_le _, Nat.zero_le _⟩) hD hS hA (fun H locs hP hD hS => ?_)
          have e : m_Loads_measure p1 u = (m_Loads_setOff (m_Loads_findNextToRestore (f_Loads_measure_74 (f_Loads_measure_39_1 (f_Loads_measure_18 u)))) (0 : Int32) (f_Loads_measure_74 (f_Loads_measure_39_1 (f_Loads_measure_18 u)))) := (if_pos c_1).trans ((if_neg c_2).trans ((if_pos c_6).trans ((if_neg c_7).trans (rfl))))
          exact hk_rv C hAe hP hD hS (by rw [e]) d_Loads_measure_86
      · skip
        refine lv_aload_n hx hb d_Loads_measure_50 rfl (lv_at hl 0 rfl) ?_
        refine lv_iconst (v := (0 : Int32)) hx hb d_Loads_measure_51 (by decide) ?_
        refine hk_put (w2 := wL G a0 a1 a2 a3 (f_Loads_measure_52 (f_Loads_measure_39_1 (f_Loads_measure_18 u)))) (v := .int (0 : Int32)) (ty := .int) C hP hD hS 0 3 4 i_Loads t_Loads_ok n_Loads rfl rfl (by decide) (hk_in (by decide +kernel) rfl) rfl (by decide +kernel) rfl rfl (Nat.le_of_ble_eq_true rfl) rfl d_Loads_measure_52 (fun H locs hP hD hS => ?_)
        refine lv_aload_n hx hb d_Loads_measure_55 rfl (lv_at hl 0 rfl) ?_
        refine lv_aload_n hx hb d_Loads_measure_56 rfl (lv_at hl 0 rfl) ?_
        refine hk_goI (hk_kV (k := 0) (As := []) (rest := [.ref a0]) C (c_Loads_findNextToShed l G a0 a1 a2 a3 (f_Loads_measure_52 (f_Loads_measure_39_1 (f_Loads_measure_18 u))) (IL_of (k3_f_Loads_measure_52 _) (IL_of (k3_f_Loads_measure_39_1 _) (IL_of (k3_f_Loads_measure_18 _) hI))) _) Y_Loads_findNextToShed (hk_in (by decide +kernel) rfl) rfl rfl ⟨Nat.le_of_ble_eq_true rfl, Nat.le_of_ble_eq_true rfl⟩ (va_recv hE.1 hP (ci := 3) (q0 := 0) rfl rfl) hP hD rfl hl.1 rfl (Nat.le_of_ble_eq_true rfl) d_Loads_measure_57 ⟨Nat.zero_le _, Nat.zero_le _⟩) hD hS hA (fun H locs hP hD hS => ?_)
        refine lv_iconst (v := (1 : Int32)) hx hb d_Loads_measure_60 (by decide) ?_
        refine hk_goV (hk_kV (k := 2) (As := [.int (m_Loads_findNextToShed (f_Loads_measure_52 (f_Loads_measure_39_1 (f_Loads_measure_18 u)))), .int (1 : Int32)]) (rest := []) C (c_Loads_setOff l G a0 a1 a2 a3 (f_Loads_measure_52 (f_Loads_measure_39_1 (f_Loads_measure_18 u))) (m_Loads_findNextToShed (f_Loads_measure_52 (f_Loads_measure_39_1 (f_Loads_measure_18 u)))) (1 : Int32) (IL_of (k3_f_Loads_measure_52 _) (IL_of (k3_f_Loads_measure_39_1 _) (IL_of (k3_f_Loads_measure_18 _) hI))) (Or.inr rfl) (fr_shed (IL_of (k3_f_Loads_measure_52 _) (IL_of (k3_f_Loads_measure_39_1 _) (IL_of (k3_f_Loads_measure_18 _) hI)))) _) Y_Loads_setOff (hk_in (by decide +kernel) rfl) rfl rfl ⟨Nat.le_of_ble_eq_true rfl, Nat.le_of_ble_eq_true rfl⟩ (va_recv hE.1 hP (ci := 3) (q0 := 0) rfl rfl) hP hD rfl hl.1 rfl (Nat.le_of_ble_eq_true rfl) d_Loads_measure_61 ⟨Nat.zero_le _, Nat.zero_le _⟩) hD hS hA (fun H locs hP hD hS => ?_)
        refine lv_aload_n hx hb d_Loads_measure_64 rfl (lv_at hl 0 rfl) ?_
        refine hk_get (v := .int (l5 (m_Loads_setOff (m_Loads_findNextToShed (f_Loads_measure_52 (f_Loads_measure_39_1 (f_Loads_measure_18 u)))) (1 : Int32) (f_Loads_measure_52 (f_Loads_measure_39_1 (f_Loads_measure_18 u)))))) C hP 0 3 5 i_Loads rfl rfl (by decide) (hk_in (by decide +kernel) rfl) rfl d_Loads_measure_65 ?_
        refine lv_iconst (v := (3 : Int32)) hx hb d_Loads_measure_68 (by decide) ?_
        refine lv_icmp_lt (tgt := 86) hx hb d_Loads_measure_69 (by decide) (fun c_8 => ?_) (fun c_8 => ?_)
        · skip
          have e : m_Loads_measure p1 u = (m_Loads_setOff (m_Loads_findNextToShed (f_Loads_measure_52 (f_Loads_measure_39_1 (f_Loads_measure_18 u)))) (1 : Int32) (f_Loads_measure_52 (f_Loads_measure_39_1 (f_Loads_measure_18 u)))) := (if_pos c_1).trans ((if_neg c_2).trans ((if_neg c_6).trans ((if_pos c_8).trans (rfl))))
          exact hk_rv C hAe hP hD hS (by rw [e]) d_Loads_measure_86
        · skip
          refine lv_aload_n hx hb d_Loads_measure_72 rfl (lv_at hl 0 rfl) ?_
          refine lv_iconst (v := (0 : Int32)) hx hb d_Loads_measure_73 (by decide) ?_
          refine hk_put (w2 := wL G a0 a1 a2 a3 (f_Loads_measure_74 (m_Loads_setOff (m_Loads_findNextToShed (f_Loads_measure_52 (f_Loads_measure_39_1 (f_Loads_measure_18 u)))) (1 : Int32) (f_Loads_measure_52 (f_Loads_measure_39_1 (f_Loads_measure_18 u)))))) (v := .int (0 : Int32)) (ty := .int) C hP hD hS 0 3 5 i_Loads t_Loads_ok n_Loads rfl rfl (by decide) (hk_in (by decide +kernel) rfl) rfl (by decide +kernel) rfl rfl (Nat.le_of_ble_eq_true rfl) rfl d_Loads_measure_74 (fun H locs hP hD hS => ?_)
          refine lv_aload_n hx hb d_Loads_measure_77 rfl (lv_at hl 0 rfl) ?_
          refine lv_aload_n hx hb d_Loads_measure_78 rfl (lv_at hl 0 rfl) ?_
          refine hk_goI (hk_kV (k := 0) (As := []) (rest := [.ref a0]) C (c_Loads_findNextToRestore l G a0 a1 a2 a3 (f_Loads_measure_74 (m_Loads_setOff (m_Loads_findNextToShed (f_Loads_measure_52 (f_Loads_measure_39_1 (f_Loads_measure_18 u)))) (1 : Int32) (f_Loads_measure_52 (f_Loads_measure_39_1 (f_Loads_measure_18 u))))) (IL_of (k3_f_Loads_measure_74 _) (km_Loads_setOff (IL_of (k3_f_Loads_measure_52 _) (IL_of (k3_f_Loads_measure_39_1 _) (IL_of (k3_f_Loads_measure_18 _) hI))))) _) Y_Loads_findNextToRestore (hk_in (by decide +kernel) rfl) rfl rfl ⟨Nat.le_of_ble_eq_true rfl, Nat.le_of_ble_eq_true rfl⟩ (va_recv hE.1 hP (ci := 3) (q0 := 0) rfl rfl) hP hD rfl hl.1 rfl (Nat.le_of_ble_eq_true rfl) d_Loads_measure_79 ⟨Nat.zero_le _, Nat.zero_le _⟩) hD hS hA (fun H locs hP hD hS => ?_)
          refine lv_iconst (v := (0 : Int32)) hx hb d_Loads_measure_82 (by decide) ?_
          refine hk_goV (hk_kV (k := 2) (As := [.int (m_Loads_findNextToRestore (f_Loads_measure_74 (m_Loads_setOff (m_Loads_findNextToShed (f_Loads_measure_52 (f_Loads_measure_39_1 (f_Loads_measure_18 u)))) (1 : Int32) (f_Loads_measure_52 (f_Loads_measure_39_1 (f_Loads_measure_18 u)))))), .int (0 : Int32)]) (rest := []) C (c_Loads_setOff l G a0 a1 a2 a3 (f_Loads_measure_74 (m_Loads_setOff (m_Loads_findNextToShed (f_Loads_measure_52 (f_Loads_measure_39_1 (f_Loads_measure_18 u)))) (1 : Int32) (f_Loads_measure_52 (f_Loads_measure_39_1 (f_Loads_measure_18 u))))) (m_Loads_findNextToRestore (f_Loads_measure_74 (m_Loads_setOff (m_Loads_findNextToShed (f_Loads_measure_52 (f_Loads_measure_39_1 (f_Loads_measure_18 u)))) (1 : Int32) (f_Loads_measure_52 (f_Loads_measure_39_1 (f_Loads_measure_18 u)))))) (0 : Int32) (IL_of (k3_f_Loads_measure_74 _) (km_Loads_setOff (IL_of (k3_f_Loads_measure_52 _) (IL_of (k3_f_Loads_measure_39_1 _) (IL_of (k3_f_Loads_measure_18 _) hI))))) (Or.inl rfl) (fr_rest (IL_of (k3_f_Loads_measure_74 _) (km_Loads_setOff (IL_of (k3_f_Loads_measure_52 _) (IL_of (k3_f_Loads_measure_39_1 _) (IL_of (k3_f_Loads_measure_18 _) hI)))))) _) Y_Loads_setOff (hk_in (by decide +kernel) rfl) rfl rfl ⟨Nat.le_of_ble_eq_true rfl, Nat.le_of_ble_eq_true rfl⟩ (va_recv hE.1 hP (ci := 3) (q0 := 0) rfl rfl) hP hD rfl hl.1 rfl (Nat.le_of_ble_eq_true rfl) d_Loads_measure_83 ⟨Nat.zero_le _, Nat.zero_le _⟩) hD hS hA (fun H locs hP hD hS => ?_)
          have e : m_Loads_measure p1 u = (m_Loads_setOff (m_Loads_findNextToRestore (f_Loads_measure_74 (m_Loads_setOff (m_Loads_findNextToShed (f_Loads_measure_52 (f_Loads_measure_39_1 (f_Loads_measure_18 u)))) (1 : Int32) (f_Loads_measure_52 (f_Loads_measure_39_1 (f_Loads_measure_18 u)))))) (0 : Int32) (f_Loads_measure_74 (m_Loads_setOff (m_Loads_findNextToShed (f_Loads_measure_52 (f_Loads_measure_39_1 (f_Loads_measure_18 u)))) (1 : Int32) (f_Loads_measure_52 (f_Loads_measure_39_1 (f_Loads_measure_18 u)))))) := (if_pos c_1).trans ((if_neg c_2).trans ((if_neg c_6).trans ((if_neg c_8).trans (rfl))))
          exact hk_rv C hAe hP hD hS (by rw [e]) d_Loads_measure_86
  · skip
    refine lv_aload_n hx hb d_Loads_measure_8 rfl (lv_at hl 0 rfl) ?_
    refine hk_get (v := .int (l4 u)) C hP 0 3 4 i_Loads rfl rfl (by decide) (hk_in (by decide +kernel) rfl) rfl d_Loads_measure_9 ?_
    refine lv_iconst (v := (1 : Int32)) hx hb d_Loads_measure_12 (by decide) ?_
    refine lv_iadd hx hb d_Loads_measure_13 ?_
    refine lv_goto (tgt := 18) hx hb d_Loads_measure_14 (by decide) ?_
    refine hk_put (w2 := wL G a0 a1 a2 a3 (f_Loads_measure_18_1 u)) (v := .int ((l4 u) + (1 : Int32))) (ty := .int) C hP hD hS 0 3 4 i_Loads t_Loads_ok n_Loads rfl rfl (by decide) (hk_in (by decide +kernel) rfl) rfl (by decide +kernel) rfl rfl (Nat.le_of_ble_eq_true rfl) rfl d_Loads_measure_18 (fun H locs hP hD hS => ?_)
    refine lv_aload_n hx hb d_Loads_measure_21 rfl (lv_at hl 0 rfl) ?_
    refine lv_iload_n hx hb d_Loads_measure_22 rfl (lv_at hl 1 rfl) ?_
    refine lv_sipush (v := (12500 : Int32)) hx hb d_Loads_measure_23 (by decide) ?_
    refine lv_icmp_le (tgt := 38) hx hb d_Loads_measure_26 (by decide) (fun c_9 => ?_) (fun c_9 => ?_)
    · skip
      refine lv_iconst (v := (0 : Int32)) hx hb d_Loads_measure_38 (by decide) ?_
      refine hk_put (w2 := wL G a0 a1 a2 a3 (f_Loads_measure_39 (f_Loads_measure_18_1 u))) (v := .int (0 : Int32)) (ty := .int) C hP hD hS 0 3 5 i_Loads t_Loads_ok n_Loads rfl rfl (by decide) (hk_in (by decide +kernel) rfl) rfl (by decide +kernel) rfl rfl (Nat.le_of_ble_eq_true rfl) rfl d_Loads_measure_39 (fun H locs hP hD hS => ?_)
      refine lv_aload_n hx hb d_Loads_measure_42 rfl (lv_at hl 0 rfl) ?_
      refine hk_get (v := .int (l4 (f_Loads_measure_39 (f_Loads_measure_18_1 u)))) C hP 0 3 4 i_Loads rfl rfl (by decide) (hk_in (by decide +kernel) rfl) rfl d_Loads_measure_43 ?_
      refine lv_iconst (v := (3 : Int32)) hx hb d_Loads_measure_46 (by decide) ?_
      refine lv_icmp_lt (tgt := 64) hx hb d_Loads_measure_47 (by decide) (fun c_10 => ?_) (fun c_10 => ?_)
      · skip
        refine lv_aload_n hx hb d_Loads_measure_64 rfl (lv_at hl 0 rfl) ?_
        refine hk_get (v := .int (l5 (f_Loads_measure_39 (f_Loads_measure_18_1 u)))) C hP 0 3 5 i_Loads rfl rfl (by decide) (hk_in (by decide +kernel) rfl) rfl d_Loads_measure_65 ?_
        refine lv_iconst (v := (3 : Int32)) hx hb d_Loads_measure_68 (by decide) ?_
        refine lv_icmp_lt (tgt := 86) hx hb d_Loads_measure_69 (by decide) (fun c_11 => ?_) (fun c_11 => ?_)
        · skip
          have e : m_Loads_measure p1 u = (f_Loads_measure_39 (f_Loads_measure_18_1 u)) := (if_neg c_1).trans ((if_pos c_9).trans ((if_pos c_10).trans ((if_pos c_11).trans (rfl))))
          exact hk_rv C hAe hP hD hS (by rw [e]) d_Loads_measure_86
        · skip
          refine lv_aload_n hx hb d_Loads_measure_72 rfl (lv_at hl 0 rfl) ?_
          refine lv_iconst (v := (0 : Int32)) hx hb d_Loads_measure_73 (by decide) ?_
          refine hk_put (w2 := wL G a0 a1 a2 a3 (f_Loads_measure_74 (f_Loads_measure_39 (f_Loads_measure_18_1 u)))) (v := .int (0 : Int32)) (ty := .int) C hP hD hS 0 3 5 i_Loads t_Loads_ok n_Loads rfl rfl (by decide) (hk_in (by decide +kernel) rfl) rfl (by decide +kernel) rfl rfl (Nat.le_of_ble_eq_true rfl) rfl d_Loads_measure_74 (fun H locs hP hD hS => ?_)
          refine lv_aload_n hx hb d_Loads_measure_77 rfl (lv_at hl 0 rfl) ?_
          refine lv_aload_n hx hb d_Loads_measure_78 rfl (lv_at hl 0 rfl) ?_
          refine hk_goI (hk_kV (k := 0) (As := []) (rest := [.ref a0]) C (c_Loads_findNextToRestore l G a0 a1 a2 a3 (f_Loads_measure_74 (f_Loads_measure_39 (f_Loads_measure_18_1 u))) (IL_of (k3_f_Loads_measure_74 _) (IL_of (k3_f_Loads_measure_39 _) (IL_of (k3_f_Loads_measure_18_1 _) hI))) _) Y_Loads_findNextToRestore (hk_in (by decide +kernel) rfl) rfl rfl ⟨Nat.le_of_ble_eq_true rfl, Nat.le_of_ble_eq_true rfl⟩ (va_recv hE.1 hP (ci := 3) (q0 := 0) rfl rfl) hP hD rfl hl.1 rfl (Nat.le_of_ble_eq_true rfl) d_Loads_measure_79 ⟨Nat.zero_le _, Nat.zero_le _⟩) hD hS hA (fun H locs hP hD hS => ?_)
          refine lv_iconst (v := (0 : Int32)) hx hb d_Loads_measure_82 (by decide) ?_
          refine hk_goV (hk_kV (k := 2) (As := [.int (m_Loads_findNextToRestore (f_Loads_measure_74 (f_Loads_measure_39 (f_Loads_measure_18_1 u)))), .int (0 : Int32)]) (rest := []) C (c_Loads_setOff l G a0 a1 a2 a3 (f_Loads_measure_74 (f_Loads_measure_39 (f_Loads_measure_18_1 u))) (m_Loads_findNextToRestore (f_Loads_measure_74 (f_Loads_measure_39 (f_Loads_measure_18_1 u)))) (0 : Int32) (IL_of (k3_f_Loads_measure_74 _) (IL_of (k3_f_Loads_measure_39 _) (IL_of (k3_f_Loads_measure_18_1 _) hI))) (Or.inl rfl) (fr_rest (IL_of (k3_f_Loads_measure_74 _) (IL_of (k3_f_Loads_measure_39 _) (IL_of (k3_f_Loads_measure_18_1 _) hI)))) _) Y_Loads_setOff (hk_in (by decide +kernel) rfl) rfl rfl ⟨Nat.le_of_ble_eq_true rfl, Nat.le_of_ble_eq_true rfl⟩ (va_recv hE.1 hP (ci := 3) (q0 := 0) rfl rfl) hP hD rfl hl.1 rfl (Nat.le_of_ble_eq_true rfl) d_Loads_measure_83 ⟨Nat.zero_le _, Nat.zero_le _⟩) hD hS hA (fun H locs hP hD hS => ?_)
          have e : m_Loads_measure p1 u = (m_Loads_setOff (m_Loads_findNextToRestore (f_Loads_measure_74 (f_Loads_measure_39 (f_Loads_measure_18_1 u)))) (0 : Int32) (f_Loads_measure_74 (f_Loads_measure_39 (f_Loads_measure_18_1 u)))) := (if_neg c_1).trans ((if_pos c_9).trans ((if_pos c_10).trans ((if_neg c_11).trans (rfl))))
          exact hk_rv C hAe hP hD hS (by rw [e]) d_Loads_measure_86
      · skip
        refine lv_aload_n hx hb d_Loads_measure_50 rfl (lv_at hl 0 rfl) ?_
        refine lv_iconst (v := (0 : Int32)) hx hb d_Loads_measure_51 (by decide) ?_
        refine hk_put (w2 := wL G a0 a1 a2 a3 (f_Loads_measure_52 (f_Loads_measure_39 (f_Loads_measure_18_1 u)))) (v := .int (0 : Int32)) (ty := .int) C hP hD hS 0 3 4 i_Loads t_Loads_ok n_Loads rfl rfl (by decide) (hk_in (by decide +kernel) rfl) rfl (by decide +kernel) rfl rfl (Nat.le_of_ble_eq_true rfl) rfl d_Loads_measure_52 (fun H locs hP hD hS => ?_)
        refine lv_aload_n hx hb d_Loads_measure_55 rfl (lv_at hl 0 rfl) ?_
        refine lv_aload_n hx hb d_Loads_measure_56 rfl (lv_at hl 0 rfl) ?_
        refine hk_goI (hk_kV (k := 0) (As := []) (rest := [.ref a0]) C (c_Loads_findNextToShed l G a0 a1 a2 a3 (f_Loads_measure_52 (f_Loads_measure_39 (f_Loads_measure_18_1 u))) (IL_of (k3_f_Loads_measure_52 _) (IL_of (k3_f_Loads_measure_39 _) (IL_of (k3_f_Loads_measure_18_1 _) hI))) _) Y_Loads_findNextToShed (hk_in (by decide +kernel) rfl) rfl rfl ⟨Nat.le_of_ble_eq_true rfl, Nat.le_of_ble_eq_true rfl⟩ (va_recv hE.1 hP (ci := 3) (q0 := 0) rfl rfl) hP hD rfl hl.1 rfl (Nat.le_of_ble_eq_true rfl) d_Loads_measure_57 ⟨Nat.zero_le _, Nat.zero_le _⟩) hD hS hA (fun H locs hP hD hS => ?_)
        refine lv_iconst (v := (1 : Int32)) hx hb d_Loads_measure_60 (by decide) ?_
        refine hk_goV (hk_kV (k := 2) (As := [.int (m_Loads_findNextToShed (f_Loads_measure_52 (f_Loads_measure_39 (f_Loads_measure_18_1 u)))), .int (1 : Int32)]) (rest := []) C (c_Loads_setOff l G a0 a1 a2 a3 (f_Loads_measure_52 (f_Loads_measure_39 (f_Loads_measure_18_1 u))) (m_Loads_findNextToShed (f_Loads_measure_52 (f_Loads_measure_39 (f_Loads_measure_18_1 u)))) (1 : Int32) (IL_of (k3_f_Loads_measure_52 _) (IL_of (k3_f_Loads_measure_39 _) (IL_of (k3_f_Loads_measure_18_1 _) hI))) (Or.inr rfl) (fr_shed (IL_of (k3_f_Loads_measure_52 _) (IL_of (k3_f_Loads_measure_39 _) (IL_of (k3_f_Loads_measure_18_1 _) hI)))) _) Y_Loads_setOff (hk_in (by decide +kernel) rfl) rfl rfl ⟨Nat.le_of_ble_eq_true rfl, Nat.le_of_ble_eq_true rfl⟩ (va_recv hE.1 hP (ci := 3) (q0 := 0) rfl rfl) hP hD rfl hl.1 rfl (Nat.le_of_ble_eq_true rfl) d_Loads_measure_61 ⟨Nat.zero_le _, Nat.zero_le _⟩) hD hS hA (fun H locs hP hD hS => ?_)
        refine lv_aload_n hx hb d_Loads_measure_64 rfl (lv_at hl 0 rfl) ?_
        refine hk_get (v := .int (l5 (m_Loads_setOff (m_Loads_findNextToShed (f_Loads_measure_52 (f_Loads_measure_39 (f_Loads_measure_18_1 u)))) (1 : Int32) (f_Loads_measure_52 (f_Loads_measure_39 (f_Loads_measure_18_1 u)))))) C hP 0 3 5 i_Loads rfl rfl (by decide) (hk_in (by decide +kernel) rfl) rfl d_Loads_measure_65 ?_
        refine lv_iconst (v := (3 : Int32)) hx hb d_Loads_measure_68 (by decide) ?_
        refine lv_icmp_lt (tgt := 86) hx hb d_Loads_measure_69 (by decide) (fun c_12 => ?_) (fun c_12 => ?_)
        · skip
          have e : m_Loads_measure p1 u = (m_Loads_setOff (m_Loads_findNextToShed (f_Loads_measure_52 (f_Loads_measure_39 (f_Loads_measure_18_1 u)))) (1 : Int32) (f_Loads_measure_52 (f_Loads_measure_39 (f_Loads_measure_18_1 u)))) := (if_neg c_1).trans ((if_pos c_9).trans ((if_neg c_10).trans ((if_pos c_12).trans (rfl))))
          exact hk_rv C hAe hP hD hS (by rw [e]) d_Loads_measure_86
        · skip
          refine lv_aload_n hx hb d_Loads_measure_72 rfl (lv_at hl 0 rfl) ?_
          refine lv_iconst (v := (0 : Int32)) hx hb d_Loads_measure_73 (by decide) ?_
          refine hk_put (w2 := wL G a0 a1 a2 a3 (f_Loads_measure_74 (m_Loads_setOff (m_Loads_findNextToShed (f_Loads_measure_52 (f_Loads_measure_39 (f_Loads_measure_18_1 u)))) (1 : Int32) (f_Loads_measure_52 (f_Loads_measure_39 (f_Loads_measure_18_1 u)))))) (v := .int (0 : Int32)) (ty := .int) C hP hD hS 0 3 5 i_Loads t_Loads_ok n_Loads rfl rfl (by decide) (hk_in (by decide +kernel) rfl) rfl (by decide +kernel) rfl rfl (Nat.le_of_ble_eq_true rfl) rfl d_Loads_measure_74 (fun H locs hP hD hS => ?_)
          refine lv_aload_n hx hb d_Loads_measure_77 rfl (lv_at hl 0 rfl) ?_
          refine lv_aload_n hx hb d_Loads_measure_78 rfl (lv_at hl 0 rfl) ?_
          refine hk_goI (hk_kV (k := 0) (As := []) (rest := [.ref a0]) C (c_Loads_findNextToRestore l G a0 a1 a2 a3 (f_Loads_measure_74 (m_Loads_setOff (m_Loads_findNextToShed (f_Loads_measure_52 (f_Loads_measure_39 (f_Loads_measure_18_1 u)))) (1 : Int32) (f_Loads_measure_52 (f_Loads_measure_39 (f_Loads_measure_18_1 u))))) (IL_of (k3_f_Loads_measure_74 _) (km_Loads_setOff (IL_of (k3_f_Loads_measure_52 _) (IL_of (k3_f_Loads_measure_39 _) (IL_of (k3_f_Loads_measure_18_1 _) hI))))) _) Y_Loads_findNextToRestore (hk_in (by decide +kernel) rfl) rfl rfl ⟨Nat.le_of_ble_eq_true rfl, Nat.le_of_ble_eq_true rfl⟩ (va_recv hE.1 hP (ci := 3) (q0 := 0) rfl rfl) hP hD rfl hl.1 rfl (Nat.le_of_ble_eq_true rfl) d_Loads_measure_79 ⟨Nat.zero_le _, Nat.zero_le _⟩) hD hS hA (fun H locs hP hD hS => ?_)
          refine lv_iconst (v := (0 : Int32)) hx hb d_Loads_measure_82 (by decide) ?_
          refine hk_goV (hk_kV (k := 2) (As := [.int (m_Loads_findNextToRestore (f_Loads_measure_74 (m_Loads_setOff (m_Loads_findNextToShed (f_Loads_measure_52 (f_Loads_measure_39 (f_Loads_measure_18_1 u)))) (1 : Int32) (f_Loads_measure_52 (f_Loads_measure_39 (f_Loads_measure_18_1 u)))))), .int (0 : Int32)]) (rest := []) C (c_Loads_setOff l G a0 a1 a2 a3 (f_Loads_measure_74 (m_Loads_setOff (m_Loads_findNextToShed (f_Loads_measure_52 (f_Loads_measure_39 (f_Loads_measure_18_1 u)))) (1 : Int32) (f_Loads_measure_52 (f_Loads_measure_39 (f_Loads_measure_18_1 u))))) (m_Loads_findNextToRestore (f_Loads_measure_74 (m_Loads_setOff (m_Loads_findNextToShed (f_Loads_measure_52 (f_Loads_measure_39 (f_Loads_measure_18_1 u)))) (1 : Int32) (f_Loads_measure_52 (f_Loads_measure_39 (f_Loads_measure_18_1 u)))))) (0 : Int32) (IL_of (k3_f_Loads_measure_74 _) (km_Loads_setOff (IL_of (k3_f_Loads_measure_52 _) (IL_of (k3_f_Loads_measure_39 _) (IL_of (k3_f_Loads_measure_18_1 _) hI))))) (Or.inl rfl) (fr_rest (IL_of (k3_f_Loads_measure_74 _) (km_Loads_setOff (IL_of (k3_f_Loads_measure_52 _) (IL_of (k3_f_Loads_measure_39 _) (IL_of (k3_f_Loads_measure_18_1 _) hI)))))) _) Y_Loads_setOff (hk_in (by decide +kernel) rfl) rfl rfl ⟨Nat.le_of_ble_eq_true rfl, Nat.le_of_ble_eq_true rfl⟩ (va_recv hE.1 hP (ci := 3) (q0 := 0) rfl rfl) hP hD rfl hl.1 rfl (Nat.le_of_ble_eq_true rfl) d_Loads_measure_83 ⟨Nat.zero_le _, Nat.zero_le _⟩) hD hS hA (fun H locs hP hD hS => ?_)
          have e : m_Loads_measure p1 u = (m_Loads_setOff (m_Loads_findNextToRestore (f_Loads_measure_74 (m_Loads_setOff (m_Loads_findNextToShed (f_Loads_measure_52 (f_Loads_measure_39 (f_Loads_measure_18_1 u)))) (1 : Int32) (f_Loads_measure_52 (f_Loads_measure_39 (f_Loads_measure_18_1 u)))))) (0 : Int32) (f_Loads_measure_74 (m_Loads_setOff (m_Loads_findNextToShed (f_Loads_measure_52 (f_Loads_measure_39 (f_Loads_measure_18_1 u)))) (1 : Int32) (f_Loads_measure_52 (f_Loads_measure_39 (f_Loads_measure_18_1 u)))))) := (if_neg c_1).trans ((if_pos c_9).trans ((if_neg c_10).trans ((if_neg c_12).trans (rfl))))
          exact hk_rv C hAe hP hD hS (by rw [e]) d_Loads_measure_86
    · skip
      refine lv_aload_n hx hb d_Loads_measure_29 rfl (lv_at hl 0 rfl) ?_
      refine hk_get (v := .int (l5 (f_Loads_measure_18_1 u))) C hP 0 3 5 i_Loads rfl rfl (by decide) (hk_in (by decide +kernel) rfl) rfl d_Loads_measure_30 ?_
      refine lv_iconst (v := (1 : Int32)) hx hb d_Loads_measure_33 (by decide) ?_
      refine lv_iadd hx hb d_Loads_measure_34 ?_
      refine lv_goto (tgt := 39) hx hb d_Loads_measure_35 (by decide) ?_
      refine hk_put (w2 := wL G a0 a1 a2 a3 (f_Loads_measure_39_1 (f_Loads_measure_18_1 u))) (v := .int ((l5 (f_Loads_measure_18_1 u)) + (1 : Int32))) (ty := .int) C hP hD hS 0 3 5 i_Loads t_Loads_ok n_Loads rfl rfl (by decide) (hk_in (by decide +kernel) rfl) rfl (by decide +kernel) rfl rfl (Nat.le_of_ble_eq_true rfl) rfl d_Loads_measure_39 (fun H locs hP hD hS => ?_)
      refine lv_aload_n hx hb d_Loads_measure_42 rfl (lv_at hl 0 rfl) ?_
      refine hk_get (v := .int (l4 (f_Loads_measure_39_1 (f_Loads_measure_18_1 u)))) C hP 0 3 4 i_Loads rfl rfl (by decide) (hk_in (by decide +kernel) rfl) rfl d_Loads_measure_43 ?_
      refine lv_iconst (v := (3 : Int32)) hx hb d_Loads_measure_46 (by decide) ?_
      refine lv_icmp_lt (tgt := 64) hx hb d_Loads_measure_47 (by decide) (fun c_13 => ?_) (fun c_13 => ?_)
      · skip
        refine lv_aload_n hx hb d_Loads_measure_64 rfl (lv_at hl 0 rfl) ?_
        refine hk_get (v := .int (l5 (f_Loads_measure_39_1 (f_Loads_measure_18_1 u)))) C hP 0 3 5 i_Loads rfl rfl (by decide) (hk_in (by decide +kernel) rfl) rfl d_Loads_measure_65 ?_
        refine lv_iconst (v := (3 : Int32)) hx hb d_Loads_measure_68 (by decide) ?_
        refine lv_icmp_lt (tgt := 86) hx hb d_Loads_measure_69 (by decide) (fun c_14 => ?_) (fun c_14 => ?_)
        · skip
          have e : m_Loads_measure p1 u = (f_Loads_measure_39_1 (f_Loads_measure_18_1 u)) := (if_neg c_1).trans ((if_neg c_9).trans ((if_pos c_13).trans ((if_pos c_14).trans (rfl))))
          exact hk_rv C hAe hP hD hS (by rw [e]) d_Loads_measure_86
        · skip
          refine lv_aload_n hx hb d_Loads_measure_72 rfl (lv_at hl 0 rfl) ?_
          refine lv_iconst (v := (0 : Int32)) hx hb d_Loads_measure_73 (by decide) ?_
          refine hk_put (w2 := wL G a0 a1 a2 a3 (f_Loads_measure_74 (f_Loads_measure_39_1 (f_Loads_measure_18_1 u)))) (v := .int (0 : Int32)) (ty := .int) C hP hD hS 0 3 5 i_Loads t_Loads_ok n_Loads rfl rfl (by decide) (hk_in (by decide +kernel) rfl) rfl (by decide +kernel) rfl rfl (Nat.le_of_ble_eq_true rfl) rfl d_Loads_measure_74 (fun H locs hP hD hS => ?_)
          refine lv_aload_n hx hb d_Loads_measure_77 rfl (lv_at hl 0 rfl) ?_
          refine lv_aload_n hx hb d_Loads_measure_78 rfl (lv_at hl 0 rfl) ?_
          refine hk_goI (hk_kV (k := 0) (As := []) (rest := [.ref a0]) C (c_Loads_findNextToRestore l G a0 a1 a2 a3 (f_Loads_measure_74 (f_Loads_measure_39_1 (f_Loads_measure_18_1 u))) (IL_of (k3_f_Loads_measure_74 _) (IL_of (k3_f_Loads_measure_39_1 _) (IL_of (k3_f_Loads_measure_18_1 _) hI))) _) Y_Loads_findNextToRestore (hk_in (by decide +kernel) rfl) rfl rfl ⟨Nat.le_of_ble_eq_true rfl, Nat.le_of_ble_eq_true rfl⟩ (va_recv hE.1 hP (ci := 3) (q0 := 0) rfl rfl) hP hD rfl hl.1 rfl (Nat.le_of_ble_eq_true rfl) d_Loads_measure_79 ⟨Nat.zero_le _, Nat.zero_le _⟩) hD hS hA (fun H locs hP hD hS => ?_)
          refine lv_iconst (v := (0 : Int32)) hx hb d_Loads_measure_82 (by decide) ?_
          refine hk_goV (hk_kV (k := 2) (As := [.int (m_Loads_findNextToRestore (f_Loads_measure_74 (f_Loads_measure_39_1 (f_Loads_measure_18_1 u)))), .int (0 : Int32)]) (rest := []) C (c_Loads_setOff l G a0 a1 a2 a3 (f_Loads_measure_74 (f_Loads_measure_39_1 (f_Loads_measure_18_1 u))) (m_Loads_findNextToRestore (f_Loads_measure_74 (f_Loads_measure_39_1 (f_Loads_measure_18_1 u)))) (0 : Int32) (IL_of (k3_f_Loads_measure_74 _) (IL_of (k3_f_Loads_measure_39_1 _) (IL_of (k3_f_Loads_measure_18_1 _) hI))) (Or.inl rfl) (fr_rest (IL_of (k3_f_Loads_measure_74 _) (IL_of (k3_f_Loads_measure_39_1 _) (IL_of (k3_f_Loads_measure_18_1 _) hI)))) _) Y_Loads_setOff (hk_in (by decide +kernel) rfl) rfl rfl ⟨Nat.le_of_ble_eq_true rfl, Nat.le_of_ble_eq_true rfl⟩ (va_recv hE.1 hP (ci := 3) (q0 := 0) rfl rfl) hP hD rfl hl.1 rfl (Nat.le_of_ble_eq_true rfl) d_Loads_measure_83 ⟨Nat.zero_le _, Nat.zero_le _⟩) hD hS hA (fun H locs hP hD hS => ?_)
          have e : m_Loads_measure p1 u = (m_Loads_setOff (m_Loads_findNextToRestore (f_Loads_measure_74 (f_Loads_measure_39_1 (f_Loads_measure_18_1 u)))) (0 : Int32) (f_Loads_measure_74 (f_Loads_measure_39_1 (f_Loads_measure_18_1 u)))) := (if_neg c_1).trans ((if_neg c_9).trans ((if_pos c_13).trans ((if_neg c_14).trans (rfl))))
          exact hk_rv C hAe hP hD hS (by rw [e]) d_Loads_measure_86
      · skip
        refine lv_aload_n hx hb d_Loads_measure_50 rfl (lv_at hl 0 rfl) ?_
        refine lv_iconst (v := (0 : Int32)) hx hb d_Loads_measure_51 (by decide) ?_
        refine hk_put (w2 := wL G a0 a1 a2 a3 (f_Loads_measure_52 (f_Loads_measure_39_1 (f_Loads_measure_18_1 u)))) (v := .int (0 : Int32)) (ty := .int) C hP hD hS 0 3 4 i_Loads t_Loads_ok n_Loads rfl rfl (by decide) (hk_in (by decide +kernel) rfl) rfl (by decide +kernel) rfl rfl (Nat.le_of_ble_eq_true rfl) rfl d_Loads_measure_52 (fun H locs hP hD hS => ?_)
        refine lv_aload_n hx hb d_Loads_measure_55 rfl (lv_at hl 0 rfl) ?_
        refine lv_aload_n hx hb d_Loads_measure_56 rfl (lv_at hl 0 rfl) ?_
        refine hk_goI (hk_kV (k := 0) (As := []) (rest := [.ref a0]) C (c_Loads_findNextToShed l G a0 a1 a2 a3 (f_Loads_measure_52 (f_Loads_measure_39_1 (f_Loads_measure_18_1 u))) (IL_of (k3_f_Loads_measure_52 _) (IL_of (k3_f_Loads_measure_39_1 _) (IL_of (k3_f_Loads_measure_18_1 _) hI))) _) Y_Loads_findNextToShed (hk_in (by decide +kernel) rfl) rfl rfl ⟨Nat.le_of_ble_eq_true rfl, Nat.le_of_ble_eq_true rfl⟩ (va_recv hE.1 hP (ci := 3) (q0 := 0) rfl rfl) hP hD rfl hl.1 rfl (Nat.le_of_ble_eq_true rfl) d_Loads_measure_57 ⟨Nat.zero_le _, Nat.zero_le _⟩) hD hS hA (fun H locs hP hD hS => ?_)
        refine lv_iconst (v := (1 : Int32)) hx hb d_Loads_measure_60 (by decide) ?_
        refine hk_goV (hk_kV (k := 2) (As := [.int (m_Loads_findNextToShed (f_Loads_measure_52 (f_Loads_measure_39_1 (f_Loads_measure_18_1 u)))), .int (1 : Int32)]) (rest := []) C (c_Loads_setOff l G a0 a1 a2 a3 (f_Loads_measure_52 (f_Loads_measure_39_1 (f_Loads_measure_18_1 u))) (m_Loads_findNextToShed (f_Loads_measure_52 (f_Loads_measure_39_1 (f_Loads_measure_18_1 u)))) (1 : Int32) (IL_of (k3_f_Loads_measure_52 _) (IL_of (k3_f_Loads_measure_39_1 _) (IL_of (k3_f_Loads_measure_18_1 _) hI))) (Or.inr rfl) (fr_shed (IL_of (k3_f_Loads_measure_52 _) (IL_of (k3_f_Loads_measure_39_1 _) (IL_of (k3_f_Loads_measure_18_1 _) hI)))) _) Y_Loads_setOff (hk_in (by decide +kernel) rfl) rfl rfl ⟨Nat.le_of_ble_eq_true rfl, Nat.le_of_ble_eq_true rfl⟩ (va_recv hE.1 hP (ci := 3) (q0 := 0) rfl rfl) hP hD rfl hl.1 rfl (Nat.le_of_ble_eq_true rfl) d_Loads_measure_61 ⟨Nat.zero_le _, Nat.zero_le _⟩) hD hS hA (fun H locs hP hD hS => ?_)
        refine lv_aload_n hx hb d_Loads_measure_64 rfl (lv_at hl 0 rfl) ?_
        refine hk_get (v := .int (l5 (m_Loads_setOff (m_Loads_findNextToShed (f_Loads_measure_52 (f_Loads_measure_39_1 (f_Loads_measure_18_1 u)))) (1 : Int32) (f_Loads_measure_52 (f_Loads_measure_39_1 (f_Loads_measure_18_1 u)))))) C hP 0 3 5 i_Loads rfl rfl (by decide) (hk_in (by decide +kernel) rfl) rfl d_Loads_measure_65 ?_
        refine lv_iconst (v := (3 : Int32)) hx hb d_Loads_measure_68 (by decide) ?_
        refine lv_icmp_lt (tgt := 86) hx hb d_Loads_measure_69 (by decide) (fun c_15 => ?_) (fun c_15 => ?_)
        · skip
          have e : m_Loads_measure p1 u = (m_Loads_setOff (m_Loads_findNextToShed (f_Loads_measure_52 (f_Loads_measure_39_1 (f_Loads_measure_18_1 u)))) (1 : Int32) (f_Loads_measure_52 (f_Loads_measure_39_1 (f_Loads_measure_18_1 u)))) := (if_neg c_1).trans ((if_neg c_9).trans ((if_neg c_13).trans ((if_pos c_15).trans (rfl))))
          exact hk_rv C hAe hP hD hS (by rw [e]) d_Loads_measure_86
        · skip
          refine lv_aload_n hx hb d_Loads_measure_72 rfl (lv_at hl 0 rfl) ?_
          refine lv_iconst (v := (0 : Int32)) hx hb d_Loads_measure_73 (by decide) ?_
          refine hk_put (w2 := wL G a0 a1 a2 a3 (f_Loads_measure_74 (m_Loads_setOff (m_Loads_findNextToShed (f_Loads_measure_52 (f_Loads_measure_39_1 (f_Loads_measure_18_1 u)))) (1 : Int32) (f_Loads_measure_52 (f_Loads_measure_39_1 (f_Loads_measure_18_1 u)))))) (v := .int (0 : Int32)) (ty := .int) C hP hD hS 0 3 5 i_Loads t_Loads_ok n_Loads rfl rfl (by decide) (hk_in (by decide +kernel) rfl) rfl (by decide +kernel) rfl rfl (Nat.le_of_ble_eq_true rfl) rfl d_Loads_measure_74 (fun H locs hP hD hS => ?_)
          refine lv_aload_n hx hb d_Loads_measure_77 rfl (lv_at hl 0 rfl) ?_
          refine lv_aload_n hx hb d_Loads_measure_78 rfl (lv_at hl 0 rfl) ?_
          refine hk_goI (hk_kV (k := 0) (As := []) (rest := [.ref a0]) C (c_Loads_findNextToRestore l G a0 a1 a2 a3 (f_Loads_measure_74 (m_Loads_setOff (m_Loads_findNextToShed (f_Loads_measure_52 (f_Loads_measure_39_1 (f_Loads_measure_18_1 u)))) (1 : Int32) (f_Loads_measure_52 (f_Loads_measure_39_1 (f_Loads_measure_18_1 u))))) (IL_of (k3_f_Loads_measure_74 _) (km_Loads_setOff (IL_of (k3_f_Loads_measure_52 _) (IL_of (k3_f_Loads_measure_39_1 _) (IL_of (k3_f_Loads_measure_18_1 _) hI))))) _) Y_Loads_findNextToRestore (hk_in (by decide +kernel) rfl) rfl rfl ⟨Nat.le_of_ble_eq_true rfl, Nat.le_of_ble_eq_true rfl⟩ (va_recv hE.1 hP (ci := 3) (q0 := 0) rfl rfl) hP hD rfl hl.1 rfl (Nat.le_of_ble_eq_true rfl) d_Loads_measure_79 ⟨Nat.zero_le _, Nat.zero_le _⟩) hD hS hA (fun H locs hP hD hS => ?_)
          refine lv_iconst (v := (0 : Int32)) hx hb d_Loads_measure_82 (by decide) ?_
          refine hk_goV (hk_kV (k := 2) (As := [.int (m_Loads_findNextToRestore (f_Loads_measure_74 (m_Loads_setOff (m_Loads_findNextToShed (f_Loads_measure_52 (f_Loads_measure_39_1 (f_Loads_measure_18_1 u)))) (1 : Int32) (f_Loads_measure_52 (f_Loads_measure_39_1 (f_Loads_measure_18_1 u)))))), .int (0 : Int32)]) (rest := []) C (c_Loads_setOff l G a0 a1 a2 a3 (f_Loads_measure_74 (m_Loads_setOff (m_Loads_findNextToShed (f_Loads_measure_52 (f_Loads_measure_39_1 (f_Loads_measure_18_1 u)))) (1 : Int32) (f_Loads_measure_52 (f_Loads_measure_39_1 (f_Loads_measure_18_1 u))))) (m_Loads_findNextToRestore (f_Loads_measure_74 (m_Loads_setOff (m_Loads_findNextToShed (f_Loads_measure_52 (f_Loads_measure_39_1 (f_Loads_measure_18_1 u)))) (1 : Int32) (f_Loads_measure_52 (f_Loads_measure_39_1 (f_Loads_measure_18_1 u)))))) (0 : Int32) (IL_of (k3_f_Loads_measure_74 _) (km_Loads_setOff (IL_of (k3_f_Loads_measure_52 _) (IL_of (k3_f_Loads_measure_39_1 _) (IL_of (k3_f_Loads_measure_18_1 _) hI))))) (Or.inl rfl) (fr_rest (IL_of (k3_f_Loads_measure_74 _) (km_Loads_setOff (IL_of (k3_f_Loads_measure_52 _) (IL_of (k3_f_Loads_measure_39_1 _) (IL_of (k3_f_Loads_measure_18_1 _) hI)))))) _) Y_Loads_setOff (hk_in (by decide +kernel) rfl) rfl rfl ⟨Nat.le_of_ble_eq_true rfl, Nat.le_of_ble_eq_true rfl⟩ (va_recv hE.1 hP (ci := 3) (q0 := 0) rfl rfl) hP hD rfl hl.1 rfl (Nat.le_of_ble_eq_true rfl) d_Loads_measure_83 ⟨Nat.zero_le _, Nat.zero_le _⟩) hD hS hA (fun H locs hP hD hS => ?_)
          have e : m_Loads_measure p1 u = (m_Loads_setOff (m_Loads_findNextToRestore (f_Loads_measure_74 (m_Loads_setOff (m_Loads_findNextToShed (f_Loads_measure_52 (f_Loads_measure_39_1 (f_Loads_measure_18_1 u)))) (1 : Int32) (f_Loads_measure_52 (f_Loads_measure_39_1 (f_Loads_measure_18_1 u)))))) (0 : Int32) (f_Loads_measure_74 (m_Loads_setOff (m_Loads_findNextToShed (f_Loads_measure_52 (f_Loads_measure_39_1 (f_Loads_measure_18_1 u)))) (1 : Int32) (f_Loads_measure_52 (f_Loads_measure_39_1 (f_Loads_measure_18_1 u)))))) := (if_neg c_1).trans ((if_neg c_9).trans ((if_neg c_13).trans ((if_neg c_15).trans (rfl))))
          exact hk_rv C hAe hP hD hS (by rw [e]) d_Loads_measure_86
