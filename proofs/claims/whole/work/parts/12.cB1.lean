theorem Y_B_wantsLow : hk_Y y_B_wantsLow b_B_wantsLow 1 (some .boolean) 0 := ⟨hk_in (by decide +kernel) rfl, hk_in (by decide +kernel) rfl, hk_in (by decide +kernel) rfl, hk_in (List.mem_of_getElem? (i := 227) rfl) rfl, by decide, by decide, by decide +kernel⟩
abbrev rm_B_wantsLow : Room := { frames := 0, cells := 0, slots := 0, locals := 0 }
set_option maxHeartbeats 4000000 in
set_option maxRecDepth 100000 in
theorem c_B_wantsLow (l : Launch) (G : hk_G) (ad : Nat → Nat) (u : cB) (hI : Iv u) : hk_I l G y_B_wantsLow b_B_wantsLow 1 (some .boolean) rm_B_wantsLow [.ref (ad 0)] (wB G ad u) (m_B_wantsLow u) (wB G ad u) := by
  refine hk_I_of (by decide) (Nat.le_of_ble_eq_true rfl) ?_
  intro p e s m below meth c A ls C hAe hA hP hD hS hl
  have hx := C.1
  have hb := C.2.1
  have hown := C.2.2.2.2.1
  have hts := C.2.2.2.2.2.1
  have hE := C.2.2.2.2.2.2.2
  have hl : lv_has ls 1 [(0, .ref (ad 0))] := hl
  refine lv_aload_n hx hb d_B_wantsLow_0 rfl (lv_at hl 0 rfl) ?_
  refine hk_get (v := .ref (ad 1)) C hP 0 4 0 i_B rfl rfl (by decide) (hk_in (by decide +kernel) rfl) rfl d_B_wantsLow_1 ?_
  refine lv_iconst (v := (0 : Int32)) hx hb d_B_wantsLow_4 (by decide) ?_
  refine hk_ild C hP 1 0 (v := (b0 u) 0) rfl rfl (hk_inl (by decide)) rfl d_B_wantsLow_5 ?_
  refine lv_iconst (v := (2 : Int32)) hx hb d_B_wantsLow_6 (by decide) ?_
  refine lv_icmp_eq (tgt := 27) hx hb d_B_wantsLow_7 (by decide) (fun c_1 => ?_) (fun c_1 => ?_)
  · skip
    refine lv_iconst (v := (1 : Int32)) hx hb d_B_wantsLow_27 (by decide) ?_
    refine lv_goto (tgt := 32) hx hb d_B_wantsLow_28 (by decide) ?_
    have e : m_B_wantsLow u = (1 : Int32) := (if_pos c_1).trans (rfl)
    exact hk_rz C hAe hP hD hS (Or.inr rfl) e.symm rfl d_B_wantsLow_32
  · skip
    refine lv_aload_n hx hb d_B_wantsLow_10 rfl (lv_at hl 0 rfl) ?_
    refine hk_get (v := .ref (ad 1)) C hP 0 4 0 i_B rfl rfl (by decide) (hk_in (by decide +kernel) rfl) rfl d_B_wantsLow_11 ?_
    refine lv_iconst (v := (0 : Int32)) hx hb d_B_wantsLow_14 (by decide) ?_
    refine hk_ild C hP 1 0 (v := (b0 u) 0) rfl rfl (hk_inl (by decide)) rfl d_B_wantsLow_15 ?_
    refine lv_iconst (v := (3 : Int32)) hx hb d_B_wantsLow_16 (by decide) ?_
    refine lv_icmp_ne (tgt := 31) hx hb d_B_wantsLow_17 (by decide) (fun c_2 => ?_) (fun c_2 => ?_)
    · skip
      refine lv_iconst (v := (0 : Int32)) hx hb d_B_wantsLow_31 (by decide) ?_
      have e : m_B_wantsLow u = (0 : Int32) := (if_neg c_1).trans ((if_neg c_2).trans (rfl))
      exact hk_rz C hAe hP hD hS (Or.inl rfl) e.symm rfl d_B_wantsLow_32
    · skip
      refine lv_aload_n hx hb d_B_wantsLow_20 rfl (lv_at hl 0 rfl) ?_
      refine hk_get (v := .int (b11 u)) C hP 0 4 11 i_B rfl rfl (by decide) (hk_in (by decide +kernel) rfl) rfl d_B_wantsLow_21 ?_
      refine lv_if_eq (tgt := 31) hx hb d_B_wantsLow_24 (by decide) (fun c_3 => ?_) (fun c_3 => ?_)
      · skip
        refine lv_iconst (v := (0 : Int32)) hx hb d_B_wantsLow_31 (by decide) ?_
        have e : m_B_wantsLow u = (0 : Int32) := (if_neg c_1).trans ((if_pos c_2).trans ((if_pos c_3).trans (rfl)))
        exact hk_rz C hAe hP hD hS (Or.inl rfl) e.symm rfl d_B_wantsLow_32
      · skip
        refine lv_iconst (v := (1 : Int32)) hx hb d_B_wantsLow_27 (by decide) ?_
        refine lv_goto (tgt := 32) hx hb d_B_wantsLow_28 (by decide) ?_
        have e : m_B_wantsLow u = (1 : Int32) := (if_neg c_1).trans ((if_pos c_2).trans ((if_neg c_3).trans (rfl)))
        exact hk_rz C hAe hP hD hS (Or.inr rfl) e.symm rfl d_B_wantsLow_32
theorem Y_B_isParkingLit : hk_Y y_B_isParkingLit b_B_isParkingLit 1 (some .boolean) 0 := ⟨hk_in (by decide +kernel) rfl, hk_in (by decide +kernel) rfl, hk_in (by decide +kernel) rfl, hk_in (List.mem_of_getElem? (i := 223) rfl) rfl, by decide, by decide, by decide +kernel⟩
abbrev rm_B_isParkingLit : Room := { frames := 1, cells := 0, slots := 0, locals := 20 }
set_option maxHeartbeats 4000000 in
set_option maxRecDepth 100000 in
theorem c_B_isParkingLit (l : Launch) (G : hk_G) (ad : Nat → Nat) (u : cB) (hI : Iv u) : hk_I l G y_B_isParkingLit b_B_isParkingLit 1 (some .boolean) rm_B_isParkingLit [.ref (ad 0)] (wB G ad u) (m_B_isParkingLit u) (wB G ad u) := by
  refine hk_I_of (by decide) (Nat.le_of_ble_eq_true rfl) ?_
  intro p e s m below meth c A ls C hAe hA hP hD hS hl
  have hx := C.1
  have hb := C.2.1
  have hown := C.2.2.2.2.1
  have hts := C.2.2.2.2.2.1
  have hE := C.2.2.2.2.2.2.2
  have hl : lv_has ls 1 [(0, .ref (ad 0))] := hl
  refine lv_aload_n hx hb d_B_isParkingLit_0 rfl (lv_at hl 0 rfl) ?_
  refine hk_get (v := .int (b12 u)) C hP 0 4 12 i_B rfl rfl (by decide) (hk_in (by decide +kernel) rfl) rfl d_B_isParkingLit_1 ?_
  refine lv_if_ne (tgt := 24) hx hb d_B_isParkingLit_4 (by decide) (fun c_1 => ?_) (fun c_1 => ?_)
  · skip
    refine lv_iconst (v := (1 : Int32)) hx hb d_B_isParkingLit_24 (by decide) ?_
    refine lv_goto (tgt := 29) hx hb d_B_isParkingLit_25 (by decide) ?_
    have e : m_B_isParkingLit u = (1 : Int32) := (if_neg c_1).trans (rfl)
    exact hk_rz C hAe hP hD hS (Or.inr rfl) e.symm rfl d_B_isParkingLit_29
  · skip
    refine lv_aload_n hx hb d_B_isParkingLit_7 rfl (lv_at hl 0 rfl) ?_
    refine hk_get (v := .ref (ad 1)) C hP 0 4 0 i_B rfl rfl (by decide) (hk_in (by decide +kernel) rfl) rfl d_B_isParkingLit_8 ?_
    refine lv_iconst (v := (0 : Int32)) hx hb d_B_isParkingLit_11 (by decide) ?_
    refine hk_ild C hP 1 0 (v := (b0 u) 0) rfl rfl (hk_inl (by decide)) rfl d_B_isParkingLit_12 ?_
    refine lv_iconst (v := (1 : Int32)) hx hb d_B_isParkingLit_13 (by decide) ?_
    refine lv_icmp_eq (tgt := 24) hx hb d_B_isParkingLit_14 (by decide) (fun c_2 => ?_) (fun c_2 => ?_)
    · skip
      refine lv_iconst (v := (1 : Int32)) hx hb d_B_isParkingLit_24 (by decide) ?_
      refine lv_goto (tgt := 29) hx hb d_B_isParkingLit_25 (by decide) ?_
      have e : m_B_isParkingLit u = (1 : Int32) := (if_pos c_1).trans ((if_pos c_2).trans (rfl))
      exact hk_rz C hAe hP hD hS (Or.inr rfl) e.symm rfl d_B_isParkingLit_29
    · skip
      refine lv_aload_n hx hb d_B_isParkingLit_17 rfl (lv_at hl 0 rfl) ?_
      refine hk_goI (hk_kV (k := 0) (As := []) (rest := []) C (c_B_wantsLow l G ad u hI _) Y_B_wantsLow (hk_in (by decide +kernel) rfl) rfl rfl ⟨Nat.le_of_ble_eq_true rfl, Nat.le_of_ble_eq_true rfl⟩ (va_recv hE.1 hP (ci := 4) (q0 := 0) rfl rfl) hP hD rfl hl.1 rfl (Nat.le_of_ble_eq_true rfl) d_B_isParkingLit_18 ⟨Nat.zero_le _, Nat.zero_le _⟩) hD hS hA (fun H locs hP hD hS => ?_)
      refine lv_if_eq (tgt := 28) hx hb d_B_isParkingLit_21 (by decide) (fun c_3 => ?_) (fun c_3 => ?_)
      · skip
        refine lv_iconst (v := (0 : Int32)) hx hb d_B_isParkingLit_28 (by decide) ?_
        have e : m_B_isParkingLit u = (0 : Int32) := (if_pos c_1).trans ((if_neg c_2).trans ((if_pos c_3).trans (rfl)))
        exact hk_rz C hAe hP hD hS (Or.inl rfl) e.symm rfl d_B_isParkingLit_29
      · skip
        refine lv_iconst (v := (1 : Int32)) hx hb d_B_isParkingLit_24 (by decide) ?_
        refine lv_goto (tgt := 29) hx hb d_B_isParkingLit_25 (by decide) ?_
        have e : m_B_isParkingLit u = (1 : Int32) := (if_pos c_1).trans ((if_neg c_2).trans ((if_neg c_3).trans (rfl)))
        exact hk_rz C hAe hP hD hS (Or.inr rfl) e.symm rfl d_B_isParkingLit_29
theorem Y_B_isLowLit : hk_Y y_B_isLowLit b_B_isLowLit 1 (some .boolean) 0 := ⟨hk_in (by decide +kernel) rfl, hk_in (by decide +kernel) rfl, hk_in (by decide +kernel) rfl, hk_in (List.mem_of_getElem? (i := 234) rfl) rfl, by decide, by decide, by decide +kernel⟩
abbrev rm_B_isLowLit : Room := { frames := 1, cells := 0, slots := 0, locals := 20 }
set_option maxHeartbeats 4000000 in
set_option maxRecDepth 100000 in
theorem c_B_isLowLit (l : Launch) (G : hk_G) (ad : Nat → Nat) (u : cB) (hI : Iv u) : hk_I l G y_B_isLowLit b_B_isLowLit 1 (some .boolean) rm_B_isLowLit [.ref (ad 0)] (wB G ad u) (m_B_isLowLit u) (wB G ad u) := by
  refine hk_I_of (by decide) (Nat.le_of_ble_eq_true rfl) ?_
  intro p e s m below meth c A ls C hAe hA hP hD hS hl
  have hx := C.1
  have hb := C.2.1
  have hown := C.2.2.2.2.1
  have hts := C.2.2.2.2.2.1
  have hE := C.2.2.2.2.2.2.2
  have hl : lv_has ls 1 [(0, .ref (ad 0))] := hl
  refine lv_aload_n hx hb d_B_isLowLit_0 rfl (lv_at hl 0 rfl) ?_
  refine hk_get (v := .ref (ad 1)) C hP 0 4 0 i_B rfl rfl (by decide) (hk_in (by decide +kernel) rfl) rfl d_B_isLowLit_1 ?_
  refine lv_iconst (v := (5 : Int32)) hx hb d_B_isLowLit_4 (by decide) ?_
  refine hk_ild C hP 1 0 (v := (b0 u) 5) rfl rfl (hk_inl (by decide)) rfl d_B_isLowLit_5 ?_
  refine lv_iconst (v := (1 : Int32)) hx hb d_B_isLowLit_6 (by decide) ?_
  refine lv_icmp_ne (tgt := 21) hx hb d_B_isLowLit_7 (by decide) (fun c_1 => ?_) (fun c_1 => ?_)
  · skip
    refine lv_iconst (v := (0 : Int32)) hx hb d_B_isLowLit_21 (by decide) ?_
    have e : m_B_isLowLit u = (0 : Int32) := (if_neg c_1).trans (rfl)
    exact hk_rz C hAe hP hD hS (Or.inl rfl) e.symm rfl d_B_isLowLit_22
  · skip
    refine lv_aload_n hx hb d_B_isLowLit_10 rfl (lv_at hl 0 rfl) ?_
    refine hk_goI (hk_kV (k := 0) (As := []) (rest := []) C (c_B_wantsLow l G ad u hI _) Y_B_wantsLow (hk_in (by decide +kernel) rfl) rfl rfl ⟨Nat.le_of_ble_eq_true rfl, Nat.le_of_ble_eq_true rfl⟩ (va_recv hE.1 hP (ci := 4) (q0 := 0) rfl rfl) hP hD rfl hl.1 rfl (Nat.le_of_ble_eq_true rfl) d_B_isLowLit_11 ⟨Nat.zero_le _, Nat.zero_le _⟩) hD hS hA (fun H locs hP hD hS => ?_)
    refine lv_if_eq (tgt := 21) hx hb d_B_isLowLit_14 (by decide) (fun c_2 => ?_) (fun c_2 => ?_)
    · skip
      refine lv_iconst (v := (0 : Int32)) hx hb d_B_isLowLit_21 (by decide) ?_
      have e : m_B_isLowLit u = (0 : Int32) := (if_pos c_1).trans ((if_pos c_2).trans (rfl))
      exact hk_rz C hAe hP hD hS (Or.inl rfl) e.symm rfl d_B_isLowLit_22
    · skip
      refine lv_iconst (v := (1 : Int32)) hx hb d_B_isLowLit_17 (by decide) ?_
      refine lv_goto (tgt := 22) hx hb d_B_isLowLit_18 (by decide) ?_
      have e : m_B_isLowLit u = (1 : Int32) := (if_pos c_1).trans ((if_neg c_2).trans (rfl))
      exact hk_rz C hAe hP hD hS (Or.inr rfl) e.symm rfl d_B_isLowLit_22
theorem Y_B_turnBulbIsOut : hk_Y y_B_turnBulbIsOut b_B_turnBulbIsOut 2 (some .boolean) 1 := ⟨hk_in (by decide +kernel) rfl, hk_in (by decide +kernel) rfl, hk_in (by decide +kernel) rfl, hk_in (List.mem_of_getElem? (i := 242) rfl) rfl, by decide, by decide, by decide +kernel⟩
abbrev rm_B_turnBulbIsOut : Room := { frames := 0, cells := 0, slots := 0, locals := 0 }
set_option maxHeartbeats 4000000 in
set_option maxRecDepth 100000 in
theorem c_B_turnBulbIsOut (l : Launch) (G : hk_G) (ad : Nat → Nat) (u : cB) (p1 : Int32) (hI : Iv u) (hs : p1 = 0 ∨ p1 = 1) : hk_I l G y_B_turnBulbIsOut b_B_turnBulbIsOut 2 (some .boolean) rm_B_turnBulbIsOut [.ref (ad 0), .int p1] (wB G ad u) (m_B_turnBulbIsOut p1 u) (wB G ad u) := by
  refine hk_I_of (by decide) (Nat.le_of_ble_eq_true rfl) ?_
  intro p e s m below meth c A ls C hAe hA hP hD hS hl
  have hx := C.1
  have hb := C.2.1
  have hown := C.2.2.2.2.1
  have hts := C.2.2.2.2.2.1
  have hE := C.2.2.2.2.2.2.2
  have hl : lv_has ls 2 [(0, .ref (ad 0)), (1, .int p1)] := hl
  rcases hs with rfl | rfl
  · skip
    refine lv_aload_n hx hb d_B_turnBulbIsOut_0 rfl (lv_at hl 0 rfl) ?_
    refine hk_get (v := .ref (ad 3)) C hP 0 4 2 i_B rfl rfl (by decide) (hk_in (by decide +kernel) rfl) rfl d_B_turnBulbIsOut_1 ?_
    refine lv_iconst (v := (4 : Int32)) hx hb d_B_turnBulbIsOut_4 (by decide) ?_
    refine lv_iload_n hx hb d_B_turnBulbIsOut_5 rfl (lv_at hl 1 rfl) ?_
    refine lv_iadd hx hb d_B_turnBulbIsOut_6 ?_
    refine hk_fold (z := (4 : Int32)) (by decide) ?_
    refine hk_zld C hP 3 1 (v := (b2 u) 4) rfl rfl (hk_inl (by decide)) rfl d_B_turnBulbIsOut_7 ?_
    have e : m_B_turnBulbIsOut (0 : Int32) u = (b2 u) 4 := rfl
    exact hk_rz C hAe hP hD hS (hI.1 _) e.symm rfl d_B_turnBulbIsOut_8
  · skip
    refine lv_aload_n hx hb d_B_turnBulbIsOut_0 rfl (lv_at hl 0 rfl) ?_
    refine hk_get (v := .ref (ad 3)) C hP 0 4 2 i_B rfl rfl (by decide) (hk_in (by decide +kernel) rfl) rfl d_B_turnBulbIsOut_1 ?_
    refine lv_iconst (v := (4 : Int32)) hx hb d_B_turnBulbIsOut_4 (by decide) ?_
    refine lv_iload_n hx hb d_B_turnBulbIsOut_5 rfl (lv_at hl 1 rfl) ?_
    refine lv_iadd hx hb d_B_turnBulbIsOut_6 ?_
    refine hk_fold (z := (5 : Int32)) (by decide) ?_
    refine hk_zld C hP 3 1 (v := (b2 u) 5) rfl rfl (hk_inl (by decide)) rfl d_B_turnBulbIsOut_7 ?_
    have e : m_B_turnBulbIsOut (1 : Int32) u = (b2 u) 5 := rfl
    exact hk_rz C hAe hP hD hS (hI.1 _) e.symm rfl d_B_turnBulbIsOut_8
theorem Y_B_isSideLit : hk_Y y_B_isSideLit b_B_isSideLit 2 (some .boolean) 1 := ⟨hk_in (by decide +kernel) rfl, hk_in (by decide +kernel) rfl, hk_in (by decide +kernel) rfl, hk_in (List.mem_of_getElem? (i := 238) rfl) rfl, by decide, by decide, by decide +kernel⟩
abbrev rm_B_isSideLit : Room := { frames := 2, cells := 0, slots := 0, locals := 41 }
set_option maxHeartbeats 4000000 in
set_option maxRecDepth 100000 in
theorem c_B_isSideLit (l : Launch) (G : hk_G) (ad : Nat → Nat) (u : cB) (p1 : Int32) (hI : Iv u) (hs : p1 = 0 ∨ p1 = 1) : hk_I l G y_B_isSideLit b_B_isSideLit 2 (some .boolean) rm_B_isSideLit [.ref (ad 0), .int p1] (wB G ad u) (m_B_isSideLit p1 u) (wB G ad u) := by
  refine hk_I_of (by decide) (Nat.le_of_ble_eq_true rfl) ?_
  intro p e s m below meth c A ls C hAe hA hP hD hS hl
  have hx := C.1
  have hb := C.2.1
  have hown := C.2.2.2.2.1
  have hts := C.2.2.2.2.2.1
  have hE := C.2.2.2.2.2.2.2
  have hl : lv_has ls 2 [(0, .ref (ad 0)), (1, .int p1)] := hl
  rcases hs with rfl | rfl
  · skip
    refine lv_aload_n hx hb d_B_isSideLit_0 rfl (lv_at hl 0 rfl) ?_
    refine hk_get (v := .ref (ad 4)) C hP 0 4 3 i_B rfl rfl (by decide) (hk_in (by decide +kernel) rfl) rfl d_B_isSideLit_1 ?_
    refine lv_iload_n hx hb d_B_isSideLit_4 rfl (lv_at hl 1 rfl) ?_
    refine hk_ald C hP 4 2 (v := (ad 5)) rfl rfl (hk_inl (by decide)) rfl d_B_isSideLit_5 ?_
    refine lv_aload_n hx hb d_B_isSideLit_6 rfl (lv_at hl 0 rfl) ?_
    refine lv_iload_n hx hb d_B_isSideLit_7 rfl (lv_at hl 1 rfl) ?_
    refine hk_goI (hk_kV (k := 1) (As := [.int (0 : Int32)]) (rest := [.ref (ad 5)]) C (c_B_turnBulbIsOut l G ad u (0 : Int32) hI (Or.inl rfl) _) Y_B_turnBulbIsOut (hk_in (by decide +kernel) rfl) rfl rfl ⟨Nat.le_of_ble_eq_true rfl, Nat.le_of_ble_eq_true rfl⟩ (va_recv hE.1 hP (ci := 4) (q0 := 0) rfl rfl) hP hD rfl hl.1 rfl (Nat.le_of_ble_eq_true rfl) d_B_isSideLit_8 ⟨Nat.zero_le _, Nat.zero_le _⟩) hD hS hA (fun H locs hP hD hS => ?_)
    refine hk_goI1 5 (w2 := wB G ad u) (hk_kN (host := "BodyRows2") (k := 1) (As := [.int (m_B_turnBulbIsOut (0 : Int32) u)]) (rest := []) C (c_Side_isBright l G (ad 5) (b3 u 0) (m_B_turnBulbIsOut (0 : Int32) u) _) Y_Side_isBright (by decide +kernel) rfl rfl ⟨Nat.le_of_ble_eq_true rfl, Nat.le_of_ble_eq_true rfl⟩ (va_recv hE.1 hP (ci := 0) (q0 := 5) rfl rfl) (hP.sub (ws' := (wS (ad 5) (b3 u 0))) [5] rfl) (hD.sub (ws' := (wS (ad 5) (b3 u 0))) [5] (by decide) rfl) rfl hl.1 rfl (Nat.le_of_ble_eq_true rfl) d_B_isSideLit_11 ⟨Nat.zero_le _, Nat.zero_le _⟩) hP hD hS hA rfl rfl (fun H locs hP hD hS => ?_)
    have e : m_B_isSideLit (0 : Int32) u = m_Side_isBright (m_B_turnBulbIsOut (0 : Int32) u) (b3 u 0) := rfl
    exact hk_rz C hAe hP hD hS (z_Side_isBright _ _) e.symm rfl d_B_isSideLit_14
  · skip
    refine lv_aload_n hx hb d_B_isSideLit_0 rfl (lv_at hl 0 rfl) ?_
    refine hk_get (v := .ref (ad 4)) C hP 0 4 3 i_B rfl rfl (by decide) (hk_in (by decide +kernel) rfl) rfl d_B_isSideLit_1 ?_
    refine lv_iload_n hx hb d_B_isSideLit_4 rfl (lv_at hl 1 rfl) ?_
    refine hk_ald C hP 4 2 (v := (ad 6)) rfl rfl (hk_inl (by decide)) rfl d_B_isSideLit_5 ?_
    refine lv_aload_n hx hb d_B_isSideLit_6 rfl (lv_at hl 0 rfl) ?_
    refine lv_iload_n hx hb d_B_isSideLit_7 rfl (lv_at hl 1 rfl) ?_
    refine hk_goI (hk_kV (k := 1) (As := [.int (1 : Int32)]) (rest := [.ref (ad 6)]) C (c_B_turnBulbIsOut l G ad u (1 : Int32) hI (Or.inr rfl) _) Y_B_turnBulbIsOut (hk_in (by decide +kernel) rfl) rfl rfl ⟨Nat.le_of_ble_eq_true rfl, Nat.le_of_ble_eq_true rfl⟩ (va_recv hE.1 hP (ci := 4) (q0 := 0) rfl rfl) hP hD rfl hl.1 rfl (Nat.le_of_ble_eq_true rfl) d_B_isSideLit_8 ⟨Nat.zero_le _, Nat.zero_le _⟩) hD hS hA (fun H locs hP hD hS => ?_)
    refine hk_goI1 6 (w2 := wB G ad u) (hk_kN (host := "BodyRows2") (k := 1) (As := [.int (m_B_turnBulbIsOut (1 : Int32) u)]) (rest := []) C (c_Side_isBright l G (ad 6) (b3 u 1) (m_B_turnBulbIsOut (1 : Int32) u) _) Y_Side_isBright (by decide +kernel) rfl rfl ⟨Nat.le_of_ble_eq_true rfl, Nat.le_of_ble_eq_true rfl⟩ (va_recv hE.1 hP (ci := 0) (q0 := 6) rfl rfl) (hP.sub (ws' := (wS (ad 6) (b3 u 1))) [6] rfl) (hD.sub (ws' := (wS (ad 6) (b3 u 1))) [6] (by decide) rfl) rfl hl.1 rfl (Nat.le_of_ble_eq_true rfl) d_B_isSideLit_11 ⟨Nat.zero_le _, Nat.zero_le _⟩) hP hD hS hA rfl rfl (fun H locs hP hD hS => ?_)
    have e : m_B_isSideLit (1 : Int32) u = m_Side_isBright (m_B_turnBulbIsOut (1 : Int32) u) (b3 u 1) := rfl
    exact hk_rz C hAe hP hD hS (z_Side_isBright _ _) e.symm rfl d_B_isSideLit_14
theorem Y_B_outputNow : hk_Y y_B_outputNow b_B_outputNow 2 (some .int) 1 := ⟨hk_in (by decide +kernel) rfl, hk_in (by decide +kernel) rfl, hk_in (by decide +kernel) rfl, hk_in (List.mem_of_getElem? (i := 219) rfl) rfl, by decide, by decide, by decide +kernel⟩
abbrev rm_B_outputNow : Room := { frames := 3, cells := 0, slots := 0, locals := 62 }
set_option maxHeartbeats 4000000 in
set_option maxRecDepth 100000 in
theorem c_B_outputNow (l : Launch) (G : hk_G) (ad : Nat → Nat) (u : cB) (p1 : Int32) (hI : Iv u) (hi : p1 = 0 ∨ p1 = 1 ∨ p1 = 2 ∨ p1 = 3 ∨ p1 = 4 ∨ p1 = 5 ∨ p1 = 6 ∨ p1 = 7 ∨ p1 = 8 ∨ p1 = 9) : hk_I l G y_B_outputNow b_B_outputNow 2 (some .int) rm_B_outputNow [.ref (ad 0), .int p1] (wB G ad u) (m_B_outputNow p1 u) (wB G ad u) := by
  refine hk_I_of (by decide) (Nat.le_of_ble_eq_true rfl) ?_
  intro p e s m below meth c A ls C hAe hA hP hD hS hl
  have hx := C.1
  have hb := C.2.1
  have hown := C.2.2.2.2.1
  have hts := C.2.2.2.2.2.1
  have hE := C.2.2.2.2.2.2.2
  have hl : lv_has ls 2 [(0, .ref (ad 0)), (1, .int p1)] := hl
  rcases hi with rfl | rfl | rfl | rfl | rfl | rfl | rfl | rfl | rfl | rfl
  · skip
    refine lv_iload_n hx hb d_B_outputNow_0 rfl (lv_at hl 1 rfl) ?_
    refine lv_tableIn (tgt := 56) (off := 55) hx hb d_B_outputNow_1 (by decide) (by decide) rfl (by decide) ?_
    refine lv_aload_n hx hb d_B_outputNow_56 rfl (lv_at hl 0 rfl) ?_
    refine hk_goI (hk_kV (k := 0) (As := []) (rest := []) C (c_B_isParkingLit l G ad u hI _) Y_B_isParkingLit (hk_in (by decide +kernel) rfl) rfl rfl ⟨Nat.le_of_ble_eq_true rfl, Nat.le_of_ble_eq_true rfl⟩ (va_recv hE.1 hP (ci := 4) (q0 := 0) rfl rfl) hP hD rfl hl.1 rfl (Nat.le_of_ble_eq_true rfl) d_B_outputNow_57 ⟨Nat.zero_le _, Nat.zero_le _⟩) hD hS hA (fun H locs hP hD hS => ?_)
    refine hk_goIe (hk_kS (k := 1) (As := [.int (m_B_isParkingLit u)]) (rest := []) C (c_B_bit l G (m_B_isParkingLit u) _) Y_B_bit (hk_in (by decide +kernel) rfl) rfl rfl ⟨Nat.le_of_ble_eq_true rfl, Nat.le_of_ble_eq_true rfl⟩ hk_Pn (hk_Dn (A := A)) rfl hl.1 rfl (Nat.le_of_ble_eq_true rfl) d_B_outputNow_60 ⟨Nat.zero_le _, Nat.zero_le _⟩) hP hS hA (fun H locs hP hS => ?_)
    have e : m_B_outputNow (0 : Int32) u = m_B_bit (m_B_isParkingLit u) := (if_pos rfl).trans (rfl)
    exact hk_ri C hAe hP hD hS e.symm rfl d_B_outputNow_63
  · skip
    refine lv_iload_n hx hb d_B_outputNow_0 rfl (lv_at hl 1 rfl) ?_
    refine lv_tableIn (tgt := 64) (off := 63) hx hb d_B_outputNow_1 (by decide) (by decide) rfl (by decide) ?_
    refine lv_aload_n hx hb d_B_outputNow_64 rfl (lv_at hl 0 rfl) ?_
    refine hk_goI (hk_kV (k := 0) (As := []) (rest := []) C (c_B_isLowLit l G ad u hI _) Y_B_isLowLit (hk_in (by decide +kernel) rfl) rfl rfl ⟨Nat.le_of_ble_eq_true rfl, Nat.le_of_ble_eq_true rfl⟩ (va_recv hE.1 hP (ci := 4) (q0 := 0) rfl rfl) hP hD rfl hl.1 rfl (Nat.le_of_ble_eq_true rfl) d_B_outputNow_65 ⟨Nat.zero_le _, Nat.zero_le _⟩) hD hS hA (fun H locs hP hD hS => ?_)
    refine hk_goIe (hk_kS (k := 1) (As := [.int (m_B_isLowLit u)]) (rest := []) C (c_B_bit l G (m_B_isLowLit u) _) Y_B_bit (hk_in (by decide +kernel) rfl) rfl rfl ⟨Nat.le_of_ble_eq_true rfl, Nat.le_of_ble_eq_true rfl⟩ hk_Pn (hk_Dn (A := A)) rfl hl.1 rfl (Nat.le_of_ble_eq_true rfl) d_B_outputNow_68 ⟨Nat.zero_le _, Nat.zero_le _⟩) hP hS hA (fun H locs hP hS => ?_)
    have e : m_B_outputNow (1 : Int32) u = m_B_bit (m_B_isLowLit u) := (if_neg (by decide)).trans ((if_pos rfl).trans (rfl))
    exact hk_ri C hAe hP hD hS e.symm rfl d_B_outputNow_71
  · skip
    refine lv_iload_n hx hb d_B_outputNow_0 rfl (lv_at hl 1 rfl) ?_
    refine lv_tableIn (tgt := 72) (off := 71) hx hb d_B_outputNow_1 (by decide) (by decide) rfl (by decide) ?_
    refine lv_aload_n hx hb d_B_outputNow_72 rfl (lv_at hl 0 rfl) ?_
    refine hk_goI (hk_kV (k := 0) (As := []) (rest := []) C (c_B_isLowLit l G ad u hI _) Y_B_isLowLit (hk_in (by decide +kernel) rfl) rfl rfl ⟨Nat.le_of_ble_eq_true rfl, Nat.le_of_ble_eq_true rfl⟩ (va_recv hE.1 hP (ci := 4) (q0 := 0) rfl rfl) hP hD rfl hl.1 rfl (Nat.le_of_ble_eq_true rfl) d_B_outputNow_73 ⟨Nat.zero_le _, Nat.zero_le _⟩) hD hS hA (fun H locs hP hD hS => ?_)
    refine lv_if_eq (tgt := 94) hx hb d_B_outputNow_76 (by decide) (fun c_1 => ?_) (fun c_1 => ?_)
    · skip
      refine lv_iconst (v := (0 : Int32)) hx hb d_B_outputNow_94 (by decide) ?_
      refine hk_goIe (hk_kS (k := 1) (As := [.int (0 : Int32)]) (rest := []) C (c_B_bit l G (0 : Int32) _) Y_B_bit (hk_in (by decide +kernel) rfl) rfl rfl ⟨Nat.le_of_ble_eq_true rfl, Nat.le_of_ble_eq_true rfl⟩ hk_Pn (hk_Dn (A := A)) rfl hl.1 rfl (Nat.le_of_ble_eq_true rfl) d_B_outputNow_95 ⟨Nat.zero_le _, Nat.zero_le _⟩) hP hS hA (fun H locs hP hS => ?_)
      have e : m_B_outputNow (2 : Int32) u = m_B_bit (0 : Int32) := (if_neg (by decide)).trans ((if_neg (by decide)).trans ((if_pos rfl).trans ((if_pos c_1).trans (rfl))))
      exact hk_ri C hAe hP hD hS e.symm rfl d_B_outputNow_98
    · skip
      refine lv_aload_n hx hb d_B_outputNow_79 rfl (lv_at hl 0 rfl) ?_
      refine hk_get (v := .ref (ad 1)) C hP 0 4 0 i_B rfl rfl (by decide) (hk_in (by decide +kernel) rfl) rfl d_B_outputNow_80 ?_
      refine lv_bipush (v := (6 : Int32)) hx hb d_B_outputNow_83 (by decide) ?_
      refine hk_ild C hP 1 0 (v := (b0 u) 6) rfl rfl (hk_inl (by decide)) rfl d_B_outputNow_85 ?_
      refine lv_iconst (v := (1 : Int32)) hx hb d_B_outputNow_86 (by decide) ?_
      refine lv_icmp_ne (tgt := 94) hx hb d_B_outputNow_87 (by decide) (fun c_2 => ?_) (fun c_2 => ?_)
      · skip
        refine lv_iconst (v := (0 : Int32)) hx hb d_B_outputNow_94 (by decide) ?_
        refine hk_goIe (hk_kS (k := 1) (As := [.int (0 : Int32)]) (rest := []) C (c_B_bit l G (0 : Int32) _) Y_B_bit (hk_in (by decide +kernel) rfl) rfl rfl ⟨Nat.le_of_ble_eq_true rfl, Nat.le_of_ble_eq_true rfl⟩ hk_Pn (hk_Dn (A := A)) rfl hl.1 rfl (Nat.le_of_ble_eq_true rfl) d_B_outputNow_95 ⟨Nat.zero_le _, Nat.zero_le _⟩) hP hS hA (fun H locs hP hS => ?_)
        have e : m_B_outputNow (2 : Int32) u = m_B_bit (0 : Int32) := (if_neg (by decide)).trans ((if_neg (by decide)).trans ((if_pos rfl).trans ((if_neg c_1).trans ((if_neg c_2).trans (rfl)))))
        exact hk_ri C hAe hP hD hS e.symm rfl d_B_outputNow_98
      · skip
        refine lv_iconst (v := (1 : Int32)) hx hb d_B_outputNow_90 (by decide) ?_
        refine lv_goto (tgt := 95) hx hb d_B_outputNow_91 (by decide) ?_
        refine hk_goIe (hk_kS (k := 1) (As := [.int (1 : Int32)]) (rest := []) C (c_B_bit l G (1 : Int32) _) Y_B_bit (hk_in (by decide +kernel) rfl) rfl rfl ⟨Nat.le_of_ble_eq_true rfl, Nat.le_of_ble_eq_true rfl⟩ hk_Pn (hk_Dn (A := A)) rfl hl.1 rfl (Nat.le_of_ble_eq_true rfl) d_B_outputNow_95 ⟨Nat.zero_le _, Nat.zero_le _⟩) hP hS hA (fun H locs hP hS => ?_)
        have e : m_B_outputNow (2 : Int32) u = m_B_bit (1 : Int32) := (if_neg (by decide)).trans ((if_neg (by decide)).trans ((if_pos rfl).trans ((if_neg c_1).trans ((if_pos c_2).trans (rfl)))))
        exact hk_ri C hAe hP hD hS e.symm rfl d_B_outputNow_98
  · skip
    refine lv_iload_n hx hb d_B_outputNow_0 rfl (lv_at hl 1 rfl) ?_
    refine lv_tableIn (tgt := 99) (off := 98) hx hb d_B_outputNow_1 (by decide) (by decide) rfl (by decide) ?_
    refine lv_aload_n hx hb d_B_outputNow_99 rfl (lv_at hl 0 rfl) ?_
    refine lv_iload_n hx hb d_B_outputNow_100 rfl (lv_at hl 1 rfl) ?_
    refine lv_iconst (v := (3 : Int32)) hx hb d_B_outputNow_101 (by decide) ?_
    refine lv_isub hx hb d_B_outputNow_102 ?_
    refine hk_fold (z := (0 : Int32)) (by decide) ?_
    refine hk_goI (hk_kV (k := 1) (As := [.int (0 : Int32)]) (rest := []) C (c_B_isSideLit l G ad u (0 : Int32) hI (Or.inl rfl) _) Y_B_isSideLit (hk_in (by decide +kernel) rfl) rfl rfl ⟨Nat.le_of_ble_eq_true rfl, Nat.le_of_ble_eq_true rfl⟩ (va_recv hE.1 hP (ci := 4) (q0 := 0) rfl rfl) hP hD rfl hl.1 rfl (Nat.le_of_ble_eq_true rfl) d_B_outputNow_103 ⟨Nat.zero_le _, Nat.zero_le _⟩) hD hS hA (fun H locs hP hD hS => ?_)
    refine hk_goIe (hk_kS (k := 1) (As := [.int (m_B_isSideLit (0 : Int32) u)]) (rest := []) C (c_B_bit l G (m_B_isSideLit (0 : Int32) u) _) Y_B_bit (hk_in (by decide +kernel) rfl) rfl rfl ⟨Nat.le_of_ble_eq_true rfl, Nat.le_of_ble_eq_true rfl⟩ hk_Pn (hk_Dn (A := A)) rfl hl.1 rfl (Nat.le_of_ble_eq_true rfl) d_B_outputNow_106 ⟨Nat.zero_le _, Nat.zero_le _⟩) hP hS hA (fun H locs hP hS => ?_)
    have e : m_B_outputNow (3 : Int32) u = m_B_bit (m_B_isSideLit (0 : Int32) u) := (if_neg (by decide)).trans ((if_neg (by decide)).trans ((if_neg (by decide)).trans ((if_pos rfl).trans (rfl))))
    exact hk_ri C hAe hP hD hS e.symm rfl d_B_outputNow_109
  · skip
    refine lv_iload_n hx hb d_B_outputNow_0 rfl (lv_at hl 1 rfl) ?_
    refine lv_tableIn (tgt := 99) (off := 98) hx hb d_B_outputNow_1 (by decide) (by decide) rfl (by decide) ?_
    refine lv_aload_n hx hb d_B_outputNow_99 rfl (lv_at hl 0 rfl) ?_
    refine lv_iload_n hx hb d_B_outputNow_100 rfl (lv_at hl 1 rfl) ?_
    refine lv_iconst (v := (3 : Int32)) hx hb d_B_outputNow_101 (by decide) ?_
    refine lv_isub hx hb d_B_outputNow_102 ?_
    refine hk_fold (z := (1 : Int32)) (by decide) ?_
    refine hk_goI (hk_kV (k := 1) (As := [.int (1 : Int32)]) (rest := []) C (c_B_isSideLit l G ad u (1 : Int32) hI (Or.inr rfl) _) Y_B_isSideLit (hk_in (by decide +kernel) rfl) rfl rfl ⟨Nat.le_of_ble_eq_true rfl, Nat.le_of_ble_eq_true rfl⟩ (va_recv hE.1 hP (ci := 4) (q0 := 0) rfl rfl) hP hD rfl hl.1 rfl (Nat.le_of_ble_eq_true rfl) d_B_outputNow_103 ⟨Nat.zero_le _, Nat.zero_le _⟩) hD hS hA (fun H locs hP hD hS => ?_)
    refine hk_goIe (hk_kS (k := 1) (As := [.int (m_B_isSideLit (1 : Int32) u)]) (rest := []) C (c_B_bit l G (m_B_isSideLit (1 : Int32) u) _) Y_B_bit (hk_in (by decide +kernel) rfl) rfl rfl ⟨Nat.le_of_ble_eq_true rfl, Nat.le_of_ble_eq_true rfl⟩ hk_Pn (hk_Dn (A := A)) rfl hl.1 rfl (Nat.le_of_ble_eq_true rfl) d_B_outputNow_106 ⟨Nat.zero_le _, Nat.zero_le _⟩) hP hS hA (fun H locs hP hS => ?_)
    have e : m_B_outputNow (4 : Int32) u = m_B_bit (m_B_isSideLit (1 : Int32) u) := (if_neg (by decide)).trans ((if_neg (by decide)).trans ((if_neg (by decide)).trans ((if_neg (by decide)).trans ((if_pos rfl).trans (rfl)))))
    exact hk_ri C hAe hP hD hS e.symm rfl d_B_outputNow_109
  · skip
    refine lv_iload_n hx hb d_B_outputNow_0 rfl (lv_at hl 1 rfl) ?_
    refine lv_tableIn (tgt := 110) (off := 109) hx hb d_B_outputNow_1 (by decide) (by decide) rfl (by decide) ?_
    refine lv_aload_n hx hb d_B_outputNow_110 rfl (lv_at hl 0 rfl) ?_
    refine hk_get (v := .ref (ad 7)) C hP 0 4 4 i_B rfl rfl (by decide) (hk_in (by decide +kernel) rfl) rfl d_B_outputNow_111 ?_
    refine hk_getN (host := "BodyRows2") (v := .int ((b4 u).2.2)) C hP 7 1 2 i_Wiper rfl rfl (by decide) (by decide +kernel) rfl d_B_outputNow_114 ?_
    have e : m_B_outputNow (5 : Int32) u = (b4 u).2.2 := (if_neg (by decide)).trans ((if_neg (by decide)).trans ((if_neg (by decide)).trans ((if_neg (by decide)).trans ((if_neg (by decide)).trans ((if_pos rfl).trans (rfl))))))
    exact hk_ri C hAe hP hD hS e.symm rfl d_B_outputNow_117
  · skip
    refine lv_iload_n hx hb d_B_outputNow_0 rfl (lv_at hl 1 rfl) ?_
    refine lv_tableIn (tgt := 118) (off := 117) hx hb d_B_outputNow_1 (by decide) (by decide) rfl (by decide) ?_
    refine lv_aload_n hx hb d_B_outputNow_118 rfl (lv_at hl 0 rfl) ?_
    refine hk_get (v := .ref (ad 1)) C hP 0 4 0 i_B rfl rfl (by decide) (hk_in (by decide +kernel) rfl) rfl d_B_outputNow_119 ?_
    refine lv_bipush (v := (7 : Int32)) hx hb d_B_outputNow_122 (by decide) ?_
    refine hk_ild C hP 1 0 (v := (b0 u) 7) rfl rfl (hk_inl (by decide)) rfl d_B_outputNow_124 ?_
    have e : m_B_outputNow (6 : Int32) u = (b0 u) 7 := (if_neg (by decide)).trans ((if_neg (by decide)).trans ((if_neg (by decide)).trans ((if_neg (by decide)).trans ((if_neg (by decide)).trans ((if_neg (by decide)).trans ((if_pos rfl).trans (rfl)))))))
    exact hk_ri C hAe hP hD hS e.symm rfl d_B_outputNow_125
  · skip
    refine lv_iload_n hx hb d_B_outputNow_0 rfl (lv_at hl 1 rfl) ?_
    refine lv_tableIn (tgt := 126) (off := 125) hx hb d_B_outputNow_1 (by decide) (by decide) rfl (by decide) ?_
    refine lv_aload_n hx hb d_B_outputNow_126 rfl (lv_at hl 0 rfl) ?_
    refine hk_get (v := .int (b9 u)) C hP 0 4 9 i_B rfl rfl (by decide) (hk_in (by decide +kernel) rfl) rfl d_B_outputNow_127 ?_
    have e : m_B_outputNow (7 : Int32) u = b9 u := (if_neg (by decide)).trans ((if_neg (by decide)).trans ((if_neg (by decide)).trans ((if_neg (by decide)).trans ((if_neg (by decide)).trans ((if_neg (by decide)).trans ((if_neg (by decide)).trans ((if_pos rfl).trans (rfl))))))))
    exact hk_ri C hAe hP hD hS e.symm rfl d_B_outputNow_130
  · skip
    refine lv_iload_n hx hb d_B_outputNow_0 rfl (lv_at hl 1 rfl) ?_
    refine lv_tableIn (tgt := 131) (off := 130) hx hb d_B_outputNow_1 (by decide) (by decide) rfl (by decide) ?_
    refine lv_aload_n hx hb d_B_outputNow_131 rfl (lv_at hl 0 rfl) ?_
    refine hk_get (v := .int (b13 u)) C hP 0 4 13 i_B rfl rfl (by decide) (hk_in (by decide +kernel) rfl) rfl d_B_outputNow_132 ?_
    refine lv_if_eq (tgt := 153) hx hb d_B_outputNow_135 (by decide) (fun c_3 => ?_) (fun c_3 => ?_)
    · skip
      refine lv_iconst (v := (0 : Int32)) hx hb d_B_outputNow_153 (by decide) ?_
      refine hk_goIe (hk_kS (k := 1) (As := [.int (0 : Int32)]) (rest := []) C (c_B_bit l G (0 : Int32) _) Y_B_bit (hk_in (by decide +kernel) rfl) rfl rfl ⟨Nat.le_of_ble_eq_true rfl, Nat.le_of_ble_eq_true rfl⟩ hk_Pn (hk_Dn (A := A)) rfl hl.1 rfl (Nat.le_of_ble_eq_true rfl) d_B_outputNow_154 ⟨Nat.zero_le _, Nat.zero_le _⟩) hP hS hA (fun H locs hP hS => ?_)
      have e : m_B_outputNow (8 : Int32) u = m_B_bit (0 : Int32) := (if_neg (by decide)).trans ((if_neg (by decide)).trans ((if_neg (by decide)).trans ((if_neg (by decide)).trans ((if_neg (by decide)).trans ((if_neg (by decide)).trans ((if_neg (by decide)).trans ((if_neg (by decide)).trans ((if_pos rfl).trans ((if_pos c_3).trans (rfl))))))))))
      exact hk_ri C hAe hP hD hS e.symm rfl d_B_outputNow_157
    · skip
      refine lv_aload_n hx hb d_B_outputNow_138 rfl (lv_at hl 0 rfl) ?_
      refine lv_iload_n hx hb d_B_outputNow_139 rfl (lv_at hl 1 rfl) ?_
      refine lv_bipush (v := (8 : Int32)) hx hb d_B_outputNow_140 (by decide) ?_
      refine lv_isub hx hb d_B_outputNow_142 ?_
      refine hk_fold (z := (0 : Int32)) (by decide) ?_
      refine hk_goI (hk_kV (k := 1) (As := [.int (0 : Int32)]) (rest := []) C (c_B_isSideLit l G ad u (0 : Int32) hI (Or.inl rfl) _) Y_B_isSideLit (hk_in (by decide +kernel) rfl) rfl rfl ⟨Nat.le_of_ble_eq_true rfl, Nat.le_of_ble_eq_true rfl⟩ (va_recv hE.1 hP (ci := 4) (q0 := 0) rfl rfl) hP hD rfl hl.1 rfl (Nat.le_of_ble_eq_true rfl) d_B_outputNow_143 ⟨Nat.zero_le _, Nat.zero_le _⟩) hD hS hA (fun H locs hP hD hS => ?_)
      refine lv_if_eq (tgt := 153) hx hb d_B_outputNow_146 (by decide) (fun c_4 => ?_) (fun c_4 => ?_)
      · skip
        refine lv_iconst (v := (0 : Int32)) hx hb d_B_outputNow_153 (by decide) ?_
        refine hk_goIe (hk_kS (k := 1) (As := [.int (0 : Int32)]) (rest := []) C (c_B_bit l G (0 : Int32) _) Y_B_bit (hk_in (by decide +kernel) rfl) rfl rfl ⟨Nat.le_of_ble_eq_true rfl, Nat.le_of_ble_eq_true rfl⟩ hk_Pn (hk_Dn (A := A)) rfl hl.1 rfl (Nat.le_of_ble_eq_true rfl) d_B_outputNow_154 ⟨Nat.zero_le _, Nat.zero_le _⟩) hP hS hA (fun H locs hP hS => ?_)
        have e : m_B_outputNow (8 : Int32) u = m_B_bit (0 : Int32) := (if_neg (by decide)).trans ((if_neg (by decide)).trans ((if_neg (by decide)).trans ((if_neg (by decide)).trans ((if_neg (by decide)).trans ((if_neg (by decide)).trans ((if_neg (by decide)).trans ((if_neg (by decide)).trans ((if_pos rfl).trans ((if_neg c_3).trans ((if_pos c_4).trans (rfl)))))))))))
        exact hk_ri C hAe hP hD hS e.symm rfl d_B_outputNow_157
      · skip
        refine lv_iconst (v := (1 : Int32)) hx hb d_B_outputNow_149 (by decide) ?_
        refine lv_goto (tgt := 154) hx hb d_B_outputNow_150 (by decide) ?_
        refine hk_goIe (hk_kS (k := 1) (As := [.int (1 : Int32)]) (rest := []) C (c_B_bit l G (1 : Int32) _) Y_B_bit (hk_in (by decide +kernel) rfl) rfl rfl ⟨Nat.le_of_ble_eq_true rfl, Nat.le_of_ble_eq_true rfl⟩ hk_Pn (hk_Dn (A := A)) rfl hl.1 rfl (Nat.le_of_ble_eq_true rfl) d_B_outputNow_154 ⟨Nat.zero_le _, Nat.zero_le _⟩) hP hS hA (fun H locs hP hS => ?_)
        have e : m_B_outputNow (8 : Int32) u = m_B_bit (1 : Int32) := (if_neg (by decide)).trans ((if_neg (by decide)).trans ((if_neg (by decide)).trans ((if_neg (by decide)).trans ((if_neg (by decide)).trans ((if_neg (by decide)).trans ((if_neg (by decide)).trans ((if_neg (by decide)).trans ((if_pos rfl).trans ((if_neg c_3).trans ((if_neg c_4).trans (rfl)))))))))))
        exact hk_ri C hAe hP hD hS e.symm rfl d_B_outputNow_157
  · skip
    refine lv_iload_n hx hb d_B_outputNow_0 rfl (lv_at hl 1 rfl) ?_
    refine lv_tableIn (tgt := 131) (off := 130) hx hb d_B_outputNow_1 (by decide) (by decide) rfl (by decide) ?_
    refine lv_aload_n hx hb d_B_outputNow_131 rfl (lv_at hl 0 rfl) ?_
    refine hk_get (v := .int (b13 u)) C hP 0 4 13 i_B rfl rfl (by decide) (hk_in (by decide +kernel) rfl) rfl d_B_outputNow_132 ?_
    refine lv_if_eq (tgt := 153) hx hb d_B_outputNow_135 (by decide) (fun c_5 => ?_) (fun c_5 => ?_)
    · skip
      refine lv_iconst (v := (0 : Int32)) hx hb d_B_outputNow_153 (by decide) ?_
      refine hk_goIe (hk_kS (k := 1) (As := [.int (0 : Int32)]) (rest := []) C (c_B_bit l G (0 : Int32) _) Y_B_bit (hk_in (by decide +kernel) rfl) rfl rfl ⟨Nat.le_of_ble_eq_true rfl, Nat.le_of_ble_eq_true rfl⟩ hk_Pn (hk_Dn (A := A)) rfl hl.1 rfl (Nat.le_of_ble_eq_true rfl) d_B_outputNow_154 ⟨Nat.zero_le _, Nat.zero_le _⟩) hP hS hA (fun H locs hP hS => ?_)
      have e : m_B_outputNow (9 : Int32) u = m_B_bit (0 : Int32) := (if_neg (by decide)).trans ((if_neg (by decide)).trans ((if_neg (by decide)).trans ((if_neg (by decide)).trans ((if_neg (by decide)).trans ((if_neg (by decide)).trans ((if_neg (by decide)).trans ((if_neg (by decide)).trans ((if_neg (by decide)).trans ((if_pos rfl).trans ((if_pos c_5).trans (rfl)))))))))))
      exact hk_ri C hAe hP hD hS e.symm rfl d_B_outputNow_157
    · skip
      refine lv_aload_n hx hb d_B_outputNow_138 rfl (lv_at hl 0 rfl) ?_
      refine lv_iload_n hx hb d_B_outputNow_139 rfl (lv_at hl 1 rfl) ?_
      refine lv_bipush (v := (8 : Int32)) hx hb d_B_outputNow_140 (by decide) ?_
      refine lv_isub hx hb d_B_outputNow_142 ?_
      refine hk_fold (z := (1 : Int32)) (by decide) ?_
      refine hk_goI (hk_kV (k := 1) (As := [.int (1 : Int32)]) (rest := []) C (c_B_isSideLit l G ad u (1 : Int32) hI (Or.inr rfl) _) Y_B_isSideLit (hk_in (by decide +kernel) rfl) rfl rfl ⟨Nat.le_of_ble_eq_true rfl, Nat.le_of_ble_eq_true rfl⟩ (va_recv hE.1 hP (ci := 4) (q0 := 0) rfl rfl) hP hD rfl hl.1 rfl (Nat.le_of_ble_eq_true rfl) d_B_outputNow_143 ⟨Nat.zero_le _, Nat.zero_le _⟩) hD hS hA (fun H locs hP hD hS => ?_)
      refine lv_if_eq (tgt := 153) hx hb d_B_outputNow_146 (by decide) (fun c_6 => ?_) (fun c_6 => ?_)
      · skip
        refine lv_iconst (v := (0 : Int32)) hx hb d_B_outputNow_153 (by decide) ?_
        refine hk_goIe (hk_kS (k := 1) (As := [.int (0 : Int32)]) (rest := []) C (c_B_bit l G (0 : Int32) _) Y_B_bit (hk_in (by decide +kernel) rfl) rfl rfl ⟨Nat.le_of_ble_eq_true rfl, Nat.le_of_ble_eq_true rfl⟩ hk_Pn (hk_Dn (A := A)) rfl hl.1 rfl (Nat.le_of_ble_eq_true rfl) d_B_outputNow_154 ⟨Nat.zero_le _, Nat.zero_le _⟩) hP hS hA (fun H locs hP hS => ?_)
        have e : m_B_outputNow (9 : Int32) u = m_B_bit (0 : Int32) := (if_neg (by decide)).trans ((if_neg (by decide)).trans ((if_neg (by decide)).trans ((if_neg (by decide)).trans ((if_neg (by decide)).trans ((if_neg (by decide)).trans ((if_neg (by decide)).trans ((if_neg (by decide)).trans ((if_neg (by decide)).trans ((if_pos rfl).trans ((if_neg c_5).trans ((if_pos c_6).trans (rfl))))))))))))
        exact hk_ri C hAe hP hD hS e.symm rfl d_B_outputNow_157
      · skip
        refine lv_iconst (v := (1 : Int32)) hx hb d_B_outputNow_149 (by decide) ?_
        refine lv_goto (tgt := 154) hx hb d_B_outputNow_150 (by decide) ?_
        refine hk_goIe (hk_kS (k := 1) (As := [.int (1 : Int32)]) (rest := []) C (c_B_bit l G (1 : Int32) _) Y_B_bit (hk_in (by decide +kernel) rfl) rfl rfl ⟨Nat.le_of_ble_eq_true rfl, Nat.le_of_ble_eq_true rfl⟩ hk_Pn (hk_Dn (A := A)) rfl hl.1 rfl (Nat.le_of_ble_eq_true rfl) d_B_outputNow_154 ⟨Nat.zero_le _, Nat.zero_le _⟩) hP hS hA (fun H locs hP hS => ?_)
        have e : m_B_outputNow (9 : Int32) u = m_B_bit (1 : Int32) := (if_neg (by decide)).trans ((if_neg (by decide)).trans ((if_neg (by decide)).trans ((if_neg (by decide)).trans ((if_neg (by decide)).trans ((if_neg (by decide)).trans ((if_neg (by decide)).trans ((if_neg (by decide)).trans ((if_neg (by decide)).trans ((if_pos rfl).trans ((if_neg c_5).trans ((if_neg c_6).trans (rfl))))))))))))
        exact hk_ri C hAe hP hD hS e.symm rfl d_B_outputNow_157
theorem Y_B_noteOutputs : hk_Y y_B_noteOutputs b_B_noteOutputs 2 none 0 := ⟨hk_in (by decide +kernel) rfl, hk_in (by decide +kernel) rfl, hk_in (by decide +kernel) rfl, hk_in (List.mem_of_getElem? (i := 215) rfl) rfl, by decide, by decide, by decide +kernel⟩
abbrev rm_B_noteOutputs : Room := { frames := 4, cells := 0, slots := 0, locals := 83 }
set_option maxHeartbeats 4000000 in
set_option maxRecDepth 100000 in
theorem lp_B_noteOutputs_2 {p : Program} {l : Launch} {e : Env} {s : State} {m : MethodId} {below : List Frame} {meth : Method} {c : Code} {A : Nat → Prop} {Q : State → Prop} (G : hk_G) (ad : Nat → Nat) (u : cB) (hI : Iv u) (C : hk_C p s m meth c R_B b_B_noteOutputs 2 none ([.ref (ad 0)] : List Value).toArray G) (hA : ∀ q : Nat, s.heap.size ≤ q → A q) (n : Nat) (hn : n < 2 ^ 31) (hbn : (10 : Int32) = nI n) (hn10 : n ≤ 10)
    (kx : ∀ (H : Heap) (locs : List Loc) (ls : Array Slot), va_P (hk_D G) classes (wB G ad (li_B_noteOutputs_2 u n)) H → va_D A (wB G ad (li_B_noteOutputs_2 u n)) → va_S A s.heap H locs → lv_has ls 2 [(0, .ref (ad 0)), (1, .int (nI n))] → W p l e rm_B_noteOutputs s m ([.ref (ad 0)] : List Value).toArray below meth c H locs 0 0 Q (F0 m 25 ls [])) :
    ∀ (j k : Nat), k ≤ n → n + 1 ≤ k + j → ∀ (H : Heap) (locs : List Loc) (ls : Array Slot), va_P (hk_D G) classes (wB G ad (li_B_noteOutputs_2 u k)) H → va_D A (wB G ad (li_B_noteOutputs_2 u k)) → va_S A s.heap H locs → lv_has ls 2 [(0, .ref (ad 0)), (1, .int (nI k))] → W p l e rm_B_noteOutputs s m ([.ref (ad 0)] : List Value).toArray below meth c H locs 0 0 Q (F0 m 2 ls []) := by
  have hx := C.1
  have hb := C.2.1
  have hown := C.2.2.2.2.1
  have hts := C.2.2.2.2.2.1
  have hE := C.2.2.2.2.2.2.2
  intro j
  induction j with
  | zero =>
    intro k h1 h2
    exact absurd h2 (by omega)
  | succ j ih =>
    intro k hkn hj H locs ls hP hD hS hl
    refine lv_iload_n hx hb d_B_noteOutputs_2 rfl (lv_at hl 1 rfl) ?_
    refine lv_bipush (v := (10 : Int32)) hx hb d_B_noteOutputs_3 (by decide) ?_
    refine lv_icmp_ge (tgt := 25) hx hb d_B_noteOutputs_5 (by decide) (fun c_0 => ?_) (fun c_0 => ?_)
    · obtain rfl := hk_exit (n := n) hbn hn hkn c_0
      exact kx H locs ls hP hD hS (lv_sub hl [0, 1] rfl)
    · have hlt := hk_stay (n := n) hbn hn hkn c_0
      refine lv_aload_n hx hb d_B_noteOutputs_8 rfl (lv_at hl 0 rfl) ?_
      refine hk_get (v := .ref (ad 2)) C hP 0 4 1 i_B rfl rfl (by decide) (hk_in (by decide +kernel) rfl) rfl d_B_noteOutputs_9 ?_
      refine lv_iload_n hx hb d_B_noteOutputs_12 rfl (lv_at hl 1 rfl) ?_
      refine lv_aload_n hx hb d_B_noteOutputs_13 rfl (lv_at hl 0 rfl) ?_
      refine lv_iload_n hx hb d_B_noteOutputs_14 rfl (lv_at hl 1 rfl) ?_
      refine hk_goI (hk_kV (k := 1) (As := [.int (nI k)]) (rest := [.int (nI k), .ref (ad 2)]) C (c_B_outputNow l G ad (li_B_noteOutputs_2 u k) (nI k) (iv_note hI k) (hk_d10 (by omega)) _) Y_B_outputNow (hk_in (by decide +kernel) rfl) rfl rfl ⟨Nat.le_of_ble_eq_true rfl, Nat.le_of_ble_eq_true rfl⟩ (va_recv hE.1 hP (ci := 4) (q0 := 0) rfl rfl) hP hD rfl hl.1 rfl (Nat.le_of_ble_eq_true rfl) d_B_noteOutputs_15 ⟨Nat.zero_le _, Nat.zero_le _⟩) hD hS hA (fun H locs hP hD hS => ?_)
      refine hk_ist (w2 := wB G ad (f_B_noteOutputs_18 k (li_B_noteOutputs_2 u k))) C hP hD hS 2 0 rfl rfl (vp_in_nI (by omega) (by decide)) (by rw [nI_clamp (by omega)]; rfl) d_B_noteOutputs_18 (fun H locs hP hD hS => ?_)
      have hI1 : Iv (f_B_noteOutputs_18 k (li_B_noteOutputs_2 u k)) := (Iv_of (k2_f_B_noteOutputs_18 _ _) (k6_f_B_noteOutputs_18 _ _) (iv_note hI k))
      obtain ⟨U1, hU1⟩ : ∃ z, (f_B_noteOutputs_18 k (li_B_noteOutputs_2 u k)) = z := ⟨_, rfl⟩
      rw [hU1] at hP hD hI1
      refine lv_iinc (v := nI (k + 1)) (lv' := [(1, .int (nI (k + 1))), (0, .ref (ad 0))]) hx hb d_B_noteOutputs_19 hl (k := 1) rfl (nI_1 k) (by decide) rfl (fun ls hl => ?_)
      refine lv_goto (tgt := 2) hx hb d_B_noteOutputs_22 (by decide) ?_
      subst hU1
      have e : li_B_noteOutputs_2 u (k + 1) = (f_B_noteOutputs_18 k (li_B_noteOutputs_2 u k)) := rfl
      exact ih (k + 1) hlt (by omega) _ _ _ (by rw [e]; exact hP) (by rw [e]; exact hD) hS (lv_sub hl [1, 0] rfl)
set_option maxHeartbeats 4000000 in
set_option maxRecDepth 100000 in
theorem c_B_noteOutputs (l : Launch) (G : hk_G) (ad : Nat → Nat) (u : cB) (hI : Iv u) : hk_V l G y_B_noteOutputs b_B_noteOutputs 2 rm_B_noteOutputs [.ref (ad 0)] (wB G ad u) (wB G ad (m_B_noteOutputs u)) := by
  refine hk_V_of (by decide) (Nat.le_of_ble_eq_true rfl) ?_
  intro p e s m below meth c A ls C hAe hA hP hD hS hl
  have hx := C.1
  have hb := C.2.1
  have hown := C.2.2.2.2.1
  have hts := C.2.2.2.2.2.1
  have hE := C.2.2.2.2.2.2.2
  have hl : lv_has ls 2 [(0, .ref (ad 0))] := hl
  refine lv_iconst (v := (0 : Int32)) hx hb d_B_noteOutputs_0 (by decide) ?_
  refine lv_istore_n (lv' := [(1, .int (0 : Int32)), (0, .ref (ad 0))]) hx hb d_B_noteOutputs_1 rfl hl (by decide) rfl (fun ls hl => ?_)
  refine lp_B_noteOutputs_2 G ad u hI C hA 10 (by decide) rfl (by decide) (fun H locs ls hP hD hS hl => ?_) (10 + 1) 0 (Nat.zero_le _) (by omega) _ _ _ hP hD hS (lv_sub hl [1, 0] rfl)
  have e : m_B_noteOutputs u = (li_B_noteOutputs_2 u 10) := rfl
  exact hk_rv C hAe hP hD hS (by rw [e]) d_B_noteOutputs_25
theorem Y_B_countChangedOutputs : hk_Y y_B_countChangedOutputs b_B_countChangedOutputs 3 (some .int) 0 := ⟨hk_in (by decide +kernel) rfl, hk_in (by decide +kernel) rfl, hk_in (by decide +kernel) rfl, hk_in (List.mem_of_getElem? (i := 273) rfl) rfl, by decide, by decide, by decide +kernel⟩
abbrev rm_B_countChangedOutputs : Room := { frames := 4, cells := 0, slots := 0, locals := 83 }
set_option maxHeartbeats 4000000 in
set_option maxRecDepth 100000 in
theorem lp_B_countChangedOutputs_4 {p : Program} {l : Launch} {e : Env} {s : State} {m : MethodId} {below : List Frame} {meth : Method} {c : Code} {A : Nat → Prop} {Q : State → Prop} (G : hk_G) (ad : Nat → Nat) (u : cB) (hI : Iv u) (C : hk_C p s m meth c R_B b_B_countChangedOutputs 3 (some .int) ([.ref (ad 0)] : List Value).toArray G) (hA : ∀ q : Nat, s.heap.size ≤ q → A q) (n : Nat) (hn : n < 2 ^ 31) (hbn : (10 : Int32) = nI n) (hn10 : n ≤ 10)
    (kx : ∀ (H : Heap) (locs : List Loc) (ls : Array Slot), va_P (hk_D G) classes (wB G ad u) H → va_D A (wB G ad u) → va_S A s.heap H locs → lv_has ls 3 [(0, .ref (ad 0)), (1, .int (li_B_countChangedOutputs_4 u n)), (2, .int (nI n))] → W p l e rm_B_countChangedOutputs s m ([.ref (ad 0)] : List Value).toArray below meth c H locs 0 0 Q (F0 m 33 ls [])) :
    ∀ (j k : Nat), k ≤ n → n + 1 ≤ k + j → ∀ (H : Heap) (locs : List Loc) (ls : Array Slot), va_P (hk_D G) classes (wB G ad u) H → va_D A (wB G ad u) → va_S A s.heap H locs → lv_has ls 3 [(0, .ref (ad 0)), (1, .int (li_B_countChangedOutputs_4 u k)), (2, .int (nI k))] → W p l e rm_B_countChangedOutputs s m ([.ref (ad 0)] : List Value).toArray below meth c H locs 0 0 Q (F0 m 4 ls []) := by
  have hx := C.1
  have hb := C.2.1
  have hown := C.2.2.2.2.1
  have hts := C.2.2.2.2.2.1
  have hE := C.2.2.2.2.2.2.2
  intro j
  induction j with
  | zero =>
    intro k h1 h2
    exact absurd h2 (by omega)
  | succ j ih =>
    intro k hkn hj H locs ls hP hD hS hl
    refine lv_iload_n hx hb d_B_countChangedOutputs_4 rfl (lv_at hl 2 rfl) ?_
    refine lv_bipush (v := (10 : Int32)) hx hb d_B_countChangedOutputs_5 (by decide) ?_
    refine lv_icmp_ge (tgt := 33) hx hb d_B_countChangedOutputs_7 (by decide) (fun c_0 => ?_) (fun c_0 => ?_)
    · obtain rfl := hk_exit (n := n) hbn hn hkn c_0
      exact kx H locs ls hP hD hS (lv_sub hl [0, 1, 2] rfl)
    · have hlt := hk_stay (n := n) hbn hn hkn c_0
      refine lv_aload_n hx hb d_B_countChangedOutputs_10 rfl (lv_at hl 0 rfl) ?_
      refine lv_iload_n hx hb d_B_countChangedOutputs_11 rfl (lv_at hl 2 rfl) ?_
      refine hk_goI (hk_kV (k := 1) (As := [.int (nI k)]) (rest := []) C (c_B_outputNow l G ad u (nI k) hI (hk_d10 (by omega)) _) Y_B_outputNow (hk_in (by decide +kernel) rfl) rfl rfl ⟨Nat.le_of_ble_eq_true rfl, Nat.le_of_ble_eq_true rfl⟩ (va_recv hE.1 hP (ci := 4) (q0 := 0) rfl rfl) hP hD rfl hl.1 rfl (Nat.le_of_ble_eq_true rfl) d_B_countChangedOutputs_12 ⟨Nat.zero_le _, Nat.zero_le _⟩) hD hS hA (fun H locs hP hD hS => ?_)
      refine lv_aload_n hx hb d_B_countChangedOutputs_15 rfl (lv_at hl 0 rfl) ?_
      refine hk_get (v := .ref (ad 2)) C hP 0 4 1 i_B rfl rfl (by decide) (hk_in (by decide +kernel) rfl) rfl d_B_countChangedOutputs_16 ?_
      refine lv_iload_n hx hb d_B_countChangedOutputs_19 rfl (lv_at hl 2 rfl) ?_
      refine hk_ild C hP 2 0 (v := (b1 u) k) rfl rfl (vp_in_nI (by omega) (by decide)) (congrArg _ (nI_clamp (by omega))) d_B_countChangedOutputs_20 ?_
      refine lv_icmp_eq (tgt := 27) hx hb d_B_countChangedOutputs_21 (by decide) (fun c_1 => ?_) (fun c_1 => ?_)
      · skip
        refine lv_iinc (v := nI (k + 1)) (lv' := [(2, .int (nI (k + 1))), (0, .ref (ad 0)), (1, .int (li_B_countChangedOutputs_4 u k))]) hx hb d_B_countChangedOutputs_27 hl (k := 2) rfl (nI_1 k) (by decide) rfl (fun ls hl => ?_)
        refine lv_goto (tgt := 4) hx hb d_B_countChangedOutputs_30 (by decide) ?_
        have e : li_B_countChangedOutputs_4 u (k + 1) = (li_B_countChangedOutputs_4 u k) := (if_pos c_1).trans (rfl)
        exact ih (k + 1) hlt (by omega) _ _ _ hP hD hS (by rw [e]; exact lv_sub hl [1, 2, 0] rfl)
      · skip
        refine lv_iinc (v := (li_B_countChangedOutputs_4 u k) + (1 : Int32)) (lv' := [(1, .int ((li_B_countChangedOutputs_4 u k) + (1 : Int32))), (0, .ref (ad 0)), (2, .int (nI k))]) hx hb d_B_countChangedOutputs_24 hl (k := 1) rfl rfl (by decide) rfl (fun ls hl => ?_)
        refine lv_iinc (v := nI (k + 1)) (lv' := [(2, .int (nI (k + 1))), (1, .int ((li_B_countChangedOutputs_4 u k) + (1 : Int32))), (0, .ref (ad 0))]) hx hb d_B_countChangedOutputs_27 hl (k := 2) rfl (nI_1 k) (by decide) rfl (fun ls hl => ?_)
        refine lv_goto (tgt := 4) hx hb d_B_countChangedOutputs_30 (by decide) ?_
        have e : li_B_countChangedOutputs_4 u (k + 1) = (li_B_countChangedOutputs_4 u k) + (1 : Int32) := (if_neg c_1).trans (rfl)
        exact ih (k + 1) hlt (by omega) _ _ _ hP hD hS (by rw [e]; exact lv_sub hl [2, 1, 0] rfl)
set_option maxHeartbeats 4000000 in
set_option maxRecDepth 100000 in
theorem c_B_countChangedOutputs (l : Launch) (G : hk_G) (ad : Nat → Nat) (u : cB) (hI : Iv u) : hk_I l G y_B_countChangedOutputs b_B_countChangedOutputs 3 (some .int) rm_B_countChangedOutputs [.ref (ad 0)] (wB G ad u) (m_B_countChangedOutputs u) (wB G ad u) := by
  refine hk_I_of (by decide) (Nat.le_of_ble_eq_true rfl) ?_
  intro p e s m below meth c A ls C hAe hA hP hD hS hl
  have hx := C.1
  have hb := C.2.1
  have hown := C.2.2.2.2.1
  have hts := C.2.2.2.2.2.1
  have hE := C.2.2.2.2.2.2.2
  have hl : lv_has ls 3 [(0, .ref (ad 0))] := hl
  refine lv_iconst (v := (0 : Int32)) hx hb d_B_countChangedOutputs_0 (by decide) ?_
  refine lv_istore_n (lv' := [(1, .int (0 : Int32)), (0, .ref (ad 0))]) hx hb d_B_countChangedOutputs_1 rfl hl (by decide) rfl (fun ls hl => ?_)
  refine lv_iconst (v := (0 : Int32)) hx hb d_B_countChangedOutputs_2 (by decide) ?_
  refine lv_istore_n (lv' := [(2, .int (0 : Int32)), (1, .int (0 : Int32)), (0, .ref (ad 0))]) hx hb d_B_countChangedOutputs_3 rfl hl (by decide) rfl (fun ls hl => ?_)
  refine lp_B_countChangedOutputs_4 G ad u hI C hA 10 (by decide) rfl (by decide) (fun H locs ls hP hD hS hl => ?_) (10 + 1) 0 (Nat.zero_le _) (by omega) _ _ _ hP hD hS (lv_sub hl [2, 1, 0] rfl)
  refine lv_iload_n hx hb d_B_countChangedOutputs_33 rfl (lv_at hl 1 rfl) ?_
  have e : m_B_countChangedOutputs u = li_B_countChangedOutputs_4 u 10 := rfl
  exact hk_ri C hAe hP hD hS e.symm rfl d_B_countChangedOutputs_34
