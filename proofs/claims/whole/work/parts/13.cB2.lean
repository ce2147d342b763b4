theorem Y_B_isWanted : hk_Y y_B_isWanted b_B_isWanted 2 (some .boolean) 1 := ⟨hk_in (by decide +kernel) rfl, hk_in (by decide +kernel) rfl, hk_in (by decide +kernel) rfl, hk_in (List.mem_of_getElem? (i := 261) rfl) rfl, by decide, by decide, by decide +kernel⟩
abbrev rm_B_isWanted : Room := { frames := 0, cells := 0, slots := 0, locals := 0 }
set_option maxHeartbeats 4000000 in
set_option maxRecDepth 100000 in
theorem c_B_isWanted (l : Launch) (G : hk_G) (ad : Nat → Nat) (u : cB) (p1 : Int32) (hI : Iv u) : hk_I l G y_B_isWanted b_B_isWanted 2 (some .boolean) rm_B_isWanted [.ref (ad 0), .int p1] (wB G ad u) (m_B_isWanted p1 u) (wB G ad u) := by
  refine hk_I_of (by decide) (Nat.le_of_ble_eq_true rfl) ?_
  intro p e s m below meth c A ls C hAe hA hP hD hS hl
  have hx := C.1
  have hb := C.2.1
  have hown := C.2.2.2.2.1
  have hts := C.2.2.2.2.2.1
  have hE := C.2.2.2.2.2.2.2
  have hl : lv_has ls 2 [(0, .ref (ad 0)), (1, .int p1)] := hl
  refine lv_aload_n hx hb d_B_isWanted_0 rfl (lv_at hl 0 rfl) ?_
  refine hk_get (v := .int (b12 u)) C hP 0 4 12 i_B rfl rfl (by decide) (hk_in (by decide +kernel) rfl) rfl d_B_isWanted_1 ?_
  refine lv_if_ne (tgt := 29) hx hb d_B_isWanted_4 (by decide) (fun c_1 => ?_) (fun c_1 => ?_)
  · skip
    refine lv_iconst (v := (1 : Int32)) hx hb d_B_isWanted_29 (by decide) ?_
    refine lv_goto (tgt := 34) hx hb d_B_isWanted_30 (by decide) ?_
    have e : m_B_isWanted p1 u = (1 : Int32) := (if_neg c_1).trans (rfl)
    exact hk_rz C hAe hP hD hS (Or.inr rfl) e.symm rfl d_B_isWanted_34
  · skip
    refine lv_aload_n hx hb d_B_isWanted_7 rfl (lv_at hl 0 rfl) ?_
    refine hk_get (v := .ref (ad 1)) C hP 0 4 0 i_B rfl rfl (by decide) (hk_in (by decide +kernel) rfl) rfl d_B_isWanted_8 ?_
    refine lv_iconst (v := (3 : Int32)) hx hb d_B_isWanted_11 (by decide) ?_
    refine hk_ild C hP 1 0 (v := (b0 u) 3) rfl rfl (hk_inl (by decide)) rfl d_B_isWanted_12 ?_
    refine lv_iconst (v := (1 : Int32)) hx hb d_B_isWanted_13 (by decide) ?_
    refine lv_icmp_eq (tgt := 29) hx hb d_B_isWanted_14 (by decide) (fun c_2 => ?_) (fun c_2 => ?_)
    · skip
      refine lv_iconst (v := (1 : Int32)) hx hb d_B_isWanted_29 (by decide) ?_
      refine lv_goto (tgt := 34) hx hb d_B_isWanted_30 (by decide) ?_
      have e : m_B_isWanted p1 u = (1 : Int32) := (if_pos c_1).trans ((if_pos c_2).trans (rfl))
      exact hk_rz C hAe hP hD hS (Or.inr rfl) e.symm rfl d_B_isWanted_34
    · skip
      refine lv_aload_n hx hb d_B_isWanted_17 rfl (lv_at hl 0 rfl) ?_
      refine hk_get (v := .ref (ad 1)) C hP 0 4 0 i_B rfl rfl (by decide) (hk_in (by decide +kernel) rfl) rfl d_B_isWanted_18 ?_
      refine lv_iconst (v := (2 : Int32)) hx hb d_B_isWanted_21 (by decide) ?_
      refine hk_ild C hP 1 0 (v := (b0 u) 2) rfl rfl (hk_inl (by decide)) rfl d_B_isWanted_22 ?_
      refine lv_iload_n hx hb d_B_isWanted_23 rfl (lv_at hl 1 rfl) ?_
      refine lv_iconst (v := (1 : Int32)) hx hb d_B_isWanted_24 (by decide) ?_
      refine lv_iadd hx hb d_B_isWanted_25 ?_
      refine lv_icmp_ne (tgt := 33) hx hb d_B_isWanted_26 (by decide) (fun c_3 => ?_) (fun c_3 => ?_)
      · skip
        refine lv_iconst (v := (0 : Int32)) hx hb d_B_isWanted_33 (by decide) ?_
        have e : m_B_isWanted p1 u = (0 : Int32) := (if_pos c_1).trans ((if_neg c_2).trans ((if_neg c_3).trans (rfl)))
        exact hk_rz C hAe hP hD hS (Or.inl rfl) e.symm rfl d_B_isWanted_34
      · skip
        refine lv_iconst (v := (1 : Int32)) hx hb d_B_isWanted_29 (by decide) ?_
        refine lv_goto (tgt := 34) hx hb d_B_isWanted_30 (by decide) ?_
        have e : m_B_isWanted p1 u = (1 : Int32) := (if_pos c_1).trans ((if_neg c_2).trans ((if_pos c_3).trans (rfl)))
        exact hk_rz C hAe hP hD hS (Or.inr rfl) e.symm rfl d_B_isWanted_34
theorem Y_B_beginWantedSides : hk_Y y_B_beginWantedSides b_B_beginWantedSides 2 none 0 := ⟨hk_in (by decide +kernel) rfl, hk_in (by decide +kernel) rfl, hk_in (by decide +kernel) rfl, hk_in (List.mem_of_getElem? (i := 257) rfl) rfl, by decide, by decide, by decide +kernel⟩
abbrev rm_B_beginWantedSides : Room := { frames := 1, cells := 0, slots := 0, locals := 21 }
set_option maxHeartbeats 4000000 in
set_option maxRecDepth 100000 in
theorem c_B_beginWantedSides (l : Launch) (G : hk_G) (ad : Nat → Nat) (u : cB) (hI : Iv u) : hk_V l G y_B_beginWantedSides b_B_beginWantedSides 2 rm_B_beginWantedSides [.ref (ad 0)] (wB G ad u) (wB G ad (m_B_beginWantedSides u)) := by
  refine hk_V_of (by decide) (Nat.le_of_ble_eq_true rfl) ?_
  intro p e s m below meth c A ls C hAe hA hP hD hS hl
  have hx := C.1
  have hb := C.2.1
  have hown := C.2.2.2.2.1
  have hts := C.2.2.2.2.2.1
  have hE := C.2.2.2.2.2.2.2
  have hl : lv_has ls 2 [(0, .ref (ad 0))] := hl
  refine lv_iconst (v := (0 : Int32)) hx hb d_B_beginWantedSides_0 (by decide) ?_
  refine lv_istore_n (lv' := [(1, .int (0 : Int32)), (0, .ref (ad 0))]) hx hb d_B_beginWantedSides_1 rfl hl (by decide) rfl (fun ls hl => ?_)
  refine lv_iload_n hx hb d_B_beginWantedSides_2 rfl (lv_at hl 0 rfl) ?_
  refine lv_iconst (v := (2 : Int32)) hx hb d_B_beginWantedSides_3 (by decide) ?_
  refine lv_icmp_ge (tgt := 30) hx hb d_B_beginWantedSides_4 (by decide) (fun c_1 => absurd c_1 (by decide)) (fun c_1 => ?_)
  refine lv_aload_n hx hb d_B_beginWantedSides_7 rfl (lv_at hl 1 rfl) ?_
  refine lv_iload_n hx hb d_B_beginWantedSides_8 rfl (lv_at hl 0 rfl) ?_
  refine hk_goI (hk_kV (k := 1) (As := [.int (0 : Int32)]) (rest := []) C (c_B_isWanted l G ad u (0 : Int32) hI _) Y_B_isWanted (hk_in (by decide +kernel) rfl) rfl rfl ⟨Nat.le_of_ble_eq_true rfl, Nat.le_of_ble_eq_true rfl⟩ (va_recv hE.1 hP (ci := 4) (q0 := 0) rfl rfl) hP hD rfl hl.1 rfl (Nat.le_of_ble_eq_true rfl) d_B_beginWantedSides_9 ⟨Nat.zero_le _, Nat.zero_le _⟩) hD hS hA (fun H locs hP hD hS => ?_)
  refine lv_if_eq (tgt := 24) hx hb d_B_beginWantedSides_12 (by decide) (fun c_2 => ?_) (fun c_2 => ?_)
  · skip
    refine lv_iinc (v := (1 : Int32)) (lv' := [(1, .int (1 : Int32)), (0, .ref (ad 0))]) hx hb d_B_beginWantedSides_24 hl (k := 0) rfl (by decide) (by decide) rfl (fun ls hl => ?_)
    refine lv_goto (tgt := 2) hx hb d_B_beginWantedSides_27 (by decide) ?_
    refine lv_iload_n hx hb d_B_beginWantedSides_2 rfl (lv_at hl 0 rfl) ?_
    refine lv_iconst (v := (2 : Int32)) hx hb d_B_beginWantedSides_3 (by decide) ?_
    refine lv_icmp_ge (tgt := 30) hx hb d_B_beginWantedSides_4 (by decide) (fun c_3 => absurd c_3 (by decide)) (fun c_3 => ?_)
    refine lv_aload_n hx hb d_B_beginWantedSides_7 rfl (lv_at hl 1 rfl) ?_
    refine lv_iload_n hx hb d_B_beginWantedSides_8 rfl (lv_at hl 0 rfl) ?_
    refine hk_goI (hk_kV (k := 1) (As := [.int (1 : Int32)]) (rest := []) C (c_B_isWanted l G ad u (1 : Int32) hI _) Y_B_isWanted (hk_in (by decide +kernel) rfl) rfl rfl ⟨Nat.le_of_ble_eq_true rfl, Nat.le_of_ble_eq_true rfl⟩ (va_recv hE.1 hP (ci := 4) (q0 := 0) rfl rfl) hP hD rfl hl.1 rfl (Nat.le_of_ble_eq_true rfl) d_B_beginWantedSides_9 ⟨Nat.zero_le _, Nat.zero_le _⟩) hD hS hA (fun H locs hP hD hS => ?_)
    refine lv_if_eq (tgt := 24) hx hb d_B_beginWantedSides_12 (by decide) (fun c_4 => ?_) (fun c_4 => ?_)
    · skip
      refine lv_iinc (v := (2 : Int32)) (lv' := [(1, .int (2 : Int32)), (0, .ref (ad 0))]) hx hb d_B_beginWantedSides_24 hl (k := 0) rfl (by decide) (by decide) rfl (fun ls hl => ?_)
      refine lv_goto (tgt := 2) hx hb d_B_beginWantedSides_27 (by decide) ?_
      refine lv_iload_n hx hb d_B_beginWantedSides_2 rfl (lv_at hl 0 rfl) ?_
      refine lv_iconst (v := (2 : Int32)) hx hb d_B_beginWantedSides_3 (by decide) ?_
      refine lv_icmp_ge (tgt := 30) hx hb d_B_beginWantedSides_4 (by decide) (fun c_5 => ?_) (fun c_5 => absurd (by decide) c_5)
      have e : m_B_beginWantedSides u = u := (if_pos c_2).trans ((if_pos c_4).trans (rfl))
      exact hk_rv C hAe hP hD hS (by rw [e]) d_B_beginWantedSides_30
    · skip
      refine lv_aload_n hx hb d_B_beginWantedSides_15 rfl (lv_at hl 1 rfl) ?_
      refine hk_get (v := .ref (ad 4)) C hP 0 4 3 i_B rfl rfl (by decide) (hk_in (by decide +kernel) rfl) rfl d_B_beginWantedSides_16 ?_
      refine lv_iload_n hx hb d_B_beginWantedSides_19 rfl (lv_at hl 0 rfl) ?_
      refine hk_ald C hP 4 2 (v := (ad 6)) rfl rfl (hk_inl (by decide)) rfl d_B_beginWantedSides_20 ?_
      refine hk_goV1 6 (w2 := wB G ad (f_B_beginWantedSides_21 u)) (hk_kN (host := "BodyRows2") (k := 0) (As := []) (rest := []) C (c_Side_begin l G (ad 6) (b3 u 1) _) Y_Side_begin (by decide +kernel) rfl rfl ⟨Nat.le_of_ble_eq_true rfl, Nat.le_of_ble_eq_true rfl⟩ (va_recv hE.1 hP (ci := 0) (q0 := 6) rfl rfl) (hP.sub (ws' := (wS (ad 6) (b3 u 1))) [6] rfl) (hD.sub (ws' := (wS (ad 6) (b3 u 1))) [6] (by decide) rfl) rfl hl.1 rfl (Nat.le_of_ble_eq_true rfl) d_B_beginWantedSides_21 ⟨Nat.zero_le _, Nat.zero_le _⟩) hP hD hS hA rfl rfl (fun H locs hP hD hS => ?_)
      have hI1 : Iv (f_B_beginWantedSides_21 u) := (Iv_of (k2_f_B_beginWantedSides_21 _) (k6_f_B_beginWantedSides_21 _) hI)
      obtain ⟨U1, hU1⟩ : ∃ z, (f_B_beginWantedSides_21 u) = z := ⟨_, rfl⟩
      rw [hU1] at hP hD hI1
      refine lv_iinc (v := (2 : Int32)) (lv' := [(1, .int (2 : Int32)), (0, .ref (ad 0))]) hx hb d_B_beginWantedSides_24 hl (k := 0) rfl (by decide) (by decide) rfl (fun ls hl => ?_)
      refine lv_goto (tgt := 2) hx hb d_B_beginWantedSides_27 (by decide) ?_
      refine lv_iload_n hx hb d_B_beginWantedSides_2 rfl (lv_at hl 0 rfl) ?_
      refine lv_iconst (v := (2 : Int32)) hx hb d_B_beginWantedSides_3 (by decide) ?_
      refine lv_icmp_ge (tgt := 30) hx hb d_B_beginWantedSides_4 (by decide) (fun c_6 => ?_) (fun c_6 => absurd (by decide) c_6)
      subst hU1
      have e : m_B_beginWantedSides u = (f_B_beginWantedSides_21 u) := (if_pos c_2).trans ((if_neg c_4).trans (rfl))
      exact hk_rv C hAe hP hD hS (by rw [e]) d_B_beginWantedSides_30
  · skip
    refine lv_aload_n hx hb d_B_beginWantedSides_15 rfl (lv_at hl 1 rfl) ?_
    refine hk_get (v := .ref (ad 4)) C hP 0 4 3 i_B rfl rfl (by decide) (hk_in (by decide +kernel) rfl) rfl d_B_beginWantedSides_16 ?_
    refine lv_iload_n hx hb d_B_beginWantedSides_19 rfl (lv_at hl 0 rfl) ?_
    refine hk_ald C hP 4 2 (v := (ad 5)) rfl rfl (hk_inl (by decide)) rfl d_B_beginWantedSides_20 ?_
    refine hk_goV1 5 (w2 := wB G ad (f_B_beginWantedSides_21_1 u)) (hk_kN (host := "BodyRows2") (k := 0) (As := []) (rest := []) C (c_Side_begin l G (ad 5) (b3 u 0) _) Y_Side_begin (by decide +kernel) rfl rfl ⟨Nat.le_of_ble_eq_true rfl, Nat.le_of_ble_eq_true rfl⟩ (va_recv hE.1 hP (ci := 0) (q0 := 5) rfl rfl) (hP.sub (ws' := (wS (ad 5) (b3 u 0))) [5] rfl) (hD.sub (ws' := (wS (ad 5) (b3 u 0))) [5] (by decide) rfl) rfl hl.1 rfl (Nat.le_of_ble_eq_true rfl) d_B_beginWantedSides_21 ⟨Nat.zero_le _, Nat.zero_le _⟩) hP hD hS hA rfl rfl (fun H locs hP hD hS => ?_)
    have hI2 : Iv (f_B_beginWantedSides_21_1 u) := (Iv_of (k2_f_B_beginWantedSides_21_1 _) (k6_f_B_beginWantedSides_21_1 _) hI)
    obtain ⟨U2, hU2⟩ : ∃ z, (f_B_beginWantedSides_21_1 u) = z := ⟨_, rfl⟩
    rw [hU2] at hP hD hI2
    refine lv_iinc (v := (1 : Int32)) (lv' := [(1, .int (1 : Int32)), (0, .ref (ad 0))]) hx hb d_B_beginWantedSides_24 hl (k := 0) rfl (by decide) (by decide) rfl (fun ls hl => ?_)
    refine lv_goto (tgt := 2) hx hb d_B_beginWantedSides_27 (by decide) ?_
    refine lv_iload_n hx hb d_B_beginWantedSides_2 rfl (lv_at hl 0 rfl) ?_
    refine lv_iconst (v := (2 : Int32)) hx hb d_B_beginWantedSides_3 (by decide) ?_
    refine lv_icmp_ge (tgt := 30) hx hb d_B_beginWantedSides_4 (by decide) (fun c_7 => absurd c_7 (by decide)) (fun c_7 => ?_)
    refine lv_aload_n hx hb d_B_beginWantedSides_7 rfl (lv_at hl 1 rfl) ?_
    refine lv_iload_n hx hb d_B_beginWantedSides_8 rfl (lv_at hl 0 rfl) ?_
    refine hk_goI (hk_kV (k := 1) (As := [.int (1 : Int32)]) (rest := []) C (c_B_isWanted l G ad U2 (1 : Int32) hI2 _) Y_B_isWanted (hk_in (by decide +kernel) rfl) rfl rfl ⟨Nat.le_of_ble_eq_true rfl, Nat.le_of_ble_eq_true rfl⟩ (va_recv hE.1 hP (ci := 4) (q0 := 0) rfl rfl) hP hD rfl hl.1 rfl (Nat.le_of_ble_eq_true rfl) d_B_beginWantedSides_9 ⟨Nat.zero_le _, Nat.zero_le _⟩) hD hS hA (fun H locs hP hD hS => ?_)
    refine lv_if_eq (tgt := 24) hx hb d_B_beginWantedSides_12 (by decide) (fun c_8 => ?_) (fun c_8 => ?_)
    · skip
      refine lv_iinc (v := (2 : Int32)) (lv' := [(1, .int (2 : Int32)), (0, .ref (ad 0))]) hx hb d_B_beginWantedSides_24 hl (k := 0) rfl (by decide) (by decide) rfl (fun ls hl => ?_)
      refine lv_goto (tgt := 2) hx hb d_B_beginWantedSides_27 (by decide) ?_
      refine lv_iload_n hx hb d_B_beginWantedSides_2 rfl (lv_at hl 0 rfl) ?_
      refine lv_iconst (v := (2 : Int32)) hx hb d_B_beginWantedSides_3 (by decide) ?_
      refine lv_icmp_ge (tgt := 30) hx hb d_B_beginWantedSides_4 (by decide) (fun c_9 => ?_) (fun c_9 => absurd (by decide) c_9)
      subst hU2
      have e : m_B_beginWantedSides u = (f_B_beginWantedSides_21_1 u) := (if_neg c_2).trans ((if_pos c_8).trans (rfl))
      exact hk_rv C hAe hP hD hS (by rw [e]) d_B_beginWantedSides_30
    · skip
      refine lv_aload_n hx hb d_B_beginWantedSides_15 rfl (lv_at hl 1 rfl) ?_
      refine hk_get (v := .ref (ad 4)) C hP 0 4 3 i_B rfl rfl (by decide) (hk_in (by decide +kernel) rfl) rfl d_B_beginWantedSides_16 ?_
      refine lv_iload_n hx hb d_B_beginWantedSides_19 rfl (lv_at hl 0 rfl) ?_
      refine hk_ald C hP 4 2 (v := (ad 6)) rfl rfl (hk_inl (by decide)) rfl d_B_beginWantedSides_20 ?_
      refine hk_goV1 6 (w2 := wB G ad (f_B_beginWantedSides_21 U2)) (hk_kN (host := "BodyRows2") (k := 0) (As := []) (rest := []) C (c_Side_begin l G (ad 6) (b3 U2 1) _) Y_Side_begin (by decide +kernel) rfl rfl ⟨Nat.le_of_ble_eq_true rfl, Nat.le_of_ble_eq_true rfl⟩ (va_recv hE.1 hP (ci := 0) (q0 := 6) rfl rfl) (hP.sub (ws' := (wS (ad 6) (b3 U2 1))) [6] rfl) (hD.sub (ws' := (wS (ad 6) (b3 U2 1))) [6] (by decide) rfl) rfl hl.1 rfl (Nat.le_of_ble_eq_true rfl) d_B_beginWantedSides_21 ⟨Nat.zero_le _, Nat.zero_le _⟩) hP hD hS hA rfl rfl (fun H locs hP hD hS => ?_)
      have hI3 : Iv (f_B_beginWantedSides_21 U2) := (Iv_of (k2_f_B_beginWantedSides_21 _) (k6_f_B_beginWantedSides_21 _) hI2)
      obtain ⟨U3, hU3⟩ : ∃ z, (f_B_beginWantedSides_21 U2) = z := ⟨_, rfl⟩
      rw [hU3] at hP hD hI3
      refine lv_iinc (v := (2 : Int32)) (lv' := [(1, .int (2 : Int32)), (0, .ref (ad 0))]) hx hb d_B_beginWantedSides_24 hl (k := 0) rfl (by decide) (by decide) rfl (fun ls hl => ?_)
      refine lv_goto (tgt := 2) hx hb d_B_beginWantedSides_27 (by decide) ?_
      refine lv_iload_n hx hb d_B_beginWantedSides_2 rfl (lv_at hl 0 rfl) ?_
      refine lv_iconst (v := (2 : Int32)) hx hb d_B_beginWantedSides_3 (by decide) ?_
      refine lv_icmp_ge (tgt := 30) hx hb d_B_beginWantedSides_4 (by decide) (fun c_10 => ?_) (fun c_10 => absurd (by decide) c_10)
      subst hU2 hU3
      have e : m_B_beginWantedSides u = (f_B_beginWantedSides_21 (f_B_beginWantedSides_21_1 u)) := (if_neg c_2).trans ((if_neg c_8).trans (rfl))
      exact hk_rv C hAe hP hD hS (by rw [e]) d_B_beginWantedSides_30
theorem Y_B_followBrightness : hk_Y y_B_followBrightness b_B_followBrightness 2 none 1 := ⟨hk_in (by decide +kernel) rfl, hk_in (by decide +kernel) rfl, hk_in (by decide +kernel) rfl, hk_in (List.mem_of_getElem? (i := 253) rfl) rfl, by decide, by decide, by decide +kernel⟩
abbrev rm_B_followBrightness : Room := { frames := 0, cells := 0, slots := 0, locals := 0 }
set_option maxHeartbeats 4000000 in
set_option maxRecDepth 100000 in
theorem c_B_followBrightness (l : Launch) (G : hk_G) (ad : Nat → Nat) (u : cB) (p1 : Int32) (hI : Iv u) : hk_V l G y_B_followBrightness b_B_followBrightness 2 rm_B_followBrightness [.ref (ad 0), .int p1] (wB G ad u) (wB G ad (m_B_followBrightness p1 u)) := by
  refine hk_V_of (by decide) (Nat.le_of_ble_eq_true rfl) ?_
  intro p e s m below meth c A ls C hAe hA hP hD hS hl
  have hx := C.1
  have hb := C.2.1
  have hown := C.2.2.2.2.1
  have hts := C.2.2.2.2.2.1
  have hE := C.2.2.2.2.2.2.2
  have hl : lv_has ls 2 [(0, .ref (ad 0)), (1, .int p1)] := hl
  refine lv_iload_n hx hb d_B_followBrightness_0 rfl (lv_at hl 1 rfl) ?_
  refine lv_sipush (v := (200 : Int32)) hx hb d_B_followBrightness_1 (by decide) ?_
  refine lv_icmp_ge (tgt := 15) hx hb d_B_followBrightness_4 (by decide) (fun c_1 => ?_) (fun c_1 => ?_)
  · skip
    refine lv_iload_n hx hb d_B_followBrightness_15 rfl (lv_at hl 1 rfl) ?_
    refine lv_sipush (v := (400 : Int32)) hx hb d_B_followBrightness_16 (by decide) ?_
    refine lv_icmp_le (tgt := 27) hx hb d_B_followBrightness_19 (by decide) (fun c_2 => ?_) (fun c_2 => ?_)
    · skip
      have e : m_B_followBrightness p1 u = u := (if_pos c_1).trans ((if_pos c_2).trans (rfl))
      exact hk_rv C hAe hP hD hS (by rw [e]) d_B_followBrightness_27
    · skip
      refine lv_aload_n hx hb d_B_followBrightness_22 rfl (lv_at hl 0 rfl) ?_
      refine lv_iconst (v := (0 : Int32)) hx hb d_B_followBrightness_23 (by decide) ?_
      refine hk_put (w2 := wB G ad (f_B_followBrightness_24 u)) (v := .int (0 : Int32)) (ty := .boolean) C hP hD hS 0 4 11 i_B t_B_ok n_B rfl rfl (by decide) (hk_in (by decide +kernel) rfl) rfl (by decide +kernel) (hk_nb (Or.inl rfl)) (hk_fb (Or.inl rfl)) (Nat.le_of_ble_eq_true rfl) rfl d_B_followBrightness_24 (fun H locs hP hD hS => ?_)
      have hI1 : Iv (f_B_followBrightness_24 u) := (Iv_of (k2_f_B_followBrightness_24 _) (k6_f_B_followBrightness_24 _) hI)
      obtain ⟨U1, hU1⟩ : ∃ z, (f_B_followBrightness_24 u) = z := ⟨_, rfl⟩
      rw [hU1] at hP hD hI1
      subst hU1
      have e : m_B_followBrightness p1 u = (f_B_followBrightness_24 u) := (if_pos c_1).trans ((if_neg c_2).trans (rfl))
      exact hk_rv C hAe hP hD hS (by rw [e]) d_B_followBrightness_27
  · skip
    refine lv_aload_n hx hb d_B_followBrightness_7 rfl (lv_at hl 0 rfl) ?_
    refine lv_iconst (v := (1 : Int32)) hx hb d_B_followBrightness_8 (by decide) ?_
    refine hk_put (w2 := wB G ad (f_B_followBrightness_9 u)) (v := .int (1 : Int32)) (ty := .boolean) C hP hD hS 0 4 11 i_B t_B_ok n_B rfl rfl (by decide) (hk_in (by decide +kernel) rfl) rfl (by decide +kernel) (hk_nb (Or.inr rfl)) (hk_fb (Or.inr rfl)) (Nat.le_of_ble_eq_true rfl) rfl d_B_followBrightness_9 (fun H locs hP hD hS => ?_)
    have hI2 : Iv (f_B_followBrightness_9 u) := (Iv_of (k2_f_B_followBrightness_9 _) (k6_f_B_followBrightness_9 _) hI)
    obtain ⟨U2, hU2⟩ : ∃ z, (f_B_followBrightness_9 u) = z := ⟨_, rfl⟩
    rw [hU2] at hP hD hI2
    refine lv_goto (tgt := 27) hx hb d_B_followBrightness_12 (by decide) ?_
    subst hU2
    have e : m_B_followBrightness p1 u = (f_B_followBrightness_9 u) := (if_neg c_1).trans (rfl)
    exact hk_rv C hAe hP hD hS (by rw [e]) d_B_followBrightness_27
theorem Y_B_endUnwantedSide : hk_Y y_B_endUnwantedSide b_B_endUnwantedSide 2 none 1 := ⟨hk_in (by decide +kernel) rfl, hk_in (by decide +kernel) rfl, hk_in (by decide +kernel) rfl, hk_in (List.mem_of_getElem? (i := 269) rfl) rfl, by decide, by decide, by decide +kernel⟩
abbrev rm_B_endUnwantedSide : Room := { frames := 1, cells := 0, slots := 0, locals := 21 }
set_option maxHeartbeats 4000000 in
set_option maxRecDepth 100000 in
theorem c_B_endUnwantedSide (l : Launch) (G : hk_G) (ad : Nat → Nat) (u : cB) (p1 : Int32) (hI : Iv u) : hk_V l G y_B_endUnwantedSide b_B_endUnwantedSide 2 rm_B_endUnwantedSide [.ref (ad 0), .int p1] (wB G ad u) (wB G ad (m_B_endUnwantedSide p1 u)) := by
  refine hk_V_of (by decide) (Nat.le_of_ble_eq_true rfl) ?_
  intro p e s m below meth c A ls C hAe hA hP hD hS hl
  have hx := C.1
  have hb := C.2.1
  have hown := C.2.2.2.2.1
  have hts := C.2.2.2.2.2.1
  have hE := C.2.2.2.2.2.2.2
  have hl : lv_has ls 2 [(0, .ref (ad 0)), (1, .int p1)] := hl
  refine lv_iload_n hx hb d_B_endUnwantedSide_0 rfl (lv_at hl 1 rfl) ?_
  refine lv_iconst (v := (2 : Int32)) hx hb d_B_endUnwantedSide_1 (by decide) ?_
  refine hk_goIe (hk_kS (k := 2) (As := [.int p1, .int (2 : Int32)]) (rest := []) C (c_B_isBelow l G p1 (2 : Int32) _) Y_B_isBelow (hk_in (by decide +kernel) rfl) rfl rfl ⟨Nat.le_of_ble_eq_true rfl, Nat.le_of_ble_eq_true rfl⟩ hk_Pn (hk_Dn (A := A)) rfl hl.1 rfl (Nat.le_of_ble_eq_true rfl) d_B_endUnwantedSide_2 ⟨Nat.zero_le _, Nat.zero_le _⟩) hP hS hA (fun H locs hP hS => ?_)
  refine lv_if_eq (tgt := 26) hx hb d_B_endUnwantedSide_5 (by decide) (fun c_1 => ?_) (fun c_1 => ?_)
  · skip
    have e : m_B_endUnwantedSide p1 u = u := (if_pos c_1).trans (rfl)
    exact hk_rv C hAe hP hD hS (by rw [e]) d_B_endUnwantedSide_26
  · skip
    refine lv_aload_n hx hb d_B_endUnwantedSide_8 rfl (lv_at hl 0 rfl) ?_
    refine lv_iload_n hx hb d_B_endUnwantedSide_9 rfl (lv_at hl 1 rfl) ?_
    refine hk_goI (hk_kV (k := 1) (As := [.int p1]) (rest := []) C (c_B_isWanted l G ad u p1 hI _) Y_B_isWanted (hk_in (by decide +kernel) rfl) rfl rfl ⟨Nat.le_of_ble_eq_true rfl, Nat.le_of_ble_eq_true rfl⟩ (va_recv hE.1 hP (ci := 4) (q0 := 0) rfl rfl) hP hD rfl hl.1 rfl (Nat.le_of_ble_eq_true rfl) d_B_endUnwantedSide_10 ⟨Nat.zero_le _, Nat.zero_le _⟩) hD hS hA (fun H locs hP hD hS => ?_)
    refine lv_if_ne (tgt := 26) hx hb d_B_endUnwantedSide_13 (by decide) (fun c_2 => ?_) (fun c_2 => ?_)
    · skip
      have e : m_B_endUnwantedSide p1 u = u := (if_neg c_1).trans ((if_neg c_2).trans (rfl))
      exact hk_rv C hAe hP hD hS (by rw [e]) d_B_endUnwantedSide_26
    · skip
      rcases hk_b2 c_1 with rfl | rfl
      · skip
        refine lv_aload_n hx hb d_B_endUnwantedSide_16 rfl (lv_at hl 0 rfl) ?_
        refine hk_get (v := .ref (ad 4)) C hP 0 4 3 i_B rfl rfl (by decide) (hk_in (by decide +kernel) rfl) rfl d_B_endUnwantedSide_17 ?_
        refine lv_iload_n hx hb d_B_endUnwantedSide_20 rfl (lv_at hl 1 rfl) ?_
        refine hk_ald C hP 4 2 (v := (ad 5)) rfl rfl (hk_inl (by decide)) rfl d_B_endUnwantedSide_21 ?_
        refine lv_iconst (v := (0 : Int32)) hx hb d_B_endUnwantedSide_22 (by decide) ?_
        refine hk_putN (host := "BodyRows2") (w2 := wB G ad (f_B_endUnwantedSide_23 (0 : Int32) u)) (v := .int (0 : Int32)) (ty := .boolean) C hP hD hS 5 0 0 i_Side t_Side_ok n_Side rfl rfl (by decide) (by decide +kernel) rfl (by decide +kernel) (hk_nb (Or.inl rfl)) (hk_fb (Or.inl rfl)) (Nat.le_of_ble_eq_true rfl) rfl d_B_endUnwantedSide_23 (fun H locs hP hD hS => ?_)
        have hI1 : Iv (f_B_endUnwantedSide_23 (0 : Int32) u) := (Iv_of (k2_f_B_endUnwantedSide_23 _ _) (k6_f_B_endUnwantedSide_23 _ _) hI)
        obtain ⟨U1, hU1⟩ : ∃ z, (f_B_endUnwantedSide_23 (0 : Int32) u) = z := ⟨_, rfl⟩
        rw [hU1] at hP hD hI1
        subst hU1
        have e : m_B_endUnwantedSide (0 : Int32) u = (f_B_endUnwantedSide_23 (0 : Int32) u) := (if_neg c_1).trans ((if_pos c_2).trans (rfl))
        exact hk_rv C hAe hP hD hS (by rw [e]) d_B_endUnwantedSide_26
      · skip
        refine lv_aload_n hx hb d_B_endUnwantedSide_16 rfl (lv_at hl 0 rfl) ?_
        refine hk_get (v := .ref (ad 4)) C hP 0 4 3 i_B rfl rfl (by decide) (hk_in (by decide +kernel) rfl) rfl d_B_endUnwantedSide_17 ?_
        refine lv_iload_n hx hb d_B_endUnwantedSide_20 rfl (lv_at hl 1 rfl) ?_
        refine hk_ald C hP 4 2 (v := (ad 6)) rfl rfl (hk_inl (by decide)) rfl d_B_endUnwantedSide_21 ?_
        refine lv_iconst (v := (0 : Int32)) hx hb d_B_endUnwantedSide_22 (by decide) ?_
        refine hk_putN (host := "BodyRows2") (w2 := wB G ad (f_B_endUnwantedSide_23 (1 : Int32) u)) (v := .int (0 : Int32)) (ty := .boolean) C hP hD hS 6 0 0 i_Side t_Side_ok n_Side rfl rfl (by decide) (by decide +kernel) rfl (by decide +kernel) (hk_nb (Or.inl rfl)) (hk_fb (Or.inl rfl)) (Nat.le_of_ble_eq_true rfl) rfl d_B_endUnwantedSide_23 (fun H locs hP hD hS => ?_)
        have hI2 : Iv (f_B_endUnwantedSide_23 (1 : Int32) u) := (Iv_of (k2_f_B_endUnwantedSide_23 _ _) (k6_f_B_endUnwantedSide_23 _ _) hI)
        obtain ⟨U2, hU2⟩ : ∃ z, (f_B_endUnwantedSide_23 (1 : Int32) u) = z := ⟨_, rfl⟩
        rw [hU2] at hP hD hI2
        subst hU2
        have e : m_B_endUnwantedSide (1 : Int32) u = (f_B_endUnwantedSide_23 (1 : Int32) u) := (if_neg c_1).trans ((if_pos c_2).trans (rfl))
        exact hk_rv C hAe hP hD hS (by rw [e]) d_B_endUnwantedSide_26
theorem Y_B_rainSpeed : hk_Y y_B_rainSpeed b_B_rainSpeed 1 (some .int) 0 := ⟨hk_in (by decide +kernel) rfl, hk_in (by decide +kernel) rfl, hk_in (by decide +kernel) rfl, hk_in (List.mem_of_getElem? (i := 293) rfl) rfl, by decide, by decide, by decide +kernel⟩
abbrev rm_B_rainSpeed : Room := { frames := 0, cells := 0, slots := 0, locals := 0 }
set_option maxHeartbeats 4000000 in
set_option maxRecDepth 100000 in
theorem c_B_rainSpeed (l : Launch) (G : hk_G) (ad : Nat → Nat) (u : cB) (hI : Iv u) : hk_I l G y_B_rainSpeed b_B_rainSpeed 1 (some .int) rm_B_rainSpeed [.ref (ad 0)] (wB G ad u) (m_B_rainSpeed u) (wB G ad u) := by
  refine hk_I_of (by decide) (Nat.le_of_ble_eq_true rfl) ?_
  intro p e s m below meth c A ls C hAe hA hP hD hS hl
  have hx := C.1
  have hb := C.2.1
  have hown := C.2.2.2.2.1
  have hts := C.2.2.2.2.2.1
  have hE := C.2.2.2.2.2.2.2
  have hl : lv_has ls 1 [(0, .ref (ad 0))] := hl
  refine lv_aload_n hx hb d_B_rainSpeed_0 rfl (lv_at hl 0 rfl) ?_
  refine hk_get (v := .int (b8 u)) C hP 0 4 8 i_B rfl rfl (by decide) (hk_in (by decide +kernel) rfl) rfl d_B_rainSpeed_1 ?_
  refine lv_if_ne (tgt := 9) hx hb d_B_rainSpeed_4 (by decide) (fun c_1 => ?_) (fun c_1 => ?_)
  · skip
    refine lv_aload_n hx hb d_B_rainSpeed_9 rfl (lv_at hl 0 rfl) ?_
    refine hk_get (v := .int (b8 u)) C hP 0 4 8 i_B rfl rfl (by decide) (hk_in (by decide +kernel) rfl) rfl d_B_rainSpeed_10 ?_
    refine lv_bipush (v := (8 : Int32)) hx hb d_B_rainSpeed_13 (by decide) ?_
    refine lv_icmp_ge (tgt := 22) hx hb d_B_rainSpeed_15 (by decide) (fun c_2 => ?_) (fun c_2 => ?_)
    · skip
      refine lv_iconst (v := (2 : Int32)) hx hb d_B_rainSpeed_22 (by decide) ?_
      have e : m_B_rainSpeed u = (2 : Int32) := (if_neg c_1).trans ((if_pos c_2).trans (rfl))
      exact hk_ri C hAe hP hD hS e.symm rfl d_B_rainSpeed_23
    · skip
      refine lv_iconst (v := (1 : Int32)) hx hb d_B_rainSpeed_18 (by decide) ?_
      refine lv_goto (tgt := 23) hx hb d_B_rainSpeed_19 (by decide) ?_
      have e : m_B_rainSpeed u = (1 : Int32) := (if_neg c_1).trans ((if_neg c_2).trans (rfl))
      exact hk_ri C hAe hP hD hS e.symm rfl d_B_rainSpeed_23
  · skip
    refine lv_iconst (v := (0 : Int32)) hx hb d_B_rainSpeed_7 (by decide) ?_
    have e : m_B_rainSpeed u = (0 : Int32) := (if_pos c_1).trans (rfl)
    exact hk_ri C hAe hP hD hS e.symm rfl d_B_rainSpeed_8
theorem Y_B_wiperSpeed : hk_Y y_B_wiperSpeed b_B_wiperSpeed 1 (some .int) 0 := ⟨hk_in (by decide +kernel) rfl, hk_in (by decide +kernel) rfl, hk_in (by decide +kernel) rfl, hk_in (List.mem_of_getElem? (i := 289) rfl) rfl, by decide, by decide, by decide +kernel⟩
abbrev rm_B_wiperSpeed : Room := { frames := 1, cells := 0, slots := 0, locals := 20 }
set_option maxHeartbeats 4000000 in
set_option maxRecDepth 100000 in
theorem c_B_wiperSpeed (l : Launch) (G : hk_G) (ad : Nat → Nat) (u : cB) (hI : Iv u) : hk_I l G y_B_wiperSpeed b_B_wiperSpeed 1 (some .int) rm_B_wiperSpeed [.ref (ad 0)] (wB G ad u) (m_B_wiperSpeed u) (wB G ad u) := by
  refine hk_I_of (by decide) (Nat.le_of_ble_eq_true rfl) ?_
  intro p e s m below meth c A ls C hAe hA hP hD hS hl
  have hx := C.1
  have hb := C.2.1
  have hown := C.2.2.2.2.1
  have hts := C.2.2.2.2.2.1
  have hE := C.2.2.2.2.2.2.2
  have hl : lv_has ls 1 [(0, .ref (ad 0))] := hl
  refine lv_aload_n hx hb d_B_wiperSpeed_0 rfl (lv_at hl 0 rfl) ?_
  refine hk_get (v := .ref (ad 1)) C hP 0 4 0 i_B rfl rfl (by decide) (hk_in (by decide +kernel) rfl) rfl d_B_wiperSpeed_1 ?_
  refine lv_iconst (v := (5 : Int32)) hx hb d_B_wiperSpeed_4 (by decide) ?_
  refine hk_ild C hP 1 0 (v := (b0 u) 5) rfl rfl (hk_inl (by decide)) rfl d_B_wiperSpeed_5 ?_
  refine lv_if_ne (tgt := 11) hx hb d_B_wiperSpeed_6 (by decide) (fun c_1 => ?_) (fun c_1 => ?_)
  · skip
    refine lv_aload_n hx hb d_B_wiperSpeed_11 rfl (lv_at hl 0 rfl) ?_
    refine hk_get (v := .ref (ad 1)) C hP 0 4 0 i_B rfl rfl (by decide) (hk_in (by decide +kernel) rfl) rfl d_B_wiperSpeed_12 ?_
    refine lv_iconst (v := (4 : Int32)) hx hb d_B_wiperSpeed_15 (by decide) ?_
    refine hk_ild C hP 1 0 (v := (b0 u) 4) rfl rfl (hk_inl (by decide)) rfl d_B_wiperSpeed_16 ?_
    by_cases c_2 : ((b0 u) 4) = (1 : Int32)
    · skip
      refine lv_tableIn (tgt := 44) (off := 27) hx hb d_B_wiperSpeed_17 (by rw [c_2]; decide) (by rw [c_2]; decide) (by rw [c_2]; rfl) (by decide) ?_
      refine lv_aload_n hx hb d_B_wiperSpeed_44 rfl (lv_at hl 0 rfl) ?_
      refine hk_goI (hk_kV (k := 0) (As := []) (rest := []) C (c_B_rainSpeed l G ad u hI _) Y_B_rainSpeed (hk_in (by decide +kernel) rfl) rfl rfl ⟨Nat.le_of_ble_eq_true rfl, Nat.le_of_ble_eq_true rfl⟩ (va_recv hE.1 hP (ci := 4) (q0 := 0) rfl rfl) hP hD rfl hl.1 rfl (Nat.le_of_ble_eq_true rfl) d_B_wiperSpeed_45 ⟨Nat.zero_le _, Nat.zero_le _⟩) hD hS hA (fun H locs hP hD hS => ?_)
      have e : m_B_wiperSpeed u = m_B_rainSpeed u := (if_neg c_1).trans ((if_pos c_2).trans (rfl))
      exact hk_ri C hAe hP hD hS e.symm rfl d_B_wiperSpeed_48
    · skip
      by_cases c_3 : ((b0 u) 4) = (2 : Int32)
      · skip
        refine lv_tableIn (tgt := 49) (off := 32) hx hb d_B_wiperSpeed_17 (by rw [c_3]; decide) (by rw [c_3]; decide) (by rw [c_3]; rfl) (by decide) ?_
        refine lv_iconst (v := (1 : Int32)) hx hb d_B_wiperSpeed_49 (by decide) ?_
        have e : m_B_wiperSpeed u = (1 : Int32) := (if_neg c_1).trans ((if_neg c_2).trans ((if_pos c_3).trans (rfl)))
        exact hk_ri C hAe hP hD hS e.symm rfl d_B_wiperSpeed_50
      · skip
        by_cases c_4 : ((b0 u) 4) = (3 : Int32)
        · skip
          refine lv_tableIn (tgt := 51) (off := 34) hx hb d_B_wiperSpeed_17 (by rw [c_4]; decide) (by rw [c_4]; decide) (by rw [c_4]; rfl) (by decide) ?_
          refine lv_iconst (v := (2 : Int32)) hx hb d_B_wiperSpeed_51 (by decide) ?_
          have e : m_B_wiperSpeed u = (2 : Int32) := (if_neg c_1).trans ((if_neg c_2).trans ((if_neg c_3).trans ((if_pos c_4).trans (rfl))))
          exact hk_ri C hAe hP hD hS e.symm rfl d_B_wiperSpeed_52
        · skip
          refine lv_tableOut (tgt := 53) hx hb d_B_wiperSpeed_17 (by have hn_0 := lv_neT c_2 (a := 1) (by decide); have hn_1 := lv_neT c_3 (a := 2) (by decide); have hn_2 := lv_neT c_4 (a := 3) (by decide); omega) (by decide) ?_
          refine lv_iconst (v := (0 : Int32)) hx hb d_B_wiperSpeed_53 (by decide) ?_
          have e : m_B_wiperSpeed u = (0 : Int32) := (if_neg c_1).trans ((if_neg c_2).trans ((if_neg c_3).trans ((if_neg c_4).trans (rfl))))
          exact hk_ri C hAe hP hD hS e.symm rfl d_B_wiperSpeed_54
  · skip
    refine lv_iconst (v := (0 : Int32)) hx hb d_B_wiperSpeed_9 (by decide) ?_
    have e : m_B_wiperSpeed u = (0 : Int32) := (if_pos c_1).trans (rfl)
    exact hk_ri C hAe hP hD hS e.symm rfl d_B_wiperSpeed_10
theorem Y_B_pauseAfterWiping : hk_Y y_B_pauseAfterWiping b_B_pauseAfterWiping 2 (some .int) 0 := ⟨hk_in (by decide +kernel) rfl, hk_in (by decide +kernel) rfl, hk_in (by decide +kernel) rfl, hk_in (List.mem_of_getElem? (i := 297) rfl) rfl, by decide, by decide, by decide +kernel⟩
abbrev rm_B_pauseAfterWiping : Room := { frames := 0, cells := 0, slots := 0, locals := 0 }
set_option maxHeartbeats 4000000 in
set_option maxRecDepth 100000 in
theorem c_B_pauseAfterWiping (l : Launch) (G : hk_G) (ad : Nat → Nat) (u : cB) (hI : Iv u) : hk_I l G y_B_pauseAfterWiping b_B_pauseAfterWiping 2 (some .int) rm_B_pauseAfterWiping [.ref (ad 0)] (wB G ad u) (m_B_pauseAfterWiping u) (wB G ad u) := by
  refine hk_I_of (by decide) (Nat.le_of_ble_eq_true rfl) ?_
  intro p e s m below meth c A ls C hAe hA hP hD hS hl
  have hx := C.1
  have hb := C.2.1
  have hown := C.2.2.2.2.1
  have hts := C.2.2.2.2.2.1
  have hE := C.2.2.2.2.2.2.2
  have hl : lv_has ls 2 [(0, .ref (ad 0))] := hl
  refine lv_aload_n hx hb d_B_pauseAfterWiping_0 rfl (lv_at hl 0 rfl) ?_
  refine hk_get (v := .ref (ad 1)) C hP 0 4 0 i_B rfl rfl (by decide) (hk_in (by decide +kernel) rfl) rfl d_B_pauseAfterWiping_1 ?_
  refine lv_iconst (v := (4 : Int32)) hx hb d_B_pauseAfterWiping_4 (by decide) ?_
  refine hk_ild C hP 1 0 (v := (b0 u) 4) rfl rfl (hk_inl (by decide)) rfl d_B_pauseAfterWiping_5 ?_
  refine lv_iconst (v := (1 : Int32)) hx hb d_B_pauseAfterWiping_6 (by decide) ?_
  refine lv_icmp_ne (tgt := 30) hx hb d_B_pauseAfterWiping_7 (by decide) (fun c_1 => ?_) (fun c_1 => ?_)
  · skip
    refine lv_iconst (v := (0 : Int32)) hx hb d_B_pauseAfterWiping_30 (by decide) ?_
    refine lv_istore_n (lv' := [(1, .int (0 : Int32)), (0, .ref (ad 0))]) hx hb d_B_pauseAfterWiping_31 rfl hl (by decide) rfl (fun ls hl => ?_)
    refine lv_iload_n hx hb d_B_pauseAfterWiping_32 rfl (lv_at hl 0 rfl) ?_
    refine lv_if_eq (tgt := 50) hx hb d_B_pauseAfterWiping_33 (by decide) (fun c_2 => ?_) (fun c_2 => absurd (by decide) c_2)
    refine lv_iconst (v := (0 : Int32)) hx hb d_B_pauseAfterWiping_50 (by decide) ?_
    have e : m_B_pauseAfterWiping u = (0 : Int32) := (if_neg c_1).trans (rfl)
    exact hk_ri C hAe hP hD hS e.symm rfl d_B_pauseAfterWiping_51
  · skip
    refine lv_aload_n hx hb d_B_pauseAfterWiping_10 rfl (lv_at hl 0 rfl) ?_
    refine hk_get (v := .int (b8 u)) C hP 0 4 8 i_B rfl rfl (by decide) (hk_in (by decide +kernel) rfl) rfl d_B_pauseAfterWiping_11 ?_
    refine lv_iconst (v := (1 : Int32)) hx hb d_B_pauseAfterWiping_14 (by decide) ?_
    refine lv_icmp_lt (tgt := 30) hx hb d_B_pauseAfterWiping_15 (by decide) (fun c_3 => ?_) (fun c_3 => ?_)
    · skip
      refine lv_iconst (v := (0 : Int32)) hx hb d_B_pauseAfterWiping_30 (by decide) ?_
      refine lv_istore_n (lv' := [(1, .int (0 : Int32)), (0, .ref (ad 0))]) hx hb d_B_pauseAfterWiping_31 rfl hl (by decide) rfl (fun ls hl => ?_)
      refine lv_iload_n hx hb d_B_pauseAfterWiping_32 rfl (lv_at hl 0 rfl) ?_
      refine lv_if_eq (tgt := 50) hx hb d_B_pauseAfterWiping_33 (by decide) (fun c_4 => ?_) (fun c_4 => absurd (by decide) c_4)
      refine lv_iconst (v := (0 : Int32)) hx hb d_B_pauseAfterWiping_50 (by decide) ?_
      have e : m_B_pauseAfterWiping u = (0 : Int32) := (if_pos c_1).trans ((if_pos c_3).trans (rfl))
      exact hk_ri C hAe hP hD hS e.symm rfl d_B_pauseAfterWiping_51
    · skip
      refine lv_aload_n hx hb d_B_pauseAfterWiping_18 rfl (lv_at hl 0 rfl) ?_
      refine hk_get (v := .int (b8 u)) C hP 0 4 8 i_B rfl rfl (by decide) (hk_in (by decide +kernel) rfl) rfl d_B_pauseAfterWiping_19 ?_
      refine lv_iconst (v := (4 : Int32)) hx hb d_B_pauseAfterWiping_22 (by decide) ?_
      refine lv_icmp_gt (tgt := 30) hx hb d_B_pauseAfterWiping_23 (by decide) (fun c_5 => ?_) (fun c_5 => ?_)
      · skip
        refine lv_iconst (v := (0 : Int32)) hx hb d_B_pauseAfterWiping_30 (by decide) ?_
        refine lv_istore_n (lv' := [(1, .int (0 : Int32)), (0, .ref (ad 0))]) hx hb d_B_pauseAfterWiping_31 rfl hl (by decide) rfl (fun ls hl => ?_)
        refine lv_iload_n hx hb d_B_pauseAfterWiping_32 rfl (lv_at hl 0 rfl) ?_
        refine lv_if_eq (tgt := 50) hx hb d_B_pauseAfterWiping_33 (by decide) (fun c_6 => ?_) (fun c_6 => absurd (by decide) c_6)
        refine lv_iconst (v := (0 : Int32)) hx hb d_B_pauseAfterWiping_50 (by decide) ?_
        have e : m_B_pauseAfterWiping u = (0 : Int32) := (if_pos c_1).trans ((if_neg c_3).trans ((if_pos c_5).trans (rfl)))
        exact hk_ri C hAe hP hD hS e.symm rfl d_B_pauseAfterWiping_51
      · skip
        refine lv_iconst (v := (1 : Int32)) hx hb d_B_pauseAfterWiping_26 (by decide) ?_
        refine lv_goto (tgt := 31) hx hb d_B_pauseAfterWiping_27 (by decide) ?_
        refine lv_istore_n (lv' := [(1, .int (1 : Int32)), (0, .ref (ad 0))]) hx hb d_B_pauseAfterWiping_31 rfl hl (by decide) rfl (fun ls hl => ?_)
        refine lv_iload_n hx hb d_B_pauseAfterWiping_32 rfl (lv_at hl 0 rfl) ?_
        refine lv_if_eq (tgt := 50) hx hb d_B_pauseAfterWiping_33 (by decide) (fun c_7 => absurd c_7 (by decide)) (fun c_7 => ?_)
        refine lv_sipush (v := (400 : Int32)) hx hb d_B_pauseAfterWiping_36 (by decide) ?_
        refine lv_bipush (v := (80 : Int32)) hx hb d_B_pauseAfterWiping_39 (by decide) ?_
        refine lv_aload_n hx hb d_B_pauseAfterWiping_41 rfl (lv_at hl 1 rfl) ?_
        refine hk_get (v := .int (b8 u)) C hP 0 4 8 i_B rfl rfl (by decide) (hk_in (by decide +kernel) rfl) rfl d_B_pauseAfterWiping_42 ?_
        refine lv_imul hx hb d_B_pauseAfterWiping_45 ?_
        refine lv_isub hx hb d_B_pauseAfterWiping_46 ?_
        refine lv_goto (tgt := 51) hx hb d_B_pauseAfterWiping_47 (by decide) ?_
        have e : m_B_pauseAfterWiping u = (400 : Int32) - ((80 : Int32) * (b8 u)) := (if_pos c_1).trans ((if_neg c_3).trans ((if_neg c_5).trans (rfl)))
        exact hk_ri C hAe hP hD hS e.symm rfl d_B_pauseAfterWiping_51
theorem Y_B_tickInterior : hk_Y y_B_tickInterior b_B_tickInterior 1 none 0 := ⟨hk_in (by decide +kernel) rfl, hk_in (by decide +kernel) rfl, hk_in (by decide +kernel) rfl, hk_in (List.mem_of_getElem? (i := 312) rfl) rfl, by decide, by decide, by decide +kernel⟩
abbrev rm_B_tickInterior : Room := { frames := 1, cells := 0, slots := 0, locals := 21 }
set_option maxHeartbeats 4000000 in
set_option maxRecDepth 100000 in
theorem c_B_tickInterior (l : Launch) (G : hk_G) (ad : Nat → Nat) (u : cB) (hI : Iv u) : hk_V l G y_B_tickInterior b_B_tickInterior 1 rm_B_tickInterior [.ref (ad 0)] (wB G ad u) (wB G ad (m_B_tickInterior u)) := by
  refine hk_V_of (by decide) (Nat.le_of_ble_eq_true rfl) ?_
  intro p e s m below meth c A ls C hAe hA hP hD hS hl
  have hx := C.1
  have hb := C.2.1
  have hown := C.2.2.2.2.1
  have hts := C.2.2.2.2.2.1
  have hE := C.2.2.2.2.2.2.2
  have hl : lv_has ls 1 [(0, .ref (ad 0))] := hl
  refine lv_aload_n hx hb d_B_tickInterior_0 rfl (lv_at hl 0 rfl) ?_
  refine hk_get (v := .int (b12 u)) C hP 0 4 12 i_B rfl rfl (by decide) (hk_in (by decide +kernel) rfl) rfl d_B_tickInterior_1 ?_
  refine lv_if_ne (tgt := 18) hx hb d_B_tickInterior_4 (by decide) (fun c_1 => ?_) (fun c_1 => ?_)
  · skip
    refine lv_aload_n hx hb d_B_tickInterior_18 rfl (lv_at hl 0 rfl) ?_
    refine lv_aload_n hx hb d_B_tickInterior_19 rfl (lv_at hl 0 rfl) ?_
    refine hk_get (v := .int (b9 u)) C hP 0 4 9 i_B rfl rfl (by decide) (hk_in (by decide +kernel) rfl) rfl d_B_tickInterior_20 ?_
    refine lv_iconst (v := (1 : Int32)) hx hb d_B_tickInterior_23 (by decide) ?_
    refine lv_iadd hx hb d_B_tickInterior_24 ?_
    refine lv_bipush (v := (100 : Int32)) hx hb d_B_tickInterior_25 (by decide) ?_
    refine hk_mmin C (hk_in (by decide +kernel) rfl) (Nat.le_of_ble_eq_true rfl) (Nat.le_of_ble_eq_true rfl) (Nat.zero_le _) (Nat.zero_le _) hl.1 d_B_tickInterior_27 ?_
    refine hk_put (w2 := wB G ad (f_B_tickInterior_30 u)) (v := .int (mn ((b9 u) + (1 : Int32)) (100 : Int32))) (ty := .int) C hP hD hS 0 4 9 i_B t_B_ok n_B rfl rfl (by decide) (hk_in (by decide +kernel) rfl) rfl (by decide +kernel) rfl rfl (Nat.le_of_ble_eq_true rfl) rfl d_B_tickInterior_30 (fun H locs hP hD hS => ?_)
    have hI1 : Iv (f_B_tickInterior_30 u) := (Iv_of (k2_f_B_tickInterior_30 _) (k6_f_B_tickInterior_30 _) hI)
    obtain ⟨U1, hU1⟩ : ∃ z, (f_B_tickInterior_30 u) = z := ⟨_, rfl⟩
    rw [hU1] at hP hD hI1
    refine lv_goto (tgt := 50) hx hb d_B_tickInterior_33 (by decide) ?_
    subst hU1
    have e : m_B_tickInterior u = (f_B_tickInterior_30 u) := (if_neg c_1).trans (rfl)
    exact hk_rv C hAe hP hD hS (by rw [e]) d_B_tickInterior_50
  · skip
    refine lv_aload_n hx hb d_B_tickInterior_7 rfl (lv_at hl 0 rfl) ?_
    refine hk_get (v := .ref (ad 1)) C hP 0 4 0 i_B rfl rfl (by decide) (hk_in (by decide +kernel) rfl) rfl d_B_tickInterior_8 ?_
    refine lv_bipush (v := (8 : Int32)) hx hb d_B_tickInterior_11 (by decide) ?_
    refine hk_ild C hP 1 0 (v := (b0 u) 8) rfl rfl (hk_inl (by decide)) rfl d_B_tickInterior_13 ?_
    refine lv_iconst (v := (1 : Int32)) hx hb d_B_tickInterior_14 (by decide) ?_
    refine lv_icmp_ne (tgt := 36) hx hb d_B_tickInterior_15 (by decide) (fun c_2 => ?_) (fun c_2 => ?_)
    · skip
      refine lv_aload_n hx hb d_B_tickInterior_36 rfl (lv_at hl 0 rfl) ?_
      refine lv_aload_n hx hb d_B_tickInterior_37 rfl (lv_at hl 0 rfl) ?_
      refine hk_get (v := .int (b9 u)) C hP 0 4 9 i_B rfl rfl (by decide) (hk_in (by decide +kernel) rfl) rfl d_B_tickInterior_38 ?_
      refine lv_iconst (v := (1 : Int32)) hx hb d_B_tickInterior_41 (by decide) ?_
      refine lv_isub hx hb d_B_tickInterior_42 ?_
      refine lv_iconst (v := (0 : Int32)) hx hb d_B_tickInterior_43 (by decide) ?_
      refine hk_mmax C (hk_in (by decide +kernel) rfl) (Nat.le_of_ble_eq_true rfl) (Nat.le_of_ble_eq_true rfl) (Nat.zero_le _) (Nat.zero_le _) hl.1 d_B_tickInterior_44 ?_
      refine hk_put (w2 := wB G ad (f_B_tickInterior_47 u)) (v := .int (mx ((b9 u) - (1 : Int32)) (0 : Int32))) (ty := .int) C hP hD hS 0 4 9 i_B t_B_ok n_B rfl rfl (by decide) (hk_in (by decide +kernel) rfl) rfl (by decide +kernel) rfl rfl (Nat.le_of_ble_eq_true rfl) rfl d_B_tickInterior_47 (fun H locs hP hD hS => ?_)
      have hI2 : Iv (f_B_tickInterior_47 u) := (Iv_of (k2_f_B_tickInterior_47 _) (k6_f_B_tickInterior_47 _) hI)
      obtain ⟨U2, hU2⟩ : ∃ z, (f_B_tickInterior_47 u) = z := ⟨_, rfl⟩
      rw [hU2] at hP hD hI2
      subst hU2
      have e : m_B_tickInterior u = (f_B_tickInterior_47 u) := (if_pos c_1).trans ((if_neg c_2).trans (rfl))
      exact hk_rv C hAe hP hD hS (by rw [e]) d_B_tickInterior_50
    · skip
      refine lv_aload_n hx hb d_B_tickInterior_18 rfl (lv_at hl 0 rfl) ?_
      refine lv_aload_n hx hb d_B_tickInterior_19 rfl (lv_at hl 0 rfl) ?_
      refine hk_get (v := .int (b9 u)) C hP 0 4 9 i_B rfl rfl (by decide) (hk_in (by decide +kernel) rfl) rfl d_B_tickInterior_20 ?_
      refine lv_iconst (v := (1 : Int32)) hx hb d_B_tickInterior_23 (by decide) ?_
      refine lv_iadd hx hb d_B_tickInterior_24 ?_
      refine lv_bipush (v := (100 : Int32)) hx hb d_B_tickInterior_25 (by decide) ?_
      refine hk_mmin C (hk_in (by decide +kernel) rfl) (Nat.le_of_ble_eq_true rfl) (Nat.le_of_ble_eq_true rfl) (Nat.zero_le _) (Nat.zero_le _) hl.1 d_B_tickInterior_27 ?_
      refine hk_put (w2 := wB G ad (f_B_tickInterior_30 u)) (v := .int (mn ((b9 u) + (1 : Int32)) (100 : Int32))) (ty := .int) C hP hD hS 0 4 9 i_B t_B_ok n_B rfl rfl (by decide) (hk_in (by decide +kernel) rfl) rfl (by decide +kernel) rfl rfl (Nat.le_of_ble_eq_true rfl) rfl d_B_tickInterior_30 (fun H locs hP hD hS => ?_)
      have hI3 : Iv (f_B_tickInterior_30 u) := (Iv_of (k2_f_B_tickInterior_30 _) (k6_f_B_tickInterior_30 _) hI)
      obtain ⟨U3, hU3⟩ : ∃ z, (f_B_tickInterior_30 u) = z := ⟨_, rfl⟩
      rw [hU3] at hP hD hI3
      refine lv_goto (tgt := 50) hx hb d_B_tickInterior_33 (by decide) ?_
      subst hU3
      have e : m_B_tickInterior u = (f_B_tickInterior_30 u) := (if_pos c_1).trans ((if_pos c_2).trans (rfl))
      exact hk_rv C hAe hP hD hS (by rw [e]) d_B_tickInterior_50
theorem Y_B_giveBack : hk_Y y_B_giveBack b_B_giveBack 3 none 2 := ⟨hk_in (by decide +kernel) rfl, hk_in (by decide +kernel) rfl, hk_in (by decide +kernel) rfl, hk_in (List.mem_of_getElem? (i := 420) rfl) rfl, by decide, by decide, by decide +kernel⟩
abbrev rm_B_giveBack : Room := { frames := 1, cells := 0, slots := 0, locals := 21 }
set_option maxHeartbeats 4000000 in
set_option maxRecDepth 100000 in
theorem c_B_giveBack (l : Launch) (G : hk_G) (ad : Nat → Nat) (u : cB) (p1 : Int32) (p2 : Int32) (hI : Iv u) : hk_V l G y_B_giveBack b_B_giveBack 3 rm_B_giveBack [.ref (ad 0), .int p1, .int p2] (wB G ad u) (wB G ad (m_B_giveBack p1 p2 u)) := by
  refine hk_V_of (by decide) (Nat.le_of_ble_eq_true rfl) ?_
  intro p e s m below meth c A ls C hAe hA hP hD hS hl
  have hx := C.1
  have hb := C.2.1
  have hown := C.2.2.2.2.1
  have hts := C.2.2.2.2.2.1
  have hE := C.2.2.2.2.2.2.2
  have hl : lv_has ls 3 [(0, .ref (ad 0)), (1, .int p1), (2, .int p2)] := hl
  refine lv_iload_n hx hb d_B_giveBack_0 rfl (lv_at hl 2 rfl) ?_
  refine lv_iconst (v := (-1 : Int32)) hx hb d_B_giveBack_1 (by decide) ?_
  refine lv_icmp_ne (tgt := 6) hx hb d_B_giveBack_2 (by decide) (fun c_1 => ?_) (fun c_1 => ?_)
  · skip
    refine lv_iload_n hx hb d_B_giveBack_6 rfl (lv_at hl 1 rfl) ?_
    refine lv_iconst (v := (4 : Int32)) hx hb d_B_giveBack_7 (by decide) ?_
    refine hk_goIe (hk_kS (k := 2) (As := [.int p1, .int (4 : Int32)]) (rest := []) C (c_B_isBelow l G p1 (4 : Int32) _) Y_B_isBelow (hk_in (by decide +kernel) rfl) rfl rfl ⟨Nat.le_of_ble_eq_true rfl, Nat.le_of_ble_eq_true rfl⟩ hk_Pn (hk_Dn (A := A)) rfl hl.1 rfl (Nat.le_of_ble_eq_true rfl) d_B_giveBack_8 ⟨Nat.zero_le _, Nat.zero_le _⟩) hP hS hA (fun H locs hP hS => ?_)
    refine lv_if_eq (tgt := 27) hx hb d_B_giveBack_11 (by decide) (fun c_2 => ?_) (fun c_2 => ?_)
    · skip
      refine lv_aload_n hx hb d_B_giveBack_27 rfl (lv_at hl 0 rfl) ?_
      refine lv_iload_n hx hb d_B_giveBack_28 rfl (lv_at hl 2 rfl) ?_
      refine hk_put (w2 := wB G ad (f_B_giveBack_29 p2 u)) (v := .int p2) (ty := .int) C hP hD hS 0 4 9 i_B t_B_ok n_B rfl rfl (by decide) (hk_in (by decide +kernel) rfl) rfl (by decide +kernel) rfl rfl (Nat.le_of_ble_eq_true rfl) rfl d_B_giveBack_29 (fun H locs hP hD hS => ?_)
      have hI1 : Iv (f_B_giveBack_29 p2 u) := (Iv_of (k2_f_B_giveBack_29 _ _) (k6_f_B_giveBack_29 _ _) hI)
      obtain ⟨U1, hU1⟩ : ∃ z, (f_B_giveBack_29 p2 u) = z := ⟨_, rfl⟩
      rw [hU1] at hP hD hI1
      subst hU1
      have e : m_B_giveBack p1 p2 u = (f_B_giveBack_29 p2 u) := (if_neg c_1).trans ((if_pos c_2).trans (rfl))
      exact hk_rv C hAe hP hD hS (by rw [e]) d_B_giveBack_32
    · skip
      rcases hk_b4 c_2 with rfl | rfl | rfl | rfl
      · skip
        refine lv_aload_n hx hb d_B_giveBack_14 rfl (lv_at hl 0 rfl) ?_
        refine hk_get (v := .ref (ad 8)) C hP 0 4 5 i_B rfl rfl (by decide) (hk_in (by decide +kernel) rfl) rfl d_B_giveBack_15 ?_
        refine lv_iload_n hx hb d_B_giveBack_18 rfl (lv_at hl 1 rfl) ?_
        refine hk_ald C hP 8 3 (v := (ad 9)) rfl rfl (hk_inl (by decide)) rfl d_B_giveBack_19 ?_
        refine lv_iload_n hx hb d_B_giveBack_20 rfl (lv_at hl 2 rfl) ?_
        refine hk_putN (host := "BodyRows2") (w2 := wB G ad (f_B_giveBack_21 (0 : Int32) p2 u)) (v := .int p2) (ty := .int) C hP hD hS 9 2 1 i_Window t_Window_ok n_Window rfl rfl (by decide) (by decide +kernel) rfl (by decide +kernel) rfl rfl (Nat.le_of_ble_eq_true rfl) rfl d_B_giveBack_21 (fun H locs hP hD hS => ?_)
        have hI2 : Iv (f_B_giveBack_21 (0 : Int32) p2 u) := (Iv_of (k2_f_B_giveBack_21 _ _ _) (k6_f_B_giveBack_21 _ _ _) hI)
        obtain ⟨U2, hU2⟩ : ∃ z, (f_B_giveBack_21 (0 : Int32) p2 u) = z := ⟨_, rfl⟩
        rw [hU2] at hP hD hI2
        refine lv_goto (tgt := 32) hx hb d_B_giveBack_24 (by decide) ?_
        subst hU2
        have e : m_B_giveBack (0 : Int32) p2 u = (f_B_giveBack_21 (0 : Int32) p2 u) := (if_neg c_1).trans ((if_neg c_2).trans (rfl))
        exact hk_rv C hAe hP hD hS (by rw [e]) d_B_giveBack_32
      · skip
        refine lv_aload_n hx hb d_B_giveBack_14 rfl (lv_at hl 0 rfl) ?_
        refine hk_get (v := .ref (ad 8)) C hP 0 4 5 i_B rfl rfl (by decide) (hk_in (by decide +kernel) rfl) rfl d_B_giveBack_15 ?_
        refine lv_iload_n hx hb d_B_giveBack_18 rfl (lv_at hl 1 rfl) ?_
        refine hk_ald C hP 8 3 (v := (ad 10)) rfl rfl (hk_inl (by decide)) rfl d_B_giveBack_19 ?_
        refine lv_iload_n hx hb d_B_giveBack_20 rfl (lv_at hl 2 rfl) ?_
        refine hk_putN (host := "BodyRows2") (w2 := wB G ad (f_B_giveBack_21 (1 : Int32) p2 u)) (v := .int p2) (ty := .int) C hP hD hS 10 2 1 i_Window t_Window_ok n_Window rfl rfl (by decide) (by decide +kernel) rfl (by decide +kernel) rfl rfl (Nat.le_of_ble_eq_true rfl) rfl d_B_giveBack_21 (fun H locs hP hD hS => ?_)
        have hI3 : Iv (f_B_giveBack_21 (1 : Int32) p2 u) := (Iv_of (k2_f_B_giveBack_21 _ _ _) (k6_f_B_giveBack_21 _ _ _) hI)
        obtain ⟨U3, hU3⟩ : ∃ z, (f_B_giveBack_21 (1 : Int32) p2 u) = z := ⟨_, rfl⟩
        rw [hU3] at hP hD hI3
        refine lv_goto (tgt := 32) hx hb d_B_giveBack_24 (by decide) ?_
        subst hU3
        have e : m_B_giveBack (1 : Int32) p2 u = (f_B_giveBack_21 (1 : Int32) p2 u) := (if_neg c_1).trans ((if_neg c_2).trans (rfl))
        exact hk_rv C hAe hP hD hS (by rw [e]) d_B_giveBack_32
      · skip
        refine lv_aload_n hx hb d_B_giveBack_14 rfl (lv_at hl 0 rfl) ?_
        refine hk_get (v := .ref (ad 8)) C hP 0 4 5 i_B rfl rfl (by decide) (hk_in (by decide +kernel) rfl) rfl d_B_giveBack_15 ?_
        refine lv_iload_n hx hb d_B_giveBack_18 rfl (lv_at hl 1 rfl) ?_
        refine hk_ald C hP 8 3 (v := (ad 11)) rfl rfl (hk_inl (by decide)) rfl d_B_giveBack_19 ?_
        refine lv_iload_n hx hb d_B_giveBack_20 rfl (lv_at hl 2 rfl) ?_
        refine hk_putN (host := "BodyRows2") (w2 := wB G ad (f_B_giveBack_21 (2 : Int32) p2 u)) (v := .int p2) (ty := .int) C hP hD hS 11 2 1 i_Window t_Window_ok n_Window rfl rfl (by decide) (by decide +kernel) rfl (by decide +kernel) rfl rfl (Nat.le_of_ble_eq_true rfl) rfl d_B_giveBack_21 (fun H locs hP hD hS => ?_)
        have hI4 : Iv (f_B_giveBack_21 (2 : Int32) p2 u) := (Iv_of (k2_f_B_giveBack_21 _ _ _) (k6_f_B_giveBack_21 _ _ _) hI)
        obtain ⟨U4, hU4⟩ : ∃ z, (f_B_giveBack_21 (2 : Int32) p2 u) = z := ⟨_, rfl⟩
        rw [hU4] at hP hD hI4
        refine lv_goto (tgt := 32) hx hb d_B_giveBack_24 (by decide) ?_
        subst hU4
        have e : m_B_giveBack (2 : Int32) p2 u = (f_B_giveBack_21 (2 : Int32) p2 u) := (if_neg c_1).trans ((if_neg c_2).trans (rfl))
        exact hk_rv C hAe hP hD hS (by rw [e]) d_B_giveBack_32
      · skip
        refine lv_aload_n hx hb d_B_giveBack_14 rfl (lv_at hl 0 rfl) ?_
        refine hk_get (v := .ref (ad 8)) C hP 0 4 5 i_B rfl rfl (by decide) (hk_in (by decide +kernel) rfl) rfl d_B_giveBack_15 ?_
        refine lv_iload_n hx hb d_B_giveBack_18 rfl (lv_at hl 1 rfl) ?_
        refine hk_ald C hP 8 3 (v := (ad 12)) rfl rfl (hk_inl (by decide)) rfl d_B_giveBack_19 ?_
        refine lv_iload_n hx hb d_B_giveBack_20 rfl (lv_at hl 2 rfl) ?_
        refine hk_putN (host := "BodyRows2") (w2 := wB G ad (f_B_giveBack_21 (3 : Int32) p2 u)) (v := .int p2) (ty := .int) C hP hD hS 12 2 1 i_Window t_Window_ok n_Window rfl rfl (by decide) (by decide +kernel) rfl (by decide +kernel) rfl rfl (Nat.le_of_ble_eq_true rfl) rfl d_B_giveBack_21 (fun H locs hP hD hS => ?_)
        have hI5 : Iv (f_B_giveBack_21 (3 : Int32) p2 u) := (Iv_of (k2_f_B_giveBack_21 _ _ _) (k6_f_B_giveBack_21 _ _ _) hI)
        obtain ⟨U5, hU5⟩ : ∃ z, (f_B_giveBack_21 (3 : Int32) p2 u) = z := ⟨_, rfl⟩
        rw [hU5] at hP hD hI5
        refine lv_goto (tgt := 32) hx hb d_B_giveBack_24 (by decide) ?_
        subst hU5
        have e : m_B_giveBack (3 : Int32) p2 u = (f_B_giveBack_21 (3 : Int32) p2 u) := (if_neg c_1).trans ((if_neg c_2).trans (rfl))
        exact hk_rv C hAe hP hD hS (by rw [e]) d_B_giveBack_32
  · skip
    have e : m_B_giveBack p1 p2 u = u := (if_pos c_1).trans (rfl)
    exact hk_rv C hAe hP hD hS (by rw [e]) d_B_giveBack_5
