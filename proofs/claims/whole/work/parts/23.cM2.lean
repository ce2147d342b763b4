set_option maxRecDepth 100000 in
theorem Y_M_isWanted : hk_Y y_M_isWanted b_M_isWanted 2 (some .boolean) 1 := ⟨hk_in (by decide +kernel) rfl, hk_in (by decide +kernel) rfl, hk_in (by decide +kernel) rfl, hk_in (List.mem_of_getElem? (i := 625) rfl) rfl, by decide, by decide, by decide +kernel⟩
abbrev rm_M_isWanted : Room := { frames := 0, cells := 0, slots := 0, locals := 0 }
set_option maxHeartbeats 4000000 in
set_option maxRecDepth 100000 in
theorem c_M_isWanted (l : Launch) (G : hk_G) (am : Nat → Nat) (u : cM) (p1 : Int32) : hk_I l G y_M_isWanted b_M_isWanted 2 (some .boolean) rm_M_isWanted [.ref (am 0), .int p1] (wM G am u) (m_M_isWanted p1 u) (wM G am u) := by
  refine hk_I_of (by decide) (Nat.le_of_ble_eq_true rfl) ?_
  intro p e s m below meth c A ls C hAe hA hP hD hS hl
  have hx := C.1
  have hb := C.2.1
  have hown := C.2.2.2.2.1
  have hts := C.2.2.2.2.2.1
  have hE := C.2.2.2.2.2.2.2
  have hl : lv_has ls 2 [(0, .ref (am 0)), (1, .int p1)] := hl
  refine lv_aload_n hx hb d_M_isWanted_0 rfl (lv_at hl 0 rfl) ?_
  refine hk_get (v := .ref (am 1)) C hP 0 5 1 i_M rfl rfl (by decide) (hk_in (by decide +kernel) rfl) rfl d_M_isWanted_1 ?_
  refine lv_iconst (v := (3 : Int32)) hx hb d_M_isWanted_4 (by decide) ?_
  refine hk_ild C hP 1 0 (v := (mg1 u) 3) rfl rfl (hk_inl (by decide)) rfl d_M_isWanted_5 ?_
  refine lv_iconst (v := (1 : Int32)) hx hb d_M_isWanted_6 (by decide) ?_
  refine lv_icmp_eq (tgt := 29) hx hb d_M_isWanted_7 (by decide) (fun c_1 => ?_) (fun c_1 => ?_)
  · skip
    refine lv_iconst (v := (1 : Int32)) hx hb d_M_isWanted_29 (by decide) ?_
    refine lv_goto (tgt := 34) hx hb d_M_isWanted_30 (by decide) ?_
    have e : m_M_isWanted p1 u = (1 : Int32) := (if_pos c_1).trans (rfl)
    exact hk_rz C hAe hP hD hS (Or.inr rfl) e.symm rfl d_M_isWanted_34
  · skip
    refine lv_aload_n hx hb d_M_isWanted_10 rfl (lv_at hl 0 rfl) ?_
    refine hk_get (v := .int (mg3 u)) C hP 0 5 3 i_M rfl rfl (by decide) (hk_in (by decide +kernel) rfl) rfl d_M_isWanted_11 ?_
    refine lv_if_ne (tgt := 29) hx hb d_M_isWanted_14 (by decide) (fun c_2 => ?_) (fun c_2 => ?_)
    · skip
      refine lv_iconst (v := (1 : Int32)) hx hb d_M_isWanted_29 (by decide) ?_
      refine lv_goto (tgt := 34) hx hb d_M_isWanted_30 (by decide) ?_
      have e : m_M_isWanted p1 u = (1 : Int32) := (if_neg c_1).trans ((if_neg c_2).trans (rfl))
      exact hk_rz C hAe hP hD hS (Or.inr rfl) e.symm rfl d_M_isWanted_34
    · skip
      refine lv_aload_n hx hb d_M_isWanted_17 rfl (lv_at hl 0 rfl) ?_
      refine hk_get (v := .ref (am 1)) C hP 0 5 1 i_M rfl rfl (by decide) (hk_in (by decide +kernel) rfl) rfl d_M_isWanted_18 ?_
      refine lv_iconst (v := (2 : Int32)) hx hb d_M_isWanted_21 (by decide) ?_
      refine hk_ild C hP 1 0 (v := (mg1 u) 2) rfl rfl (hk_inl (by decide)) rfl d_M_isWanted_22 ?_
      refine lv_iload_n hx hb d_M_isWanted_23 rfl (lv_at hl 1 rfl) ?_
      refine lv_iconst (v := (1 : Int32)) hx hb d_M_isWanted_24 (by decide) ?_
      refine lv_iadd hx hb d_M_isWanted_25 ?_
      refine lv_icmp_ne (tgt := 33) hx hb d_M_isWanted_26 (by decide) (fun c_3 => ?_) (fun c_3 => ?_)
      · skip
        refine lv_iconst (v := (0 : Int32)) hx hb d_M_isWanted_33 (by decide) ?_
        have e : m_M_isWanted p1 u = (0 : Int32) := (if_neg c_1).trans ((if_pos c_2).trans ((if_neg c_3).trans (rfl)))
        exact hk_rz C hAe hP hD hS (Or.inl rfl) e.symm rfl d_M_isWanted_34
      · skip
        refine lv_iconst (v := (1 : Int32)) hx hb d_M_isWanted_29 (by decide) ?_
        refine lv_goto (tgt := 34) hx hb d_M_isWanted_30 (by decide) ?_
        have e : m_M_isWanted p1 u = (1 : Int32) := (if_neg c_1).trans ((if_pos c_2).trans ((if_pos c_3).trans (rfl)))
        exact hk_rz C hAe hP hD hS (Or.inr rfl) e.symm rfl d_M_isWanted_34
set_option maxRecDepth 100000 in
theorem Y_M_begin : hk_Y y_M_begin b_M_begin 2 none 0 := ⟨hk_in (by decide +kernel) rfl, hk_in (by decide +kernel) rfl, hk_in (by decide +kernel) rfl, hk_in (List.mem_of_getElem? (i := 629) rfl) rfl, by decide, by decide, by decide +kernel⟩
abbrev rm_M_begin : Room := { frames := 1, cells := 0, slots := 0, locals := 21 }
set_option maxHeartbeats 4000000 in
set_option maxRecDepth 100000 in
theorem c_M_begin (l : Launch) (G : hk_G) (am : Nat → Nat) (u : cM) : hk_V l G y_M_begin b_M_begin 2 rm_M_begin [.ref (am 0)] (wM G am u) (wM G am (m_M_begin u)) := by
  refine hk_V_of (by decide) (Nat.le_of_ble_eq_true rfl) ?_
  intro p e s m below meth c A ls C hAe hA hP hD hS hl
  have hx := C.1
  have hb := C.2.1
  have hown := C.2.2.2.2.1
  have hts := C.2.2.2.2.2.1
  have hE := C.2.2.2.2.2.2.2
  have hl : lv_has ls 2 [(0, .ref (am 0))] := hl
  refine lv_iconst (v := (0 : Int32)) hx hb d_M_begin_0 (by decide) ?_
  refine lv_istore_n (lv' := [(1, .int (0 : Int32)), (0, .ref (am 0))]) hx hb d_M_begin_1 rfl hl (by decide) rfl (fun ls hl => ?_)
  refine lv_iload_n hx hb d_M_begin_2 rfl (lv_at hl 0 rfl) ?_
  refine lv_iconst (v := (2 : Int32)) hx hb d_M_begin_3 (by decide) ?_
  refine lv_icmp_ge (tgt := 51) hx hb d_M_begin_4 (by decide) (fun c_1 => absurd c_1 (by decide)) (fun c_1 => ?_)
  refine lv_aload_n hx hb d_M_begin_7 rfl (lv_at hl 1 rfl) ?_
  refine lv_iload_n hx hb d_M_begin_8 rfl (lv_at hl 0 rfl) ?_
  refine hk_goI (hk_kV (k := 1) (As := [.int (0 : Int32)]) (rest := []) C (c_M_isWanted l G am u (0 : Int32) _) Y_M_isWanted (hk_in (by decide +kernel) rfl) rfl rfl ⟨Nat.le_of_ble_eq_true rfl, Nat.le_of_ble_eq_true rfl⟩ (va_recv hE.1 hP (ci := 5) (q0 := 0) rfl rfl) hP hD rfl hl.1 rfl (Nat.le_of_ble_eq_true rfl) d_M_begin_9 ⟨Nat.zero_le _, Nat.zero_le _⟩) hD hS hA (fun H locs hP hD hS => ?_)
  refine lv_if_eq (tgt := 45) hx hb d_M_begin_12 (by decide) (fun c_2 => ?_) (fun c_2 => ?_)
  · skip
    refine lv_iinc (v := (1 : Int32)) (lv' := [(1, .int (1 : Int32)), (0, .ref (am 0))]) hx hb d_M_begin_45 hl (k := 0) rfl (by decide) (by decide) rfl (fun ls hl => ?_)
    refine lv_goto (tgt := 2) hx hb d_M_begin_48 (by decide) ?_
    refine lv_iload_n hx hb d_M_begin_2 rfl (lv_at hl 0 rfl) ?_
    refine lv_iconst (v := (2 : Int32)) hx hb d_M_begin_3 (by decide) ?_
    refine lv_icmp_ge (tgt := 51) hx hb d_M_begin_4 (by decide) (fun c_3 => absurd c_3 (by decide)) (fun c_3 => ?_)
    refine lv_aload_n hx hb d_M_begin_7 rfl (lv_at hl 1 rfl) ?_
    refine lv_iload_n hx hb d_M_begin_8 rfl (lv_at hl 0 rfl) ?_
    refine hk_goI (hk_kV (k := 1) (As := [.int (1 : Int32)]) (rest := []) C (c_M_isWanted l G am u (1 : Int32) _) Y_M_isWanted (hk_in (by decide +kernel) rfl) rfl rfl ⟨Nat.le_of_ble_eq_true rfl, Nat.le_of_ble_eq_true rfl⟩ (va_recv hE.1 hP (ci := 5) (q0 := 0) rfl rfl) hP hD rfl hl.1 rfl (Nat.le_of_ble_eq_true rfl) d_M_begin_9 ⟨Nat.zero_le _, Nat.zero_le _⟩) hD hS hA (fun H locs hP hD hS => ?_)
    refine lv_if_eq (tgt := 45) hx hb d_M_begin_12 (by decide) (fun c_4 => ?_) (fun c_4 => ?_)
    · skip
      refine lv_iinc (v := (2 : Int32)) (lv' := [(1, .int (2 : Int32)), (0, .ref (am 0))]) hx hb d_M_begin_45 hl (k := 0) rfl (by decide) (by decide) rfl (fun ls hl => ?_)
      refine lv_goto (tgt := 2) hx hb d_M_begin_48 (by decide) ?_
      refine lv_iload_n hx hb d_M_begin_2 rfl (lv_at hl 0 rfl) ?_
      refine lv_iconst (v := (2 : Int32)) hx hb d_M_begin_3 (by decide) ?_
      refine lv_icmp_ge (tgt := 51) hx hb d_M_begin_4 (by decide) (fun c_5 => ?_) (fun c_5 => absurd (by decide) c_5)
      have e : m_M_begin u = u := (if_pos c_2).trans ((if_pos c_4).trans (rfl))
      exact hk_rv C hAe hP hD hS (by rw [e]) d_M_begin_51
    · skip
      refine lv_aload_n hx hb d_M_begin_15 rfl (lv_at hl 1 rfl) ?_
      refine hk_get (v := .ref (am 2)) C hP 0 5 7 i_M rfl rfl (by decide) (hk_in (by decide +kernel) rfl) rfl d_M_begin_16 ?_
      refine lv_iload_n hx hb d_M_begin_19 rfl (lv_at hl 0 rfl) ?_
      refine hk_zld C hP 2 1 (v := (mg7 u) 1) rfl rfl (hk_inl (by decide)) rfl d_M_begin_20 ?_
      refine lv_if_ne (tgt := 45) hx hb d_M_begin_21 (by decide) (fun c_6 => ?_) (fun c_6 => ?_)
      · skip
        refine lv_iinc (v := (2 : Int32)) (lv' := [(1, .int (2 : Int32)), (0, .ref (am 0))]) hx hb d_M_begin_45 hl (k := 0) rfl (by decide) (by decide) rfl (fun ls hl => ?_)
        refine lv_goto (tgt := 2) hx hb d_M_begin_48 (by decide) ?_
        refine lv_iload_n hx hb d_M_begin_2 rfl (lv_at hl 0 rfl) ?_
        refine lv_iconst (v := (2 : Int32)) hx hb d_M_begin_3 (by decide) ?_
        refine lv_icmp_ge (tgt := 51) hx hb d_M_begin_4 (by decide) (fun c_7 => ?_) (fun c_7 => absurd (by decide) c_7)
        have e : m_M_begin u = u := (if_pos c_2).trans ((if_neg c_4).trans ((if_neg c_6).trans (rfl)))
        exact hk_rv C hAe hP hD hS (by rw [e]) d_M_begin_51
      · skip
        refine lv_aload_n hx hb d_M_begin_24 rfl (lv_at hl 1 rfl) ?_
        refine hk_get (v := .ref (am 2)) C hP 0 5 7 i_M rfl rfl (by decide) (hk_in (by decide +kernel) rfl) rfl d_M_begin_25 ?_
        refine lv_iload_n hx hb d_M_begin_28 rfl (lv_at hl 0 rfl) ?_
        refine lv_iconst (v := (1 : Int32)) hx hb d_M_begin_29 (by decide) ?_
        refine hk_zst (w2 := wM G am (f_M_begin_30 u)) C hP hD hS 2 1 rfl rfl (hk_inl (by decide)) (Or.inr rfl) rfl d_M_begin_30 (fun H locs hP hD hS => ?_)
        obtain ⟨U1, hU1⟩ : ∃ z, (f_M_begin_30 u) = z := ⟨_, rfl⟩
        rw [hU1] at hP hD
        refine lv_aload_n hx hb d_M_begin_31 rfl (lv_at hl 1 rfl) ?_
        refine hk_get (v := .ref (am 3)) C hP 0 5 8 i_M rfl rfl (by decide) (hk_in (by decide +kernel) rfl) rfl d_M_begin_32 ?_
        refine lv_iload_n hx hb d_M_begin_35 rfl (lv_at hl 0 rfl) ?_
        refine lv_iconst (v := (0 : Int32)) hx hb d_M_begin_36 (by decide) ?_
        refine hk_ist (w2 := wM G am (f_M_begin_37 U1)) C hP hD hS 3 0 rfl rfl (hk_inl (by decide)) rfl d_M_begin_37 (fun H locs hP hD hS => ?_)
        obtain ⟨U2, hU2⟩ : ∃ z, (f_M_begin_37 U1) = z := ⟨_, rfl⟩
        rw [hU2] at hP hD
        refine lv_aload_n hx hb d_M_begin_38 rfl (lv_at hl 1 rfl) ?_
        refine hk_get (v := .ref (am 4)) C hP 0 5 9 i_M rfl rfl (by decide) (hk_in (by decide +kernel) rfl) rfl d_M_begin_39 ?_
        refine lv_iload_n hx hb d_M_begin_42 rfl (lv_at hl 0 rfl) ?_
        refine lv_iconst (v := (0 : Int32)) hx hb d_M_begin_43 (by decide) ?_
        refine hk_ist (w2 := wM G am (f_M_begin_44 U2)) C hP hD hS 4 0 rfl rfl (hk_inl (by decide)) rfl d_M_begin_44 (fun H locs hP hD hS => ?_)
        obtain ⟨U3, hU3⟩ : ∃ z, (f_M_begin_44 U2) = z := ⟨_, rfl⟩
        rw [hU3] at hP hD
        refine lv_iinc (v := (2 : Int32)) (lv' := [(1, .int (2 : Int32)), (0, .ref (am 0))]) hx hb d_M_begin_45 hl (k := 0) rfl (by decide) (by decide) rfl (fun ls hl => ?_)
        refine lv_goto (tgt := 2) hx hb d_M_begin_48 (by decide) ?_
        refine lv_iload_n hx hb d_M_begin_2 rfl (lv_at hl 0 rfl) ?_
        refine lv_iconst (v := (2 : Int32)) hx hb d_M_begin_3 (by decide) ?_
        refine lv_icmp_ge (tgt := 51) hx hb d_M_begin_4 (by decide) (fun c_8 => ?_) (fun c_8 => absurd (by decide) c_8)
        subst hU1 hU2 hU3
        have e : m_M_begin u = (f_M_begin_44 (f_M_begin_37 (f_M_begin_30 u))) := (if_pos c_2).trans ((if_neg c_4).trans ((if_pos c_6).trans (rfl)))
        exact hk_rv C hAe hP hD hS (by rw [e]) d_M_begin_51
  · skip
    refine lv_aload_n hx hb d_M_begin_15 rfl (lv_at hl 1 rfl) ?_
    refine hk_get (v := .ref (am 2)) C hP 0 5 7 i_M rfl rfl (by decide) (hk_in (by decide +kernel) rfl) rfl d_M_begin_16 ?_
    refine lv_iload_n hx hb d_M_begin_19 rfl (lv_at hl 0 rfl) ?_
    refine hk_zld C hP 2 1 (v := (mg7 u) 0) rfl rfl (hk_inl (by decide)) rfl d_M_begin_20 ?_
    refine lv_if_ne (tgt := 45) hx hb d_M_begin_21 (by decide) (fun c_9 => ?_) (fun c_9 => ?_)
    · skip
      refine lv_iinc (v := (1 : Int32)) (lv' := [(1, .int (1 : Int32)), (0, .ref (am 0))]) hx hb d_M_begin_45 hl (k := 0) rfl (by decide) (by decide) rfl (fun ls hl => ?_)
      refine lv_goto (tgt := 2) hx hb d_M_begin_48 (by decide) ?_
      refine lv_iload_n hx hb d_M_begin_2 rfl (lv_at hl 0 rfl) ?_
      refine lv_iconst (v := (2 : Int32)) hx hb d_M_begin_3 (by decide) ?_
      refine lv_icmp_ge (tgt := 51) hx hb d_M_begin_4 (by decide) (fun c_10 => absurd c_10 (by decide)) (fun c_10 => ?_)
      refine lv_aload_n hx hb d_M_begin_7 rfl (lv_at hl 1 rfl) ?_
      refine lv_iload_n hx hb d_M_begin_8 rfl (lv_at hl 0 rfl) ?_
      refine hk_goI (hk_kV (k := 1) (As := [.int (1 : Int32)]) (rest := []) C (c_M_isWanted l G am u (1 : Int32) _) Y_M_isWanted (hk_in (by decide +kernel) rfl) rfl rfl ⟨Nat.le_of_ble_eq_true rfl, Nat.le_of_ble_eq_true rfl⟩ (va_recv hE.1 hP (ci := 5) (q0 := 0) rfl rfl) hP hD rfl hl.1 rfl (Nat.le_of_ble_eq_true rfl) d_M_begin_9 ⟨Nat.zero_le _, Nat.zero_le _⟩) hD hS hA (fun H locs hP hD hS => ?_)
      refine lv_if_eq (tgt := 45) hx hb d_M_begin_12 (by decide) (fun c_11 => ?_) (fun c_11 => ?_)
      · skip
        refine lv_iinc (v := (2 : Int32)) (lv' := [(1, .int (2 : Int32)), (0, .ref (am 0))]) hx hb d_M_begin_45 hl (k := 0) rfl (by decide) (by decide) rfl (fun ls hl => ?_)
        refine lv_goto (tgt := 2) hx hb d_M_begin_48 (by decide) ?_
        refine lv_iload_n hx hb d_M_begin_2 rfl (lv_at hl 0 rfl) ?_
        refine lv_iconst (v := (2 : Int32)) hx hb d_M_begin_3 (by decide) ?_
        refine lv_icmp_ge (tgt := 51) hx hb d_M_begin_4 (by decide) (fun c_12 => ?_) (fun c_12 => absurd (by decide) c_12)
        have e : m_M_begin u = u := (if_neg c_2).trans ((if_neg c_9).trans ((if_pos c_11).trans (rfl)))
        exact hk_rv C hAe hP hD hS (by rw [e]) d_M_begin_51
      · skip
        refine lv_aload_n hx hb d_M_begin_15 rfl (lv_at hl 1 rfl) ?_
        refine hk_get (v := .ref (am 2)) C hP 0 5 7 i_M rfl rfl (by decide) (hk_in (by decide +kernel) rfl) rfl d_M_begin_16 ?_
        refine lv_iload_n hx hb d_M_begin_19 rfl (lv_at hl 0 rfl) ?_
        refine hk_zld C hP 2 1 (v := (mg7 u) 1) rfl rfl (hk_inl (by decide)) rfl d_M_begin_20 ?_
        refine lv_if_ne (tgt := 45) hx hb d_M_begin_21 (by decide) (fun c_13 => ?_) (fun c_13 => ?_)
        · skip
          refine lv_iinc (v := (2 : Int32)) (lv' := [(1, .int (2 : Int32)), (0, .ref (am 0))]) hx hb d_M_begin_45 hl (k := 0) rfl (by decide) (by decide) rfl (fun ls hl => ?_)
          refine lv_goto (tgt := 2) hx hb d_M_begin_48 (by decide) ?_
          refine lv_iload_n hx hb d_M_begin_2 rfl (lv_at hl 0 rfl) ?_
          refine lv_iconst (v := (2 : Int32)) hx hb d_M_begin_3 (by decide) ?_
          refine lv_icmp_ge (tgt := 51) hx hb d_M_begin_4 (by decide) (fun c_14 => ?_) (fun c_14 => absurd (by decide) c_14)
          have e : m_M_begin u = u := (if_neg c_2).trans ((if_neg c_9).trans ((if_neg c_11).trans ((if_neg c_13).trans (rfl))))
          exact hk_rv C hAe hP hD hS (by rw [e]) d_M_begin_51
        · skip
          refine lv_aload_n hx hb d_M_begin_24 rfl (lv_at hl 1 rfl) ?_
          refine hk_get (v := .ref (am 2)) C hP 0 5 7 i_M rfl rfl (by decide) (hk_in (by decide +kernel) rfl) rfl d_M_begin_25 ?_
          refine lv_iload_n hx hb d_M_begin_28 rfl (lv_at hl 0 rfl) ?_
          refine lv_iconst (v := (1 : Int32)) hx hb d_M_begin_29 (by decide) ?_
          refine hk_zst (w2 := wM G am (f_M_begin_30 u)) C hP hD hS 2 1 rfl rfl (hk_inl (by decide)) (Or.inr rfl) rfl d_M_begin_30 (fun H locs hP hD hS => ?_)
          obtain ⟨U4, hU4⟩ : ∃ z, (f_M_begin_30 u) = z := ⟨_, rfl⟩
          rw [hU4] at hP hD
          refine lv_aload_n hx hb d_M_begin_31 rfl (lv_at hl 1 rfl) ?_
          refine hk_get (v := .ref (am 3)) C hP 0 5 8 i_M rfl rfl (by decide) (hk_in (by decide +kernel) rfl) rfl d_M_begin_32 ?_
          refine lv_iload_n hx hb d_M_begin_35 rfl (lv_at hl 0 rfl) ?_
          refine lv_iconst (v := (0 : Int32)) hx hb d_M_begin_36 (by decide) ?_
          refine hk_ist (w2 := wM G am (f_M_begin_37 U4)) C hP hD hS 3 0 rfl rfl (hk_inl (by decide)) rfl d_M_begin_37 (fun H locs hP hD hS => ?_)
          obtain ⟨U5, hU5⟩ : ∃ z, (f_M_begin_37 U4) = z := ⟨_, rfl⟩
          rw [hU5] at hP hD
          refine lv_aload_n hx hb d_M_begin_38 rfl (lv_at hl 1 rfl) ?_
          refine hk_get (v := .ref (am 4)) C hP 0 5 9 i_M rfl rfl (by decide) (hk_in (by decide +kernel) rfl) rfl d_M_begin_39 ?_
          refine lv_iload_n hx hb d_M_begin_42 rfl (lv_at hl 0 rfl) ?_
          refine lv_iconst (v := (0 : Int32)) hx hb d_M_begin_43 (by decide) ?_
          refine hk_ist (w2 := wM G am (f_M_begin_44 U5)) C hP hD hS 4 0 rfl rfl (hk_inl (by decide)) rfl d_M_begin_44 (fun H locs hP hD hS => ?_)
          obtain ⟨U6, hU6⟩ : ∃ z, (f_M_begin_44 U5) = z := ⟨_, rfl⟩
          rw [hU6] at hP hD
          refine lv_iinc (v := (2 : Int32)) (lv' := [(1, .int (2 : Int32)), (0, .ref (am 0))]) hx hb d_M_begin_45 hl (k := 0) rfl (by decide) (by decide) rfl (fun ls hl => ?_)
          refine lv_goto (tgt := 2) hx hb d_M_begin_48 (by decide) ?_
          refine lv_iload_n hx hb d_M_begin_2 rfl (lv_at hl 0 rfl) ?_
          refine lv_iconst (v := (2 : Int32)) hx hb d_M_begin_3 (by decide) ?_
          refine lv_icmp_ge (tgt := 51) hx hb d_M_begin_4 (by decide) (fun c_15 => ?_) (fun c_15 => absurd (by decide) c_15)
          subst hU4 hU5 hU6
          have e : m_M_begin u = (f_M_begin_44 (f_M_begin_37 (f_M_begin_30 u))) := (if_neg c_2).trans ((if_neg c_9).trans ((if_neg c_11).trans ((if_pos c_13).trans (rfl))))
          exact hk_rv C hAe hP hD hS (by rw [e]) d_M_begin_51
    · skip
      refine lv_aload_n hx hb d_M_begin_24 rfl (lv_at hl 1 rfl) ?_
      refine hk_get (v := .ref (am 2)) C hP 0 5 7 i_M rfl rfl (by decide) (hk_in (by decide +kernel) rfl) rfl d_M_begin_25 ?_
      refine lv_iload_n hx hb d_M_begin_28 rfl (lv_at hl 0 rfl) ?_
      refine lv_iconst (v := (1 : Int32)) hx hb d_M_begin_29 (by decide) ?_
      refine hk_zst (w2 := wM G am (f_M_begin_30_1 u)) C hP hD hS 2 1 rfl rfl (hk_inl (by decide)) (Or.inr rfl) rfl d_M_begin_30 (fun H locs hP hD hS => ?_)
      obtain ⟨U7, hU7⟩ : ∃ z, (f_M_begin_30_1 u) = z := ⟨_, rfl⟩
      rw [hU7] at hP hD
      refine lv_aload_n hx hb d_M_begin_31 rfl (lv_at hl 1 rfl) ?_
      refine hk_get (v := .ref (am 3)) C hP 0 5 8 i_M rfl rfl (by decide) (hk_in (by decide +kernel) rfl) rfl d_M_begin_32 ?_
      refine lv_iload_n hx hb d_M_begin_35 rfl (lv_at hl 0 rfl) ?_
      refine lv_iconst (v := (0 : Int32)) hx hb d_M_begin_36 (by decide) ?_
      refine hk_ist (w2 := wM G am (f_M_begin_37_1 U7)) C hP hD hS 3 0 rfl rfl (hk_inl (by decide)) rfl d_M_begin_37 (fun H locs hP hD hS => ?_)
      obtain ⟨U8, hU8⟩ : ∃ z, (f_M_begin_37_1 U7) = z := ⟨_, rfl⟩
      rw [hU8] at hP hD
      refine lv_aload_n hx hb d_M_begin_38 rfl (lv_at hl 1 rfl) ?_
      refine hk_get (v := .ref (am 4)) C hP 0 5 9 i_M rfl rfl (by decide) (hk_in (by decide +kernel) rfl) rfl d_M_begin_39 ?_
      refine lv_iload_n hx hb d_M_begin_42 rfl (lv_at hl 0 rfl) ?_
      refine lv_iconst (v := (0 : Int32)) hx hb d_M_begin_43 (by decide) ?_
      refine hk_ist (w2 := wM G am (f_M_begin_44_1 U8)) C hP hD hS 4 0 rfl rfl (hk_inl (by decide)) rfl d_M_begin_44 (fun H locs hP hD hS => ?_)
      obtain ⟨U9, hU9⟩ : ∃ z, (f_M_begin_44_1 U8) = z := ⟨_, rfl⟩
      rw [hU9] at hP hD
      refine lv_iinc (v := (1 : Int32)) (lv' := [(1, .int (1 : Int32)), (0, .ref (am 0))]) hx hb d_M_begin_45 hl (k := 0) rfl (by decide) (by decide) rfl (fun ls hl => ?_)
      refine lv_goto (tgt := 2) hx hb d_M_begin_48 (by decide) ?_
      refine lv_iload_n hx hb d_M_begin_2 rfl (lv_at hl 0 rfl) ?_
      refine lv_iconst (v := (2 : Int32)) hx hb d_M_begin_3 (by decide) ?_
      refine lv_icmp_ge (tgt := 51) hx hb d_M_begin_4 (by decide) (fun c_16 => absurd c_16 (by decide)) (fun c_16 => ?_)
      refine lv_aload_n hx hb d_M_begin_7 rfl (lv_at hl 1 rfl) ?_
      refine lv_iload_n hx hb d_M_begin_8 rfl (lv_at hl 0 rfl) ?_
      refine hk_goI (hk_kV (k := 1) (As := [.int (1 : Int32)]) (rest := []) C (c_M_isWanted l G am U9 (1 : Int32) _) Y_M_isWanted (hk_in (by decide +kernel) rfl) rfl rfl ⟨Nat.le_of_ble_eq_true rfl, Nat.le_of_ble_eq_true rfl⟩ (va_recv hE.1 hP (ci := 5) (q0 := 0) rfl rfl) hP hD rfl hl.1 rfl (Nat.le_of_ble_eq_true rfl) d_M_begin_9 ⟨Nat.zero_le _, Nat.zero_le _⟩) hD hS hA (fun H locs hP hD hS => ?_)
      refine lv_if_eq (tgt := 45) hx hb d_M_begin_12 (by decide) (fun c_17 => ?_) (fun c_17 => ?_)
      · skip
        refine lv_iinc (v := (2 : Int32)) (lv' := [(1, .int (2 : Int32)), (0, .ref (am 0))]) hx hb d_M_begin_45 hl (k := 0) rfl (by decide) (by decide) rfl (fun ls hl => ?_)
        refine lv_goto (tgt := 2) hx hb d_M_begin_48 (by decide) ?_
        refine lv_iload_n hx hb d_M_begin_2 rfl (lv_at hl 0 rfl) ?_
        refine lv_iconst (v := (2 : Int32)) hx hb d_M_begin_3 (by decide) ?_
        refine lv_icmp_ge (tgt := 51) hx hb d_M_begin_4 (by decide) (fun c_18 => ?_) (fun c_18 => absurd (by decide) c_18)
        subst hU7 hU8 hU9
        have e : m_M_begin u = (f_M_begin_44_1 (f_M_begin_37_1 (f_M_begin_30_1 u))) := (if_neg c_2).trans ((if_pos c_9).trans ((if_pos c_17).trans (rfl)))
        exact hk_rv C hAe hP hD hS (by rw [e]) d_M_begin_51
      · skip
        refine lv_aload_n hx hb d_M_begin_15 rfl (lv_at hl 1 rfl) ?_
        refine hk_get (v := .ref (am 2)) C hP 0 5 7 i_M rfl rfl (by decide) (hk_in (by decide +kernel) rfl) rfl d_M_begin_16 ?_
        refine lv_iload_n hx hb d_M_begin_19 rfl (lv_at hl 0 rfl) ?_
        refine hk_zld C hP 2 1 (v := (mg7 U9) 1) rfl rfl (hk_inl (by decide)) rfl d_M_begin_20 ?_
        refine lv_if_ne (tgt := 45) hx hb d_M_begin_21 (by decide) (fun c_19 => ?_) (fun c_19 => ?_)
        · skip
          refine lv_iinc (v := (2 : Int32)) (lv' := [(1, .int (2 : Int32)), (0, .ref (am 0))]) hx hb d_M_begin_45 hl (k := 0) rfl (by decide) (by decide) rfl (fun ls hl => ?_)
          refine lv_goto (tgt := 2) hx hb d_M_begin_48 (by decide) ?_
          refine lv_iload_n hx hb d_M_begin_2 rfl (lv_at hl 0 rfl) ?_
          refine lv_iconst (v := (2 : Int32)) hx hb d_M_begin_3 (by decide) ?_
          refine lv_icmp_ge (tgt := 51) hx hb d_M_begin_4 (by decide) (fun c_20 => ?_) (fun c_20 => absurd (by decide) c_20)
          subst hU7 hU8 hU9
          have e : m_M_begin u = (f_M_begin_44_1 (f_M_begin_37_1 (f_M_begin_30_1 u))) := (if_neg c_2).trans ((if_pos c_9).trans ((if_neg c_17).trans ((if_neg c_19).trans (rfl))))
          exact hk_rv C hAe hP hD hS (by rw [e]) d_M_begin_51
        · skip
          refine lv_aload_n hx hb d_M_begin_24 rfl (lv_at hl 1 rfl) ?_
          refine hk_get (v := .ref (am 2)) C hP 0 5 7 i_M rfl rfl (by decide) (hk_in (by decide +kernel) rfl) rfl d_M_begin_25 ?_
          refine lv_iload_n hx hb d_M_begin_28 rfl (lv_at hl 0 rfl) ?_
          refine lv_iconst (v := (1 : Int32)) hx hb d_M_begin_29 (by decide) ?_
          refine hk_zst (w2 := wM G am (f_M_begin_30 U9)) C hP hD hS 2 1 rfl rfl (hk_inl (by decide)) (Or.inr rfl) rfl d_M_begin_30 (fun H locs hP hD hS => ?_)
          obtain ⟨U10, hU10⟩ : ∃ z, (f_M_begin_30 U9) = z := ⟨_, rfl⟩
          rw [hU10] at hP hD
          refine lv_aload_n hx hb d_M_begin_31 rfl (lv_at hl 1 rfl) ?_
          refine hk_get (v := .ref (am 3)) C hP 0 5 8 i_M rfl rfl (by decide) (hk_in (by decide +kernel) rfl) rfl d_M_begin_32 ?_
          refine lv_iload_n hx hb d_M_begin_35 rfl (lv_at hl 0 rfl) ?_
          refine lv_iconst (v := (0 : Int32)) hx hb d_M_begin_36 (by decide) ?_
          refine hk_ist (w2 := wM G am (f_M_begin_37 U10)) C hP hD hS 3 0 rfl rfl (hk_inl (by decide)) rfl d_M_begin_37 (fun H locs hP hD hS => ?_)
          obtain ⟨U11, hU11⟩ : ∃ z, (f_M_begin_37 U10) = z := ⟨_, rfl⟩
          rw [hU11] at hP hD
          refine lv_aload_n hx hb d_M_begin_38 rfl (lv_at hl 1 rfl) ?_
          refine hk_get (v := .ref (am 4)) C hP 0 5 9 i_M rfl rfl (by decide) (hk_in (by decide +kernel) rfl) rfl d_M_begin_39 ?_
          refine lv_iload_n hx hb d_M_begin_42 rfl (lv_at hl 0 rfl) ?_
          refine lv_iconst (v := (0 : Int32)) hx hb d_M_begin_43 (by decide) ?_
          refine hk_ist (w2 := wM G am (f_M_begin_44 U11)) C hP hD hS 4 0 rfl rfl (hk_inl (by decide)) rfl d_M_begin_44 (fun H locs hP hD hS => ?_)
          obtain ⟨U12, hU12⟩ : ∃ z, (f_M_begin_44 U11) = z := ⟨_, rfl⟩
          rw [hU12] at hP hD
          refine lv_iinc (v := (2 : Int32)) (lv' := [(1, .int (2 : Int32)), (0, .ref (am 0))]) hx hb d_M_begin_45 hl (k := 0) rfl (by decide) (by decide) rfl (fun ls hl => ?_)
          refine lv_goto (tgt := 2) hx hb d_M_begin_48 (by decide) ?_
          refine lv_iload_n hx hb d_M_begin_2 rfl (lv_at hl 0 rfl) ?_
          refine lv_iconst (v := (2 : Int32)) hx hb d_M_begin_3 (by decide) ?_
          refine lv_icmp_ge (tgt := 51) hx hb d_M_begin_4 (by decide) (fun c_21 => ?_) (fun c_21 => absurd (by decide) c_21)
          subst hU7 hU8 hU9 hU10 hU11 hU12
          have e : m_M_begin u = (f_M_begin_44 (f_M_begin_37 (f_M_begin_30 (f_M_begin_44_1 (f_M_begin_37_1 (f_M_begin_30_1 u)))))) := (if_neg c_2).trans ((if_pos c_9).trans ((if_neg c_17).trans ((if_pos c_19).trans (rfl))))
          exact hk_rv C hAe hP hD hS (by rw [e]) d_M_begin_51
set_option maxRecDepth 100000 in
theorem Y_M_tickSide : hk_Y y_M_tickSide b_M_tickSide 2 none 1 := ⟨hk_in (by decide +kernel) rfl, hk_in (by decide +kernel) rfl, hk_in (by decide +kernel) rfl, hk_in (List.mem_of_getElem? (i := 645) rfl) rfl, by decide, by decide, by decide +kernel⟩
abbrev rm_M_tickSide : Room := { frames := 1, cells := 0, slots := 0, locals := 21 }
set_option maxHeartbeats 4000000 in
set_option maxRecDepth 100000 in
theorem c_M_tickSide (l : Launch) (G : hk_G) (am : Nat → Nat) (u : cM) (p1 : Int32) (hs : p1 = 0 ∨ p1 = 1) : hk_V l G y_M_tickSide b_M_tickSide 2 rm_M_tickSide [.ref (am 0), .int p1] (wM G am u) (wM G am (m_M_tickSide p1 u)) := by
  refine hk_V_of (by decide) (Nat.le_of_ble_eq_true rfl) ?_
  intro p e s m below meth c A ls C hAe hA hP hD hS hl
  have hx := C.1
  have hb := C.2.1
  have hown := C.2.2.2.2.1
  have hts := C.2.2.2.2.2.1
  have hE := C.2.2.2.2.2.2.2
  have hl : lv_has ls 2 [(0, .ref (am 0)), (1, .int p1)] := hl
  refine lv_aload_n hx hb d_M_tickSide_0 rfl (lv_at hl 0 rfl) ?_
  refine hk_get (v := .ref (am 2)) C hP 0 5 7 i_M rfl rfl (by decide) (hk_in (by decide +kernel) rfl) rfl d_M_tickSide_1 ?_
  refine lv_iload_n hx hb d_M_tickSide_4 rfl (lv_at hl 1 rfl) ?_
  refine hk_zld C hP 2 1 (v := (mg7 u) p1.toNatClampNeg) rfl rfl (hk_v2 hs) rfl d_M_tickSide_5 ?_
  refine lv_if_ne (tgt := 10) hx hb d_M_tickSide_6 (by decide) (fun c_1 => ?_) (fun c_1 => ?_)
  · skip
    refine lv_aload_n hx hb d_M_tickSide_10 rfl (lv_at hl 0 rfl) ?_
    refine hk_get (v := .ref (am 3)) C hP 0 5 8 i_M rfl rfl (by decide) (hk_in (by decide +kernel) rfl) rfl d_M_tickSide_11 ?_
    refine lv_iload_n hx hb d_M_tickSide_14 rfl (lv_at hl 1 rfl) ?_
    refine lv_dup2_11 hx hb d_M_tickSide_15 rfl rfl ?_
    refine hk_ild C hP 3 0 (v := (mg8 u) p1.toNatClampNeg) rfl rfl (hk_v2 hs) rfl d_M_tickSide_16 ?_
    refine lv_iconst (v := (1 : Int32)) hx hb d_M_tickSide_17 (by decide) ?_
    refine lv_iadd hx hb d_M_tickSide_18 ?_
    refine hk_ist (w2 := wM G am (f_M_tickSide_19 p1 u)) C hP hD hS 3 0 rfl rfl (hk_v2 hs) rfl d_M_tickSide_19 (fun H locs hP hD hS => ?_)
    obtain ⟨U1, hU1⟩ : ∃ z, (f_M_tickSide_19 p1 u) = z := ⟨_, rfl⟩
    rw [hU1] at hP hD
    refine lv_aload_n hx hb d_M_tickSide_20 rfl (lv_at hl 0 rfl) ?_
    refine hk_get (v := .ref (am 3)) C hP 0 5 8 i_M rfl rfl (by decide) (hk_in (by decide +kernel) rfl) rfl d_M_tickSide_21 ?_
    refine lv_iload_n hx hb d_M_tickSide_24 rfl (lv_at hl 1 rfl) ?_
    refine hk_ild C hP 3 0 (v := (mg8 U1) p1.toNatClampNeg) rfl rfl (by subst hU1; exact hk_v2 hs) rfl d_M_tickSide_25 ?_
    refine lv_aload_n hx hb d_M_tickSide_26 rfl (lv_at hl 0 rfl) ?_
    refine lv_iload_n hx hb d_M_tickSide_27 rfl (lv_at hl 1 rfl) ?_
    refine hk_goI (hk_kV (k := 1) (As := [.int p1]) (rest := [.int ((mg8 U1) p1.toNatClampNeg)]) C (c_M_period l G am U1 p1 hs _) Y_M_period (hk_in (by decide +kernel) rfl) rfl rfl ⟨Nat.le_of_ble_eq_true rfl, Nat.le_of_ble_eq_true rfl⟩ (va_recv hE.1 hP (ci := 5) (q0 := 0) rfl rfl) hP hD rfl hl.1 rfl (Nat.le_of_ble_eq_true rfl) d_M_tickSide_28 ⟨Nat.zero_le _, Nat.zero_le _⟩) hD hS hA (fun H locs hP hD hS => ?_)
    refine lv_icmp_ge (tgt := 35) hx hb d_M_tickSide_31 (by decide) (fun c_2 => ?_) (fun c_2 => ?_)
    · skip
      refine lv_aload_n hx hb d_M_tickSide_35 rfl (lv_at hl 0 rfl) ?_
      refine hk_get (v := .ref (am 3)) C hP 0 5 8 i_M rfl rfl (by decide) (hk_in (by decide +kernel) rfl) rfl d_M_tickSide_36 ?_
      refine lv_iload_n hx hb d_M_tickSide_39 rfl (lv_at hl 1 rfl) ?_
      refine lv_iconst (v := (0 : Int32)) hx hb d_M_tickSide_40 (by decide) ?_
      refine hk_ist (w2 := wM G am (f_M_tickSide_41 p1 U1)) C hP hD hS 3 0 rfl rfl (by subst hU1; exact hk_v2 hs) rfl d_M_tickSide_41 (fun H locs hP hD hS => ?_)
      obtain ⟨U2, hU2⟩ : ∃ z, (f_M_tickSide_41 p1 U1) = z := ⟨_, rfl⟩
      rw [hU2] at hP hD
      refine lv_aload_n hx hb d_M_tickSide_42 rfl (lv_at hl 0 rfl) ?_
      refine hk_get (v := .ref (am 4)) C hP 0 5 9 i_M rfl rfl (by decide) (hk_in (by decide +kernel) rfl) rfl d_M_tickSide_43 ?_
      refine lv_iload_n hx hb d_M_tickSide_46 rfl (lv_at hl 1 rfl) ?_
      refine lv_dup2_11 hx hb d_M_tickSide_47 rfl rfl ?_
      refine hk_ild C hP 4 0 (v := (mg9 U2) p1.toNatClampNeg) rfl rfl (by subst hU1 hU2; exact hk_v2 hs) rfl d_M_tickSide_48 ?_
      refine lv_iconst (v := (1 : Int32)) hx hb d_M_tickSide_49 (by decide) ?_
      refine lv_iadd hx hb d_M_tickSide_50 ?_
      refine hk_ist (w2 := wM G am (f_M_tickSide_51 p1 U2)) C hP hD hS 4 0 rfl rfl (by subst hU1 hU2; exact hk_v2 hs) rfl d_M_tickSide_51 (fun H locs hP hD hS => ?_)
      obtain ⟨U3, hU3⟩ : ∃ z, (f_M_tickSide_51 p1 U2) = z := ⟨_, rfl⟩
      rw [hU3] at hP hD
      refine lv_aload_n hx hb d_M_tickSide_52 rfl (lv_at hl 0 rfl) ?_
      refine hk_get (v := .ref (am 2)) C hP 0 5 7 i_M rfl rfl (by decide) (hk_in (by decide +kernel) rfl) rfl d_M_tickSide_53 ?_
      refine lv_iload_n hx hb d_M_tickSide_56 rfl (lv_at hl 1 rfl) ?_
      refine lv_aload_n hx hb d_M_tickSide_57 rfl (lv_at hl 0 rfl) ?_
      refine lv_iload_n hx hb d_M_tickSide_58 rfl (lv_at hl 1 rfl) ?_
      refine hk_goI (hk_kV (k := 1) (As := [.int p1]) (rest := [.int p1, .ref (am 2)]) C (c_M_isWanted l G am U3 p1 _) Y_M_isWanted (hk_in (by decide +kernel) rfl) rfl rfl ⟨Nat.le_of_ble_eq_true rfl, Nat.le_of_ble_eq_true rfl⟩ (va_recv hE.1 hP (ci := 5) (q0 := 0) rfl rfl) hP hD rfl hl.1 rfl (Nat.le_of_ble_eq_true rfl) d_M_tickSide_59 ⟨Nat.zero_le _, Nat.zero_le _⟩) hD hS hA (fun H locs hP hD hS => ?_)
      refine lv_if_ne (tgt := 75) hx hb d_M_tickSide_62 (by decide) (fun c_3 => ?_) (fun c_3 => ?_)
      · skip
        refine lv_iconst (v := (1 : Int32)) hx hb d_M_tickSide_75 (by decide) ?_
        refine lv_goto (tgt := 80) hx hb d_M_tickSide_76 (by decide) ?_
        refine hk_zst (w2 := wM G am (f_M_tickSide_80_1 p1 U3)) C hP hD hS 2 1 rfl rfl (by subst hU1 hU2 hU3; exact hk_v2 hs) (Or.inr rfl) rfl d_M_tickSide_80 (fun H locs hP hD hS => ?_)
        obtain ⟨U4, hU4⟩ : ∃ z, (f_M_tickSide_80_1 p1 U3) = z := ⟨_, rfl⟩
        rw [hU4] at hP hD
        subst hU1 hU2 hU3 hU4
        have e : m_M_tickSide p1 u = (f_M_tickSide_80_1 p1 (f_M_tickSide_51 p1 (f_M_tickSide_41 p1 (f_M_tickSide_19 p1 u)))) := (if_neg c_1).trans ((if_pos c_2).trans ((if_neg c_3).trans (rfl)))
        exact hk_rv C hAe hP hD hS (by rw [e]) d_M_tickSide_81
      · skip
        refine lv_aload_n hx hb d_M_tickSide_65 rfl (lv_at hl 0 rfl) ?_
        refine hk_get (v := .ref (am 4)) C hP 0 5 9 i_M rfl rfl (by decide) (hk_in (by decide +kernel) rfl) rfl d_M_tickSide_66 ?_
        refine lv_iload_n hx hb d_M_tickSide_69 rfl (lv_at hl 1 rfl) ?_
        refine hk_ild C hP 4 0 (v := (mg9 U3) p1.toNatClampNeg) rfl rfl (by subst hU1 hU2 hU3; exact hk_v2 hs) rfl d_M_tickSide_70 ?_
        refine lv_iconst (v := (3 : Int32)) hx hb d_M_tickSide_71 (by decide) ?_
        refine lv_icmp_ge (tgt := 79) hx hb d_M_tickSide_72 (by decide) (fun c_4 => ?_) (fun c_4 => ?_)
        · skip
          refine lv_iconst (v := (0 : Int32)) hx hb d_M_tickSide_79 (by decide) ?_
          refine hk_zst (w2 := wM G am (f_M_tickSide_80 p1 U3)) C hP hD hS 2 1 rfl rfl (by subst hU1 hU2 hU3; exact hk_v2 hs) (Or.inl rfl) rfl d_M_tickSide_80 (fun H locs hP hD hS => ?_)
          obtain ⟨U5, hU5⟩ : ∃ z, (f_M_tickSide_80 p1 U3) = z := ⟨_, rfl⟩
          rw [hU5] at hP hD
          subst hU1 hU2 hU3 hU5
          have e : m_M_tickSide p1 u = (f_M_tickSide_80 p1 (f_M_tickSide_51 p1 (f_M_tickSide_41 p1 (f_M_tickSide_19 p1 u)))) := (if_neg c_1).trans ((if_pos c_2).trans ((if_pos c_3).trans ((if_pos c_4).trans (rfl))))
          exact hk_rv C hAe hP hD hS (by rw [e]) d_M_tickSide_81
        · skip
          refine lv_iconst (v := (1 : Int32)) hx hb d_M_tickSide_75 (by decide) ?_
          refine lv_goto (tgt := 80) hx hb d_M_tickSide_76 (by decide) ?_
          refine hk_zst (w2 := wM G am (f_M_tickSide_80_1 p1 U3)) C hP hD hS 2 1 rfl rfl (by subst hU1 hU2 hU3; exact hk_v2 hs) (Or.inr rfl) rfl d_M_tickSide_80 (fun H locs hP hD hS => ?_)
          obtain ⟨U6, hU6⟩ : ∃ z, (f_M_tickSide_80_1 p1 U3) = z := ⟨_, rfl⟩
          rw [hU6] at hP hD
          subst hU1 hU2 hU3 hU6
          have e : m_M_tickSide p1 u = (f_M_tickSide_80_1 p1 (f_M_tickSide_51 p1 (f_M_tickSide_41 p1 (f_M_tickSide_19 p1 u)))) := (if_neg c_1).trans ((if_pos c_2).trans ((if_pos c_3).trans ((if_neg c_4).trans (rfl))))
          exact hk_rv C hAe hP hD hS (by rw [e]) d_M_tickSide_81
    · skip
      subst hU1
      have e : m_M_tickSide p1 u = (f_M_tickSide_19 p1 u) := (if_neg c_1).trans ((if_neg c_2).trans (rfl))
      exact hk_rv C hAe hP hD hS (by rw [e]) d_M_tickSide_34
  · skip
    have e : m_M_tickSide p1 u = u := (if_pos c_1).trans (rfl)
    exact hk_rv C hAe hP hD hS (by rw [e]) d_M_tickSide_9
set_option maxRecDepth 100000 in
theorem Y_M_speed : hk_Y y_M_speed b_M_speed 1 (some .int) 0 := ⟨hk_in (by decide +kernel) rfl, hk_in (by decide +kernel) rfl, hk_in (by decide +kernel) rfl, hk_in (List.mem_of_getElem? (i := 653) rfl) rfl, by decide, by decide, by decide +kernel⟩
abbrev rm_M_speed : Room := { frames := 0, cells := 0, slots := 0, locals := 0 }
set_option maxHeartbeats 4000000 in
set_option maxRecDepth 100000 in
theorem c_M_speed (l : Launch) (G : hk_G) (am : Nat → Nat) (u : cM) : hk_I l G y_M_speed b_M_speed 1 (some .int) rm_M_speed [.ref (am 0)] (wM G am u) (m_M_speed u) (wM G am u) := by
  refine hk_I_of (by decide) (Nat.le_of_ble_eq_true rfl) ?_
  intro p e s m below meth c A ls C hAe hA hP hD hS hl
  have hx := C.1
  have hb := C.2.1
  have hown := C.2.2.2.2.1
  have hts := C.2.2.2.2.2.1
  have hE := C.2.2.2.2.2.2.2
  have hl : lv_has ls 1 [(0, .ref (am 0))] := hl
  refine lv_aload_n hx hb d_M_speed_0 rfl (lv_at hl 0 rfl) ?_
  refine hk_get (v := .ref (am 1)) C hP 0 5 1 i_M rfl rfl (by decide) (hk_in (by decide +kernel) rfl) rfl d_M_speed_1 ?_
  refine lv_iconst (v := (5 : Int32)) hx hb d_M_speed_4 (by decide) ?_
  refine hk_ild C hP 1 0 (v := (mg1 u) 5) rfl rfl (hk_inl (by decide)) rfl d_M_speed_5 ?_
  refine lv_if_ne (tgt := 11) hx hb d_M_speed_6 (by decide) (fun c_1 => ?_) (fun c_1 => ?_)
  · skip
    refine lv_aload_n hx hb d_M_speed_11 rfl (lv_at hl 0 rfl) ?_
    refine hk_get (v := .ref (am 1)) C hP 0 5 1 i_M rfl rfl (by decide) (hk_in (by decide +kernel) rfl) rfl d_M_speed_12 ?_
    refine lv_iconst (v := (4 : Int32)) hx hb d_M_speed_15 (by decide) ?_
    refine hk_ild C hP 1 0 (v := (mg1 u) 4) rfl rfl (hk_inl (by decide)) rfl d_M_speed_16 ?_
    refine lv_iconst (v := (1 : Int32)) hx hb d_M_speed_17 (by decide) ?_
    refine lv_icmp_ne (tgt := 47) hx hb d_M_speed_18 (by decide) (fun c_2 => ?_) (fun c_2 => ?_)
    · skip
      refine lv_aload_n hx hb d_M_speed_47 rfl (lv_at hl 0 rfl) ?_
      refine hk_get (v := .ref (am 1)) C hP 0 5 1 i_M rfl rfl (by decide) (hk_in (by decide +kernel) rfl) rfl d_M_speed_48 ?_
      refine lv_iconst (v := (4 : Int32)) hx hb d_M_speed_51 (by decide) ?_
      refine hk_ild C hP 1 0 (v := (mg1 u) 4) rfl rfl (hk_inl (by decide)) rfl d_M_speed_52 ?_
      refine lv_if_ne (tgt := 60) hx hb d_M_speed_53 (by decide) (fun c_3 => ?_) (fun c_3 => ?_)
      · skip
        refine lv_aload_n hx hb d_M_speed_60 rfl (lv_at hl 0 rfl) ?_
        refine hk_get (v := .ref (am 1)) C hP 0 5 1 i_M rfl rfl (by decide) (hk_in (by decide +kernel) rfl) rfl d_M_speed_61 ?_
        refine lv_iconst (v := (4 : Int32)) hx hb d_M_speed_64 (by decide) ?_
        refine hk_ild C hP 1 0 (v := (mg1 u) 4) rfl rfl (hk_inl (by decide)) rfl d_M_speed_65 ?_
        refine lv_iconst (v := (1 : Int32)) hx hb d_M_speed_66 (by decide) ?_
        refine lv_isub hx hb d_M_speed_67 ?_
        have e : m_M_speed u = ((mg1 u) 4) - (1 : Int32) := (if_neg c_1).trans ((if_neg c_2).trans ((if_neg c_3).trans (rfl)))
        exact hk_ri C hAe hP hD hS e.symm rfl d_M_speed_68
      · skip
        refine lv_iconst (v := (0 : Int32)) hx hb d_M_speed_56 (by decide) ?_
        refine lv_goto (tgt := 68) hx hb d_M_speed_57 (by decide) ?_
        have e : m_M_speed u = (0 : Int32) := (if_neg c_1).trans ((if_neg c_2).trans ((if_pos c_3).trans (rfl)))
        exact hk_ri C hAe hP hD hS e.symm rfl d_M_speed_68
    · skip
      refine lv_aload_n hx hb d_M_speed_21 rfl (lv_at hl 0 rfl) ?_
      refine hk_get (v := .int (mg5 u)) C hP 0 5 5 i_M rfl rfl (by decide) (hk_in (by decide +kernel) rfl) rfl d_M_speed_22 ?_
      refine lv_if_ne (tgt := 32) hx hb d_M_speed_25 (by decide) (fun c_4 => ?_) (fun c_4 => ?_)
      · skip
        refine lv_aload_n hx hb d_M_speed_32 rfl (lv_at hl 0 rfl) ?_
        refine hk_get (v := .int (mg5 u)) C hP 0 5 5 i_M rfl rfl (by decide) (hk_in (by decide +kernel) rfl) rfl d_M_speed_33 ?_
        refine lv_bipush (v := (8 : Int32)) hx hb d_M_speed_36 (by decide) ?_
        refine lv_icmp_ge (tgt := 45) hx hb d_M_speed_38 (by decide) (fun c_5 => ?_) (fun c_5 => ?_)
        · skip
          refine lv_iconst (v := (2 : Int32)) hx hb d_M_speed_45 (by decide) ?_
          have e : m_M_speed u = (2 : Int32) := (if_neg c_1).trans ((if_pos c_2).trans ((if_neg c_4).trans ((if_pos c_5).trans (rfl))))
          exact hk_ri C hAe hP hD hS e.symm rfl d_M_speed_46
        · skip
          refine lv_iconst (v := (1 : Int32)) hx hb d_M_speed_41 (by decide) ?_
          refine lv_goto (tgt := 46) hx hb d_M_speed_42 (by decide) ?_
          have e : m_M_speed u = (1 : Int32) := (if_neg c_1).trans ((if_pos c_2).trans ((if_neg c_4).trans ((if_neg c_5).trans (rfl))))
          exact hk_ri C hAe hP hD hS e.symm rfl d_M_speed_46
      · skip
        refine lv_iconst (v := (0 : Int32)) hx hb d_M_speed_28 (by decide) ?_
        refine lv_goto (tgt := 46) hx hb d_M_speed_29 (by decide) ?_
        have e : m_M_speed u = (0 : Int32) := (if_neg c_1).trans ((if_pos c_2).trans ((if_pos c_4).trans (rfl)))
        exact hk_ri C hAe hP hD hS e.symm rfl d_M_speed_46
  · skip
    refine lv_iconst (v := (0 : Int32)) hx hb d_M_speed_9 (by decide) ?_
    have e : m_M_speed u = (0 : Int32) := (if_pos c_1).trans (rfl)
    exact hk_ri C hAe hP hD hS e.symm rfl d_M_speed_10
set_option maxRecDepth 100000 in
theorem Y_M_tickWiper : hk_Y y_M_tickWiper b_M_tickWiper 2 none 0 := ⟨hk_in (by decide +kernel) rfl, hk_in (by decide +kernel) rfl, hk_in (by decide +kernel) rfl, hk_in (List.mem_of_getElem? (i := 649) rfl) rfl, by decide, by decide, by decide +kernel⟩
abbrev rm_M_tickWiper : Room := { frames := 1, cells := 0, slots := 0, locals := 22 }
set_option maxHeartbeats 4000000 in
set_option maxRecDepth 100000 in
theorem tl_M_tickWiper_65 {p : Program} {l : Launch} {e : Env} {s : State} {m : MethodId} {below : List Frame} {meth : Method} {c : Code} {A : Nat → Prop} {H : Heap} {locs : List Loc} {ls : Array Slot} {w0 w1 : va_W} (G : hk_G) (am : Nat → Nat) (u : cM) (C : hk_C p s m meth c R_M b_M_tickWiper 2 none ([.ref (am 0)] : List Value).toArray G) (hAe : va_A w0 s.heap.size = A) (hA : ∀ q : Nat, s.heap.size ≤ q → A q) (hP : va_P (hk_D G) classes (wM G am u) H) (hD : va_D A (wM G am u)) (hS : va_S A s.heap H locs) (hl : lv_has ls 2 [(0, .ref (am 0))]) (hw : w1 = wM G am (g_M_tickWiper_65 u)) : W p l e rm_M_tickWiper s m ([.ref (am 0)] : List Value).toArray below meth c H locs 0 0 (MQ below (va_Qv (fun (_ : Unit) => True) (hk_B G w0 w1 s.heap.size) A) ([.ref (am 0)] : List Value).toArray s 0 0 A) (F0 m 65 ls []) := by
  subst hw
  have hx := C.1
  have hb := C.2.1
  have hown := C.2.2.2.2.1
  have hts := C.2.2.2.2.2.1
  have hE := C.2.2.2.2.2.2.2
  refine lv_aload_n hx hb d_M_tickWiper_65 rfl (lv_at hl 0 rfl) ?_
  refine lv_dup hx hb d_M_tickWiper_66 rfl ?_
  refine hk_get (v := .int (mg11 u)) C hP 0 5 11 i_M rfl rfl (by decide) (hk_in (by decide +kernel) rfl) rfl d_M_tickWiper_67 ?_
  refine lv_aload_n hx hb d_M_tickWiper_70 rfl (lv_at hl 0 rfl) ?_
  refine hk_get (v := .int (mg13 u)) C hP 0 5 13 i_M rfl rfl (by decide) (hk_in (by decide +kernel) rfl) rfl d_M_tickWiper_71 ?_
  refine lv_iadd hx hb d_M_tickWiper_74 ?_
  refine hk_put (w2 := wM G am (f_M_tickWiper_75 u)) (v := .int ((mg11 u) + (mg13 u))) (ty := .int) C hP hD hS 0 5 11 i_M t_M_ok n_M rfl rfl (by decide) (hk_in (by decide +kernel) rfl) rfl (by decide +kernel) rfl rfl (Nat.le_of_ble_eq_true rfl) rfl d_M_tickWiper_75 (fun H locs hP hD hS => ?_)
  obtain ⟨U1, hU1⟩ : ∃ z, (f_M_tickWiper_75 u) = z := ⟨_, rfl⟩
  rw [hU1] at hP hD
  refine lv_aload_n hx hb d_M_tickWiper_78 rfl (lv_at hl 0 rfl) ?_
  refine hk_get (v := .int (mg11 U1)) C hP 0 5 11 i_M rfl rfl (by decide) (hk_in (by decide +kernel) rfl) rfl d_M_tickWiper_79 ?_
  refine lv_bipush (v := (100 : Int32)) hx hb d_M_tickWiper_82 (by decide) ?_
  refine lv_icmp_ge (tgt := 88) hx hb d_M_tickWiper_84 (by decide) (fun c_1 => ?_) (fun c_1 => ?_)
  · skip
    refine lv_aload_n hx hb d_M_tickWiper_88 rfl (lv_at hl 0 rfl) ?_
    refine lv_iconst (v := (0 : Int32)) hx hb d_M_tickWiper_89 (by decide) ?_
    refine hk_put (w2 := wM G am (f_M_tickWiper_90 U1)) (v := .int (0 : Int32)) (ty := .int) C hP hD hS 0 5 11 i_M t_M_ok n_M rfl rfl (by decide) (hk_in (by decide +kernel) rfl) rfl (by decide +kernel) rfl rfl (Nat.le_of_ble_eq_true rfl) rfl d_M_tickWiper_90 (fun H locs hP hD hS => ?_)
    obtain ⟨U2, hU2⟩ : ∃ z, (f_M_tickWiper_90 U1) = z := ⟨_, rfl⟩
    rw [hU2] at hP hD
    refine lv_aload_n hx hb d_M_tickWiper_93 rfl (lv_at hl 0 rfl) ?_
    refine hk_get (v := .ref (am 1)) C hP 0 5 1 i_M rfl rfl (by decide) (hk_in (by decide +kernel) rfl) rfl d_M_tickWiper_94 ?_
    refine lv_iconst (v := (4 : Int32)) hx hb d_M_tickWiper_97 (by decide) ?_
    refine hk_ild C hP 1 0 (v := (mg1 U2) 4) rfl rfl (hk_inl (by decide)) rfl d_M_tickWiper_98 ?_
    refine lv_iconst (v := (1 : Int32)) hx hb d_M_tickWiper_99 (by decide) ?_
    refine lv_icmp_ne (tgt := 130) hx hb d_M_tickWiper_100 (by decide) (fun c_2 => ?_) (fun c_2 => ?_)
    · skip
      subst hU1 hU2
      have e : g_M_tickWiper_65 u = (f_M_tickWiper_90 (f_M_tickWiper_75 u)) := (if_pos c_1).trans ((if_neg c_2).trans (rfl))
      exact hk_rv C hAe hP hD hS (by rw [e]) d_M_tickWiper_130
    · skip
      refine lv_aload_n hx hb d_M_tickWiper_103 rfl (lv_at hl 0 rfl) ?_
      refine hk_get (v := .int (mg5 U2)) C hP 0 5 5 i_M rfl rfl (by decide) (hk_in (by decide +kernel) rfl) rfl d_M_tickWiper_104 ?_
      refine lv_iconst (v := (1 : Int32)) hx hb d_M_tickWiper_107 (by decide) ?_
      refine lv_iconst (v := (4 : Int32)) hx hb d_M_tickWiper_108 (by decide) ?_
      refine hk_goIe (hk_kS (k := 3) (As := [.int (mg5 U2), .int (1 : Int32), .int (4 : Int32)]) (rest := []) C (c_M_within l G (mg5 U2) (1 : Int32) (4 : Int32) _) Y_M_within (hk_in (by decide +kernel) rfl) rfl rfl ⟨Nat.le_of_ble_eq_true rfl, Nat.le_of_ble_eq_true rfl⟩ hk_Pn (hk_Dn (A := A)) rfl hl.1 rfl (Nat.le_of_ble_eq_true rfl) d_M_tickWiper_109 ⟨Nat.zero_le _, Nat.zero_le _⟩) hP hS hA (fun H locs hP hS => ?_)
      refine lv_if_eq (tgt := 130) hx hb d_M_tickWiper_112 (by decide) (fun c_3 => ?_) (fun c_3 => ?_)
      · skip
        subst hU1 hU2
        have e : g_M_tickWiper_65 u = (f_M_tickWiper_90 (f_M_tickWiper_75 u)) := (if_pos c_1).trans ((if_pos c_2).trans ((if_pos c_3).trans (rfl)))
        exact hk_rv C hAe hP hD hS (by rw [e]) d_M_tickWiper_130
      · skip
        refine lv_aload_n hx hb d_M_tickWiper_115 rfl (lv_at hl 0 rfl) ?_
        refine lv_sipush (v := (400 : Int32)) hx hb d_M_tickWiper_116 (by decide) ?_
        refine lv_bipush (v := (80 : Int32)) hx hb d_M_tickWiper_119 (by decide) ?_
        refine lv_aload_n hx hb d_M_tickWiper_121 rfl (lv_at hl 0 rfl) ?_
        refine hk_get (v := .int (mg5 U2)) C hP 0 5 5 i_M rfl rfl (by decide) (hk_in (by decide +kernel) rfl) rfl d_M_tickWiper_122 ?_
        refine lv_imul hx hb d_M_tickWiper_125 ?_
        refine lv_isub hx hb d_M_tickWiper_126 ?_
        refine hk_put (w2 := wM G am (f_M_tickWiper_127 U2)) (v := .int ((400 : Int32) - ((80 : Int32) * (mg5 U2)))) (ty := .int) C hP hD hS 0 5 12 i_M t_M_ok n_M rfl rfl (by decide) (hk_in (by decide +kernel) rfl) rfl (by decide +kernel) rfl rfl (Nat.le_of_ble_eq_true rfl) rfl d_M_tickWiper_127 (fun H locs hP hD hS => ?_)
        obtain ⟨U3, hU3⟩ : ∃ z, (f_M_tickWiper_127 U2) = z := ⟨_, rfl⟩
        rw [hU3] at hP hD
        subst hU1 hU2 hU3
        have e : g_M_tickWiper_65 u = (f_M_tickWiper_127 (f_M_tickWiper_90 (f_M_tickWiper_75 u))) := (if_pos c_1).trans ((if_pos c_2).trans ((if_neg c_3).trans (rfl)))
        exact hk_rv C hAe hP hD hS (by rw [e]) d_M_tickWiper_130
  · skip
    subst hU1
    have e : g_M_tickWiper_65 u = (f_M_tickWiper_75 u) := (if_neg c_1).trans (rfl)
    exact hk_rv C hAe hP hD hS (by rw [e]) d_M_tickWiper_87
set_option maxHeartbeats 4000000 in
set_option maxRecDepth 100000 in
theorem tl_M_tickWiper_5 {p : Program} {l : Launch} {e : Env} {s : State} {m : MethodId} {below : List Frame} {meth : Method} {c : Code} {A : Nat → Prop} {H : Heap} {locs : List Loc} {ls : Array Slot} {w0 w1 : va_W} (G : hk_G) (am : Nat → Nat) (u : cM) (zs : Int32) (C : hk_C p s m meth c R_M b_M_tickWiper 2 none ([.ref (am 0)] : List Value).toArray G) (hAe : va_A w0 s.heap.size = A) (hA : ∀ q : Nat, s.heap.size ≤ q → A q) (hP : va_P (hk_D G) classes (wM G am u) H) (hD : va_D A (wM G am u)) (hS : va_S A s.heap H locs) (hl : lv_has ls 2 [(1, .int zs), (0, .ref (am 0))]) (hw : w1 = wM G am (g_M_tickWiper_5 zs u)) : W p l e rm_M_tickWiper s m ([.ref (am 0)] : List Value).toArray below meth c H locs 0 0 (MQ below (va_Qv (fun (_ : Unit) => True) (hk_B G w0 w1 s.heap.size) A) ([.ref (am 0)] : List Value).toArray s 0 0 A) (F0 m 5 ls []) := by
  subst hw
  have hx := C.1
  have hb := C.2.1
  have hown := C.2.2.2.2.1
  have hts := C.2.2.2.2.2.1
  have hE := C.2.2.2.2.2.2.2
  refine lv_aload_n hx hb d_M_tickWiper_5 rfl (lv_at hl 1 rfl) ?_
  refine lv_iconst (v := (0 : Int32)) hx hb d_M_tickWiper_6 (by decide) ?_
  refine hk_put (w2 := wM G am (f_M_tickWiper_7 u)) (v := .int (0 : Int32)) (ty := .int) C hP hD hS 0 5 13 i_M t_M_ok n_M rfl rfl (by decide) (hk_in (by decide +kernel) rfl) rfl (by decide +kernel) rfl rfl (Nat.le_of_ble_eq_true rfl) rfl d_M_tickWiper_7 (fun H locs hP hD hS => ?_)
  obtain ⟨U1, hU1⟩ : ∃ z, (f_M_tickWiper_7 u) = z := ⟨_, rfl⟩
  rw [hU1] at hP hD
  refine lv_aload_n hx hb d_M_tickWiper_10 rfl (lv_at hl 1 rfl) ?_
  refine hk_get (v := .int (mg11 U1)) C hP 0 5 11 i_M rfl rfl (by decide) (hk_in (by decide +kernel) rfl) rfl d_M_tickWiper_11 ?_
  refine lv_if_ne (tgt := 27) hx hb d_M_tickWiper_14 (by decide) (fun c_1 => ?_) (fun c_1 => ?_)
  · skip
    refine lv_aload_n hx hb d_M_tickWiper_27 rfl (lv_at hl 1 rfl) ?_
    refine hk_get (v := .int (mg11 U1)) C hP 0 5 11 i_M rfl rfl (by decide) (hk_in (by decide +kernel) rfl) rfl d_M_tickWiper_28 ?_
    refine lv_if_ne (tgt := 52) hx hb d_M_tickWiper_31 (by decide) (fun c_2 => ?_) (fun c_2 => ?_)
    · skip
      refine lv_aload_n hx hb d_M_tickWiper_52 rfl (lv_at hl 1 rfl) ?_
      refine lv_iload_n hx hb d_M_tickWiper_53 rfl (lv_at hl 0 rfl) ?_
      refine lv_if_ne (tgt := 61) hx hb d_M_tickWiper_54 (by decide) (fun c_3 => ?_) (fun c_3 => ?_)
      · skip
        refine lv_iload_n hx hb d_M_tickWiper_61 rfl (lv_at hl 0 rfl) ?_
        refine hk_put (w2 := wM G am (f_M_tickWiper_62_1 zs U1)) (v := .int zs) (ty := .int) C hP hD hS 0 5 13 i_M t_M_ok n_M rfl rfl (by decide) (hk_in (by decide +kernel) rfl) rfl (by decide +kernel) rfl rfl (Nat.le_of_ble_eq_true rfl) rfl d_M_tickWiper_62 (fun H locs hP hD hS => ?_)
        obtain ⟨U2, hU2⟩ : ∃ z, (f_M_tickWiper_62_1 zs U1) = z := ⟨_, rfl⟩
        rw [hU2] at hP hD
        subst hU1 hU2
        have e : g_M_tickWiper_5 zs u = (g_M_tickWiper_65 (f_M_tickWiper_62_1 zs (f_M_tickWiper_7 u))) := (if_neg c_1).trans ((if_neg c_2).trans ((if_neg c_3).trans (rfl)))
        exact tl_M_tickWiper_65 G am (f_M_tickWiper_62_1 zs (f_M_tickWiper_7 u)) C hAe hA hP hD hS (lv_sub hl [1] rfl) (by rw [e])
      · skip
        refine lv_iconst (v := (1 : Int32)) hx hb d_M_tickWiper_57 (by decide) ?_
        refine lv_goto (tgt := 62) hx hb d_M_tickWiper_58 (by decide) ?_
        refine hk_put (w2 := wM G am (f_M_tickWiper_62 U1)) (v := .int (1 : Int32)) (ty := .int) C hP hD hS 0 5 13 i_M t_M_ok n_M rfl rfl (by decide) (hk_in (by decide +kernel) rfl) rfl (by decide +kernel) rfl rfl (Nat.le_of_ble_eq_true rfl) rfl d_M_tickWiper_62 (fun H locs hP hD hS => ?_)
        obtain ⟨U3, hU3⟩ : ∃ z, (f_M_tickWiper_62 U1) = z := ⟨_, rfl⟩
        rw [hU3] at hP hD
        subst hU1 hU3
        have e : g_M_tickWiper_5 zs u = (g_M_tickWiper_65 (f_M_tickWiper_62 (f_M_tickWiper_7 u))) := (if_neg c_1).trans ((if_neg c_2).trans ((if_pos c_3).trans (rfl)))
        exact tl_M_tickWiper_65 G am (f_M_tickWiper_62 (f_M_tickWiper_7 u)) C hAe hA hP hD hS (lv_sub hl [1] rfl) (by rw [e])
    · skip
      refine lv_aload_n hx hb d_M_tickWiper_34 rfl (lv_at hl 1 rfl) ?_
      refine hk_get (v := .int (mg12 U1)) C hP 0 5 12 i_M rfl rfl (by decide) (hk_in (by decide +kernel) rfl) rfl d_M_tickWiper_35 ?_
      refine lv_if_le (tgt := 52) hx hb d_M_tickWiper_38 (by decide) (fun c_4 => ?_) (fun c_4 => ?_)
      · skip
        refine lv_aload_n hx hb d_M_tickWiper_52 rfl (lv_at hl 1 rfl) ?_
        refine lv_iload_n hx hb d_M_tickWiper_53 rfl (lv_at hl 0 rfl) ?_
        refine lv_if_ne (tgt := 61) hx hb d_M_tickWiper_54 (by decide) (fun c_5 => ?_) (fun c_5 => ?_)
        · skip
          refine lv_iload_n hx hb d_M_tickWiper_61 rfl (lv_at hl 0 rfl) ?_
          refine hk_put (w2 := wM G am (f_M_tickWiper_62_1 zs U1)) (v := .int zs) (ty := .int) C hP hD hS 0 5 13 i_M t_M_ok n_M rfl rfl (by decide) (hk_in (by decide +kernel) rfl) rfl (by decide +kernel) rfl rfl (Nat.le_of_ble_eq_true rfl) rfl d_M_tickWiper_62 (fun H locs hP hD hS => ?_)
          obtain ⟨U4, hU4⟩ : ∃ z, (f_M_tickWiper_62_1 zs U1) = z := ⟨_, rfl⟩
          rw [hU4] at hP hD
          subst hU1 hU4
          have e : g_M_tickWiper_5 zs u = (g_M_tickWiper_65 (f_M_tickWiper_62_1 zs (f_M_tickWiper_7 u))) := (if_neg c_1).trans ((if_pos c_2).trans ((if_pos c_4).trans ((if_neg c_5).trans (rfl))))
          exact tl_M_tickWiper_65 G am (f_M_tickWiper_62_1 zs (f_M_tickWiper_7 u)) C hAe hA hP hD hS (lv_sub hl [1] rfl) (by rw [e])
        · skip
          refine lv_iconst (v := (1 : Int32)) hx hb d_M_tickWiper_57 (by decide) ?_
          refine lv_goto (tgt := 62) hx hb d_M_tickWiper_58 (by decide) ?_
          refine hk_put (w2 := wM G am (f_M_tickWiper_62 U1)) (v := .int (1 : Int32)) (ty := .int) C hP hD hS 0 5 13 i_M t_M_ok n_M rfl rfl (by decide) (hk_in (by decide +kernel) rfl) rfl (by decide +kernel) rfl rfl (Nat.le_of_ble_eq_true rfl) rfl d_M_tickWiper_62 (fun H locs hP hD hS => ?_)
          obtain ⟨U5, hU5⟩ : ∃ z, (f_M_tickWiper_62 U1) = z := ⟨_, rfl⟩
          rw [hU5] at hP hD
          subst hU1 hU5
          have e : g_M_tickWiper_5 zs u = (g_M_tickWiper_65 (f_M_tickWiper_62 (f_M_tickWiper_7 u))) := (if_neg c_1).trans ((if_pos c_2).trans ((if_pos c_4).trans ((if_pos c_5).trans (rfl))))
          exact tl_M_tickWiper_65 G am (f_M_tickWiper_62 (f_M_tickWiper_7 u)) C hAe hA hP hD hS (lv_sub hl [1] rfl) (by rw [e])
      · skip
        refine lv_aload_n hx hb d_M_tickWiper_41 rfl (lv_at hl 1 rfl) ?_
        refine lv_dup hx hb d_M_tickWiper_42 rfl ?_
        refine hk_get (v := .int (mg12 U1)) C hP 0 5 12 i_M rfl rfl (by decide) (hk_in (by decide +kernel) rfl) rfl d_M_tickWiper_43 ?_
        refine lv_iconst (v := (1 : Int32)) hx hb d_M_tickWiper_46 (by decide) ?_
        refine lv_isub hx hb d_M_tickWiper_47 ?_
        refine hk_put (w2 := wM G am (f_M_tickWiper_48 U1)) (v := .int ((mg12 U1) - (1 : Int32))) (ty := .int) C hP hD hS 0 5 12 i_M t_M_ok n_M rfl rfl (by decide) (hk_in (by decide +kernel) rfl) rfl (by decide +kernel) rfl rfl (Nat.le_of_ble_eq_true rfl) rfl d_M_tickWiper_48 (fun H locs hP hD hS => ?_)
        obtain ⟨U6, hU6⟩ : ∃ z, (f_M_tickWiper_48 U1) = z := ⟨_, rfl⟩
        rw [hU6] at hP hD
        subst hU1 hU6
        have e : g_M_tickWiper_5 zs u = (f_M_tickWiper_48 (f_M_tickWiper_7 u)) := (if_neg c_1).trans ((if_pos c_2).trans ((if_neg c_4).trans (rfl)))
        exact hk_rv C hAe hP hD hS (by rw [e]) d_M_tickWiper_51
  · skip
    refine lv_iload_n hx hb d_M_tickWiper_17 rfl (lv_at hl 0 rfl) ?_
    refine lv_if_ne (tgt := 27) hx hb d_M_tickWiper_18 (by decide) (fun c_6 => ?_) (fun c_6 => ?_)
    · skip
      refine lv_aload_n hx hb d_M_tickWiper_27 rfl (lv_at hl 1 rfl) ?_
      refine hk_get (v := .int (mg11 U1)) C hP 0 5 11 i_M rfl rfl (by decide) (hk_in (by decide +kernel) rfl) rfl d_M_tickWiper_28 ?_
      refine lv_if_ne (tgt := 52) hx hb d_M_tickWiper_31 (by decide) (fun c_7 => ?_) (fun c_7 => ?_)
      · skip
        refine lv_aload_n hx hb d_M_tickWiper_52 rfl (lv_at hl 1 rfl) ?_
        refine lv_iload_n hx hb d_M_tickWiper_53 rfl (lv_at hl 0 rfl) ?_
        refine lv_if_ne (tgt := 61) hx hb d_M_tickWiper_54 (by decide) (fun c_8 => ?_) (fun c_8 => ?_)
        · skip
          refine lv_iload_n hx hb d_M_tickWiper_61 rfl (lv_at hl 0 rfl) ?_
          refine hk_put (w2 := wM G am (f_M_tickWiper_62_1 zs U1)) (v := .int zs) (ty := .int) C hP hD hS 0 5 13 i_M t_M_ok n_M rfl rfl (by decide) (hk_in (by decide +kernel) rfl) rfl (by decide +kernel) rfl rfl (Nat.le_of_ble_eq_true rfl) rfl d_M_tickWiper_62 (fun H locs hP hD hS => ?_)
          obtain ⟨U7, hU7⟩ : ∃ z, (f_M_tickWiper_62_1 zs U1) = z := ⟨_, rfl⟩
          rw [hU7] at hP hD
          subst hU1 hU7
          have e : g_M_tickWiper_5 zs u = (g_M_tickWiper_65 (f_M_tickWiper_62_1 zs (f_M_tickWiper_7 u))) := (if_pos c_1).trans ((if_neg c_6).trans ((if_neg c_7).trans ((if_neg c_8).trans (rfl))))
          exact tl_M_tickWiper_65 G am (f_M_tickWiper_62_1 zs (f_M_tickWiper_7 u)) C hAe hA hP hD hS (lv_sub hl [1] rfl) (by rw [e])
        · skip
          refine lv_iconst (v := (1 : Int32)) hx hb d_M_tickWiper_57 (by decide) ?_
          refine lv_goto (tgt := 62) hx hb d_M_tickWiper_58 (by decide) ?_
          refine hk_put (w2 := wM G am (f_M_tickWiper_62 U1)) (v := .int (1 : Int32)) (ty := .int) C hP hD hS 0 5 13 i_M t_M_ok n_M rfl rfl (by decide) (hk_in (by decide +kernel) rfl) rfl (by decide +kernel) rfl rfl (Nat.le_of_ble_eq_true rfl) rfl d_M_tickWiper_62 (fun H locs hP hD hS => ?_)
          obtain ⟨U8, hU8⟩ : ∃ z, (f_M_tickWiper_62 U1) = z := ⟨_, rfl⟩
          rw [hU8] at hP hD
          subst hU1 hU8
          have e : g_M_tickWiper_5 zs u = (g_M_tickWiper_65 (f_M_tickWiper_62 (f_M_tickWiper_7 u))) := (if_pos c_1).trans ((if_neg c_6).trans ((if_neg c_7).trans ((if_pos c_8).trans (rfl))))
          exact tl_M_tickWiper_65 G am (f_M_tickWiper_62 (f_M_tickWiper_7 u)) C hAe hA hP hD hS (lv_sub hl [1] rfl) (by rw [e])
      · skip
        refine lv_aload_n hx hb d_M_tickWiper_34 rfl (lv_at hl 1 rfl) ?_
        refine hk_get (v := .int (mg12 U1)) C hP 0 5 12 i_M rfl rfl (by decide) (hk_in (by decide +kernel) rfl) rfl d_M_tickWiper_35 ?_
        refine lv_if_le (tgt := 52) hx hb d_M_tickWiper_38 (by decide) (fun c_9 => ?_) (fun c_9 => ?_)
        · skip
          refine lv_aload_n hx hb d_M_tickWiper_52 rfl (lv_at hl 1 rfl) ?_
          refine lv_iload_n hx hb d_M_tickWiper_53 rfl (lv_at hl 0 rfl) ?_
          refine lv_if_ne (tgt := 61) hx hb d_M_tickWiper_54 (by decide) (fun c_10 => ?_) (fun c_10 => ?_)
          · skip
            refine lv_iload_n hx hb d_M_tickWiper_61 rfl (lv_at hl 0 rfl) ?_
            refine hk_put (w2 := wM G am (f_M_tickWiper_62_1 zs U1)) (v := .int zs) (ty := .int) C hP hD hS 0 5 13 i_M t_M_ok n_M rfl rfl (by decide) (hk_in (by decide +kernel) rfl) rfl (by decide +kernel) rfl rfl (Nat.le_of_ble_eq_true rfl) rfl d_M_tickWiper_62 (fun H locs hP hD hS => ?_)
            obtain ⟨U9, hU9⟩ : ∃ z, (f_M_tickWiper_62_1 zs U1) = z := ⟨_, rfl⟩
            rw [hU9] at hP hD
            subst hU1 hU9
            have e : g_M_tickWiper_5 zs u = (g_M_tickWiper_65 (f_M_tickWiper_62_1 zs (f_M_tickWiper_7 u))) := (if_pos c_1).trans ((if_neg c_6).trans ((if_pos c_7).trans ((if_pos c_9).trans ((if_neg c_10).trans (rfl)))))
            exact tl_M_tickWiper_65 G am (f_M_tickWiper_62_1 zs (f_M_tickWiper_7 u)) C hAe hA hP hD hS (lv_sub hl [1] rfl) (by rw [e])
          · skip
            refine lv_iconst (v := (1 : Int32)) hx hb d_M_tickWiper_57 (by decide) ?_
            refine lv_goto (tgt := 62) hx hb d_M_tickWiper_58 (by decide) ?_
            refine hk_put (w2 := wM G am (f_M_tickWiper_62 U1)) (v := .int (1 : Int32)) (ty := .int) C hP hD hS 0 5 13 i_M t_M_ok n_M rfl rfl (by decide) (hk_in (by decide +kernel) rfl) rfl (by decide +kernel) rfl rfl (Nat.le_of_ble_eq_true rfl) rfl d_M_tickWiper_62 (fun H locs hP hD hS => ?_)
            obtain ⟨U10, hU10⟩ : ∃ z, (f_M_tickWiper_62 U1) = z := ⟨_, rfl⟩
            rw [hU10] at hP hD
            subst hU1 hU10
            have e : g_M_tickWiper_5 zs u = (g_M_tickWiper_65 (f_M_tickWiper_62 (f_M_tickWiper_7 u))) := (if_pos c_1).trans ((if_neg c_6).trans ((if_pos c_7).trans ((if_pos c_9).trans ((if_pos c_10).trans (rfl)))))
            exact tl_M_tickWiper_65 G am (f_M_tickWiper_62 (f_M_tickWiper_7 u)) C hAe hA hP hD hS (lv_sub hl [1] rfl) (by rw [e])
        · skip
          refine lv_aload_n hx hb d_M_tickWiper_41 rfl (lv_at hl 1 rfl) ?_
          refine lv_dup hx hb d_M_tickWiper_42 rfl ?_
          refine hk_get (v := .int (mg12 U1)) C hP 0 5 12 i_M rfl rfl (by decide) (hk_in (by decide +kernel) rfl) rfl d_M_tickWiper_43 ?_
          refine lv_iconst (v := (1 : Int32)) hx hb d_M_tickWiper_46 (by decide) ?_
          refine lv_isub hx hb d_M_tickWiper_47 ?_
          refine hk_put (w2 := wM G am (f_M_tickWiper_48 U1)) (v := .int ((mg12 U1) - (1 : Int32))) (ty := .int) C hP hD hS 0 5 12 i_M t_M_ok n_M rfl rfl (by decide) (hk_in (by decide +kernel) rfl) rfl (by decide +kernel) rfl rfl (Nat.le_of_ble_eq_true rfl) rfl d_M_tickWiper_48 (fun H locs hP hD hS => ?_)
          obtain ⟨U11, hU11⟩ : ∃ z, (f_M_tickWiper_48 U1) = z := ⟨_, rfl⟩
          rw [hU11] at hP hD
          subst hU1 hU11
          have e : g_M_tickWiper_5 zs u = (f_M_tickWiper_48 (f_M_tickWiper_7 u)) := (if_pos c_1).trans ((if_neg c_6).trans ((if_pos c_7).trans ((if_neg c_9).trans (rfl))))
          exact hk_rv C hAe hP hD hS (by rw [e]) d_M_tickWiper_51
    · skip
      refine lv_aload_n hx hb d_M_tickWiper_21 rfl (lv_at hl 1 rfl) ?_
      refine lv_iconst (v := (0 : Int32)) hx hb d_M_tickWiper_22 (by decide) ?_
      refine hk_put (w2 := wM G am (f_M_tickWiper_23 U1)) (v := .int (0 : Int32)) (ty := .int) C hP hD hS 0 5 12 i_M t_M_ok n_M rfl rfl (by decide) (hk_in (by decide +kernel) rfl) rfl (by decide +kernel) rfl rfl (Nat.le_of_ble_eq_true rfl) rfl d_M_tickWiper_23 (fun H locs hP hD hS => ?_)
      obtain ⟨U12, hU12⟩ : ∃ z, (f_M_tickWiper_23 U1) = z := ⟨_, rfl⟩
      rw [hU12] at hP hD
      subst hU1 hU12
      have e : g_M_tickWiper_5 zs u = (f_M_tickWiper_23 (f_M_tickWiper_7 u)) := (if_pos c_1).trans ((if_pos c_6).trans (rfl))
      exact hk_rv C hAe hP hD hS (by rw [e]) d_M_tickWiper_26
set_option maxHeartbeats 4000000 in
set_option maxRecDepth 100000 in
theorem c_M_tickWiper (l : Launch) (G : hk_G) (am : Nat → Nat) (u : cM) : hk_V l G y_M_tickWiper b_M_tickWiper 2 rm_M_tickWiper [.ref (am 0)] (wM G am u) (wM G am (m_M_tickWiper u)) := by
  refine hk_V_of (by decide) (Nat.le_of_ble_eq_true rfl) ?_
  intro p e s m below meth c A ls C hAe hA hP hD hS hl
  have hx := C.1
  have hb := C.2.1
  have hown := C.2.2.2.2.1
  have hts := C.2.2.2.2.2.1
  have hE := C.2.2.2.2.2.2.2
  have hl : lv_has ls 2 [(0, .ref (am 0))] := hl
  refine lv_aload_n hx hb d_M_tickWiper_0 rfl (lv_at hl 0 rfl) ?_
  refine hk_goI (hk_kV (k := 0) (As := []) (rest := []) C (c_M_speed l G am u _) Y_M_speed (hk_in (by decide +kernel) rfl) rfl rfl ⟨Nat.le_of_ble_eq_true rfl, Nat.le_of_ble_eq_true rfl⟩ (va_recv hE.1 hP (ci := 5) (q0 := 0) rfl rfl) hP hD rfl hl.1 rfl (Nat.le_of_ble_eq_true rfl) d_M_tickWiper_1 ⟨Nat.zero_le _, Nat.zero_le _⟩) hD hS hA (fun H locs hP hD hS => ?_)
  refine lv_istore_n (lv' := [(1, .int (m_M_speed u)), (0, .ref (am 0))]) hx hb d_M_tickWiper_4 rfl hl (by decide) rfl (fun ls hl => ?_)
  have e : m_M_tickWiper u = (g_M_tickWiper_5 (m_M_speed u) u) := rfl
  exact tl_M_tickWiper_5 G am u (m_M_speed u) C hAe hA hP hD hS (lv_sub hl [0, 1] rfl) (by rw [e])
set_option maxRecDepth 100000 in
theorem Y_M_tickWindow : hk_Y y_M_tickWindow b_M_tickWindow 4 none 1 := ⟨hk_in (by decide +kernel) rfl, hk_in (by decide +kernel) rfl, hk_in (by decide +kernel) rfl, hk_in (List.mem_of_getElem? (i := 657) rfl) rfl, by decide, by decide, by decide +kernel⟩
abbrev rm_M_tickWindow : Room := { frames := 0, cells := 0, slots := 0, locals := 0 }
set_option maxHeartbeats 4000000 in
set_option maxRecDepth 100000 in
theorem c_M_tickWindow (l : Launch) (G : hk_G) (am : Nat → Nat) (u : cM) (p1 : Int32) (hs : p1 = 0 ∨ p1 = 1 ∨ p1 = 2 ∨ p1 = 3) : hk_V l G y_M_tickWindow b_M_tickWindow 4 rm_M_tickWindow [.ref (am 0), .int p1] (wM G am u) (wM G am (m_M_tickWindow p1 u)) := by
  refine hk_V_of (by decide) (Nat.le_of_ble_eq_true rfl) ?_
  intro p e s m below meth c A ls C hAe hA hP hD hS hl
  have hx := C.1
  have hb := C.2.1
  have hown := C.2.2.2.2.1
  have hts := C.2.2.2.2.2.1
  have hE := C.2.2.2.2.2.2.2
  have hl : lv_has ls 4 [(0, .ref (am 0)), (1, .int p1)] := hl
  refine lv_aload_n hx hb d_M_tickWindow_0 rfl (lv_at hl 0 rfl) ?_
  refine hk_get (v := .ref (am 8)) C hP 0 5 17 i_M rfl rfl (by decide) (hk_in (by decide +kernel) rfl) rfl d_M_tickWindow_1 ?_
  refine lv_iload_n hx hb d_M_tickWindow_4 rfl (lv_at hl 1 rfl) ?_
  refine hk_zld C hP 8 1 (v := (mg17 u) p1.toNatClampNeg) rfl rfl (hk_v4 hs) rfl d_M_tickWindow_5 ?_
  refine lv_if_eq (tgt := 13) hx hb d_M_tickWindow_6 (by decide) (fun c_1 => ?_) (fun c_1 => ?_)
  · skip
    refine lv_iconst (v := (1 : Int32)) hx hb d_M_tickWindow_13 (by decide) ?_
    refine lv_istore_n (lv' := [(2, .int (1 : Int32)), (0, .ref (am 0)), (1, .int p1)]) hx hb d_M_tickWindow_14 rfl hl (by decide) rfl (fun ls hl => ?_)
    refine lv_aload_n hx hb d_M_tickWindow_15 rfl (lv_at hl 1 rfl) ?_
    refine hk_get (v := .ref (am 7)) C hP 0 5 16 i_M rfl rfl (by decide) (hk_in (by decide +kernel) rfl) rfl d_M_tickWindow_16 ?_
    refine lv_iload_n hx hb d_M_tickWindow_19 rfl (lv_at hl 2 rfl) ?_
    refine hk_ild C hP 7 0 (v := (mg16 u) p1.toNatClampNeg) rfl rfl (hk_v4 hs) rfl d_M_tickWindow_20 ?_
    refine lv_aload_n hx hb d_M_tickWindow_21 rfl (lv_at hl 1 rfl) ?_
    refine hk_get (v := .ref (am 6)) C hP 0 5 15 i_M rfl rfl (by decide) (hk_in (by decide +kernel) rfl) rfl d_M_tickWindow_22 ?_
    refine lv_iload_n hx hb d_M_tickWindow_25 rfl (lv_at hl 2 rfl) ?_
    refine hk_ild C hP 6 0 (v := (mg15 u) p1.toNatClampNeg) rfl rfl (hk_v4 hs) rfl d_M_tickWindow_26 ?_
    refine lv_isub hx hb d_M_tickWindow_27 ?_
    refine lv_istore_n (lv' := [(3, .int (((mg16 u) p1.toNatClampNeg) - ((mg15 u) p1.toNatClampNeg))), (2, .int (1 : Int32)), (0, .ref (am 0)), (1, .int p1)]) hx hb d_M_tickWindow_28 rfl hl (by decide) rfl (fun ls hl => ?_)
    refine lv_aload_n hx hb d_M_tickWindow_29 rfl (lv_at hl 2 rfl) ?_
    refine hk_get (v := .ref (am 6)) C hP 0 5 15 i_M rfl rfl (by decide) (hk_in (by decide +kernel) rfl) rfl d_M_tickWindow_30 ?_
    refine lv_iload_n hx hb d_M_tickWindow_33 rfl (lv_at hl 3 rfl) ?_
    refine lv_dup2_11 hx hb d_M_tickWindow_34 rfl rfl ?_
    refine hk_ild C hP 6 0 (v := (mg15 u) p1.toNatClampNeg) rfl rfl (hk_v4 hs) rfl d_M_tickWindow_35 ?_
    refine lv_iload_n hx hb d_M_tickWindow_36 rfl (lv_at hl 0 rfl) ?_
    refine lv_iload_n hx hb d_M_tickWindow_37 rfl (lv_at hl 1 rfl) ?_
    refine lv_icmp_le (tgt := 45) hx hb d_M_tickWindow_38 (by decide) (fun c_2 => ?_) (fun c_2 => ?_)
    · skip
      refine lv_iload_n hx hb d_M_tickWindow_45 rfl (lv_at hl 0 rfl) ?_
      refine lv_iload_n hx hb d_M_tickWindow_46 rfl (lv_at hl 1 rfl) ?_
      refine lv_ineg hx hb d_M_tickWindow_47 ?_
      refine lv_icmp_ge (tgt := 56) hx hb d_M_tickWindow_48 (by decide) (fun c_3 => ?_) (fun c_3 => ?_)
      · skip
        refine lv_iload_n hx hb d_M_tickWindow_56 rfl (lv_at hl 0 rfl) ?_
        refine lv_iadd hx hb d_M_tickWindow_57 ?_
        refine hk_ist (w2 := wM G am (f_M_tickWindow_58 p1 u)) C hP hD hS 6 0 rfl rfl (hk_v4 hs) rfl d_M_tickWindow_58 (fun H locs hP hD hS => ?_)
        obtain ⟨U1, hU1⟩ : ∃ z, (f_M_tickWindow_58 p1 u) = z := ⟨_, rfl⟩
        rw [hU1] at hP hD
        subst hU1
        have e : m_M_tickWindow p1 u = (f_M_tickWindow_58 p1 u) := (if_pos c_1).trans ((if_pos c_2).trans ((if_pos c_3).trans (rfl)))
        exact hk_rv C hAe hP hD hS (by rw [e]) d_M_tickWindow_59
      · skip
        refine lv_iload_n hx hb d_M_tickWindow_51 rfl (lv_at hl 1 rfl) ?_
        refine lv_ineg hx hb d_M_tickWindow_52 ?_
        refine lv_goto (tgt := 57) hx hb d_M_tickWindow_53 (by decide) ?_
        refine lv_iadd hx hb d_M_tickWindow_57 ?_
        refine hk_ist (w2 := wM G am (f_M_tickWindow_58_1 p1 u)) C hP hD hS 6 0 rfl rfl (hk_v4 hs) rfl d_M_tickWindow_58 (fun H locs hP hD hS => ?_)
        obtain ⟨U2, hU2⟩ : ∃ z, (f_M_tickWindow_58_1 p1 u) = z := ⟨_, rfl⟩
        rw [hU2] at hP hD
        subst hU2
        have e : m_M_tickWindow p1 u = (f_M_tickWindow_58_1 p1 u) := (if_pos c_1).trans ((if_pos c_2).trans ((if_neg c_3).trans (rfl)))
        exact hk_rv C hAe hP hD hS (by rw [e]) d_M_tickWindow_59
    · skip
      refine lv_iload_n hx hb d_M_tickWindow_41 rfl (lv_at hl 1 rfl) ?_
      refine lv_goto (tgt := 57) hx hb d_M_tickWindow_42 (by decide) ?_
      refine lv_iadd hx hb d_M_tickWindow_57 ?_
      refine hk_ist (w2 := wM G am (f_M_tickWindow_58_2 p1 u)) C hP hD hS 6 0 rfl rfl (hk_v4 hs) rfl d_M_tickWindow_58 (fun H locs hP hD hS => ?_)
      obtain ⟨U3, hU3⟩ : ∃ z, (f_M_tickWindow_58_2 p1 u) = z := ⟨_, rfl⟩
      rw [hU3] at hP hD
      subst hU3
      have e : m_M_tickWindow p1 u = (f_M_tickWindow_58_2 p1 u) := (if_pos c_1).trans ((if_neg c_2).trans (rfl))
      exact hk_rv C hAe hP hD hS (by rw [e]) d_M_tickWindow_59
  · skip
    refine lv_iconst (v := (2 : Int32)) hx hb d_M_tickWindow_9 (by decide) ?_
    refine lv_goto (tgt := 14) hx hb d_M_tickWindow_10 (by decide) ?_
    refine lv_istore_n (lv' := [(2, .int (2 : Int32)), (0, .ref (am 0)), (1, .int p1)]) hx hb d_M_tickWindow_14 rfl hl (by decide) rfl (fun ls hl => ?_)
    refine lv_aload_n hx hb d_M_tickWindow_15 rfl (lv_at hl 1 rfl) ?_
    refine hk_get (v := .ref (am 7)) C hP 0 5 16 i_M rfl rfl (by decide) (hk_in (by decide +kernel) rfl) rfl d_M_tickWindow_16 ?_
    refine lv_iload_n hx hb d_M_tickWindow_19 rfl (lv_at hl 2 rfl) ?_
    refine hk_ild C hP 7 0 (v := (mg16 u) p1.toNatClampNeg) rfl rfl (hk_v4 hs) rfl d_M_tickWindow_20 ?_
    refine lv_aload_n hx hb d_M_tickWindow_21 rfl (lv_at hl 1 rfl) ?_
    refine hk_get (v := .ref (am 6)) C hP 0 5 15 i_M rfl rfl (by decide) (hk_in (by decide +kernel) rfl) rfl d_M_tickWindow_22 ?_
    refine lv_iload_n hx hb d_M_tickWindow_25 rfl (lv_at hl 2 rfl) ?_
    refine hk_ild C hP 6 0 (v := (mg15 u) p1.toNatClampNeg) rfl rfl (hk_v4 hs) rfl d_M_tickWindow_26 ?_
    refine lv_isub hx hb d_M_tickWindow_27 ?_
    refine lv_istore_n (lv' := [(3, .int (((mg16 u) p1.toNatClampNeg) - ((mg15 u) p1.toNatClampNeg))), (2, .int (2 : Int32)), (0, .ref (am 0)), (1, .int p1)]) hx hb d_M_tickWindow_28 rfl hl (by decide) rfl (fun ls hl => ?_)
    refine lv_aload_n hx hb d_M_tickWindow_29 rfl (lv_at hl 2 rfl) ?_
    refine hk_get (v := .ref (am 6)) C hP 0 5 15 i_M rfl rfl (by decide) (hk_in (by decide +kernel) rfl) rfl d_M_tickWindow_30 ?_
    refine lv_iload_n hx hb d_M_tickWindow_33 rfl (lv_at hl 3 rfl) ?_
    refine lv_dup2_11 hx hb d_M_tickWindow_34 rfl rfl ?_
    refine hk_ild C hP 6 0 (v := (mg15 u) p1.toNatClampNeg) rfl rfl (hk_v4 hs) rfl d_M_tickWindow_35 ?_
    refine lv_iload_n hx hb d_M_tickWindow_36 rfl (lv_at hl 0 rfl) ?_
    refine lv_iload_n hx hb d_M_tickWindow_37 rfl (lv_at hl 1 rfl) ?_
    refine lv_icmp_le (tgt := 45) hx hb d_M_tickWindow_38 (by decide) (fun c_4 => ?_) (fun c_4 => ?_)
    · skip
      refine lv_iload_n hx hb d_M_tickWindow_45 rfl (lv_at hl 0 rfl) ?_
      refine lv_iload_n hx hb d_M_tickWindow_46 rfl (lv_at hl 1 rfl) ?_
      refine lv_ineg hx hb d_M_tickWindow_47 ?_
      refine lv_icmp_ge (tgt := 56) hx hb d_M_tickWindow_48 (by decide) (fun c_5 => ?_) (fun c_5 => ?_)
      · skip
        refine lv_iload_n hx hb d_M_tickWindow_56 rfl (lv_at hl 0 rfl) ?_
        refine lv_iadd hx hb d_M_tickWindow_57 ?_
        refine hk_ist (w2 := wM G am (f_M_tickWindow_58 p1 u)) C hP hD hS 6 0 rfl rfl (hk_v4 hs) rfl d_M_tickWindow_58 (fun H locs hP hD hS => ?_)
        obtain ⟨U4, hU4⟩ : ∃ z, (f_M_tickWindow_58 p1 u) = z := ⟨_, rfl⟩
        rw [hU4] at hP hD
        subst hU4
        have e : m_M_tickWindow p1 u = (f_M_tickWindow_58 p1 u) := (if_neg c_1).trans ((if_pos c_4).trans ((if_pos c_5).trans (rfl)))
        exact hk_rv C hAe hP hD hS (by rw [e]) d_M_tickWindow_59
      · skip
        refine lv_iload_n hx hb d_M_tickWindow_51 rfl (lv_at hl 1 rfl) ?_
        refine lv_ineg hx hb d_M_tickWindow_52 ?_
        refine lv_goto (tgt := 57) hx hb d_M_tickWindow_53 (by decide) ?_
        refine lv_iadd hx hb d_M_tickWindow_57 ?_
        refine hk_ist (w2 := wM G am (f_M_tickWindow_58_3 p1 u)) C hP hD hS 6 0 rfl rfl (hk_v4 hs) rfl d_M_tickWindow_58 (fun H locs hP hD hS => ?_)
        obtain ⟨U5, hU5⟩ : ∃ z, (f_M_tickWindow_58_3 p1 u) = z := ⟨_, rfl⟩
        rw [hU5] at hP hD
        subst hU5
        have e : m_M_tickWindow p1 u = (f_M_tickWindow_58_3 p1 u) := (if_neg c_1).trans ((if_pos c_4).trans ((if_neg c_5).trans (rfl)))
        exact hk_rv C hAe hP hD hS (by rw [e]) d_M_tickWindow_59
    · skip
      refine lv_iload_n hx hb d_M_tickWindow_41 rfl (lv_at hl 1 rfl) ?_
      refine lv_goto (tgt := 57) hx hb d_M_tickWindow_42 (by decide) ?_
      refine lv_iadd hx hb d_M_tickWindow_57 ?_
      refine hk_ist (w2 := wM G am (f_M_tickWindow_58_4 p1 u)) C hP hD hS 6 0 rfl rfl (hk_v4 hs) rfl d_M_tickWindow_58 (fun H locs hP hD hS => ?_)
      obtain ⟨U6, hU6⟩ : ∃ z, (f_M_tickWindow_58_4 p1 u) = z := ⟨_, rfl⟩
      rw [hU6] at hP hD
      subst hU6
      have e : m_M_tickWindow p1 u = (f_M_tickWindow_58_4 p1 u) := (if_neg c_1).trans ((if_neg c_4).trans (rfl))
      exact hk_rv C hAe hP hD hS (by rw [e]) d_M_tickWindow_59
set_option maxRecDepth 100000 in
theorem Y_M_tick : hk_Y y_M_tick b_M_tick 3 none 0 := ⟨hk_in (by decide +kernel) rfl, hk_in (by decide +kernel) rfl, hk_in (by decide +kernel) rfl, hk_in (List.mem_of_getElem? (i := 641) rfl) rfl, by decide, by decide, by decide +kernel⟩
abbrev rm_M_tick : Room := { frames := 2, cells := 0, slots := 0, locals := 43 }
set_option maxHeartbeats 4000000 in
set_option maxRecDepth 100000 in
theorem tl_M_tick_92_4 {p : Program} {l : Launch} {e : Env} {s : State} {m : MethodId} {below : List Frame} {meth : Method} {c : Code} {A : Nat → Prop} {H : Heap} {locs : List Loc} {ls : Array Slot} {w0 w1 : va_W} (G : hk_G) (am : Nat → Nat) (u : cM) (C : hk_C p s m meth c R_M b_M_tick 3 none ([.ref (am 0)] : List Value).toArray G) (hAe : va_A w0 s.heap.size = A) (hA : ∀ q : Nat, s.heap.size ≤ q → A q) (hP : va_P (hk_D G) classes (wM G am u) H) (hD : va_D A (wM G am u)) (hS : va_S A s.heap H locs) (hl : lv_has ls 3 [(2, .int (4 : Int32)), (0, .ref (am 0))]) (hw : w1 = wM G am (g_M_tick_92_4 u)) : W p l e rm_M_tick s m ([.ref (am 0)] : List Value).toArray below meth c H locs 0 0 (MQ below (va_Qv (fun (_ : Unit) => True) (hk_B G w0 w1 s.heap.size) A) ([.ref (am 0)] : List Value).toArray s 0 0 A) (F0 m 92 ls []) := by
  subst hw
  have hx := C.1
  have hb := C.2.1
  have hown := C.2.2.2.2.1
  have hts := C.2.2.2.2.2.1
  have hE := C.2.2.2.2.2.2.2
  refine lv_iload_n hx hb d_M_tick_92 rfl (lv_at hl 0 rfl) ?_
  refine lv_iconst (v := (4 : Int32)) hx hb d_M_tick_93 (by decide) ?_
  refine lv_icmp_ge (tgt := 108) hx hb d_M_tick_94 (by decide) (fun c_1 => ?_) (fun c_1 => absurd (by decide) c_1)
  have e : g_M_tick_92_4 u = u := rfl
  exact hk_rv C hAe hP hD hS (by rw [e]) d_M_tick_108
set_option maxHeartbeats 4000000 in
set_option maxRecDepth 100000 in
theorem tl_M_tick_92_3 {p : Program} {l : Launch} {e : Env} {s : State} {m : MethodId} {below : List Frame} {meth : Method} {c : Code} {A : Nat → Prop} {H : Heap} {locs : List Loc} {ls : Array Slot} {w0 w1 : va_W} (G : hk_G) (am : Nat → Nat) (u : cM) (C : hk_C p s m meth c R_M b_M_tick 3 none ([.ref (am 0)] : List Value).toArray G) (hAe : va_A w0 s.heap.size = A) (hA : ∀ q : Nat, s.heap.size ≤ q → A q) (hP : va_P (hk_D G) classes (wM G am u) H) (hD : va_D A (wM G am u)) (hS : va_S A s.heap H locs) (hl : lv_has ls 3 [(2, .int (3 : Int32)), (0, .ref (am 0))]) (hw : w1 = wM G am (g_M_tick_92_3 u)) : W p l e rm_M_tick s m ([.ref (am 0)] : List Value).toArray below meth c H locs 0 0 (MQ below (va_Qv (fun (_ : Unit) => True) (hk_B G w0 w1 s.heap.size) A) ([.ref (am 0)] : List Value).toArray s 0 0 A) (F0 m 92 ls []) := by
  subst hw
  have hx := C.1
  have hb := C.2.1
  have hown := C.2.2.2.2.1
  have hts := C.2.2.2.2.2.1
  have hE := C.2.2.2.2.2.2.2
  refine lv_iload_n hx hb d_M_tick_92 rfl (lv_at hl 0 rfl) ?_
  refine lv_iconst (v := (4 : Int32)) hx hb d_M_tick_93 (by decide) ?_
  refine lv_icmp_ge (tgt := 108) hx hb d_M_tick_94 (by decide) (fun c_1 => absurd c_1 (by decide)) (fun c_1 => ?_)
  refine lv_aload_n hx hb d_M_tick_97 rfl (lv_at hl 1 rfl) ?_
  refine lv_iload_n hx hb d_M_tick_98 rfl (lv_at hl 0 rfl) ?_
  refine hk_goV (hk_kV (k := 1) (As := [.int (3 : Int32)]) (rest := []) C (c_M_tickWindow l G am u (3 : Int32) (Or.inr (Or.inr (Or.inr rfl))) _) Y_M_tickWindow (hk_in (by decide +kernel) rfl) rfl rfl ⟨Nat.le_of_ble_eq_true rfl, Nat.le_of_ble_eq_true rfl⟩ (va_recv hE.1 hP (ci := 5) (q0 := 0) rfl rfl) hP hD rfl hl.1 rfl (Nat.le_of_ble_eq_true rfl) d_M_tick_99 ⟨Nat.zero_le _, Nat.zero_le _⟩) hD hS hA (fun H locs hP hD hS => ?_)
  obtain ⟨U1, hU1⟩ : ∃ z, (m_M_tickWindow (3 : Int32) u) = z := ⟨_, rfl⟩
  rw [hU1] at hP hD
  refine lv_iinc (v := (4 : Int32)) (lv' := [(2, .int (4 : Int32)), (0, .ref (am 0))]) hx hb d_M_tick_102 hl (k := 0) rfl (by decide) (by decide) rfl (fun ls hl => ?_)
  refine lv_goto (tgt := 92) hx hb d_M_tick_105 (by decide) ?_
  subst hU1
  have e : g_M_tick_92_3 u = (g_M_tick_92_4 (m_M_tickWindow (3 : Int32) u)) := rfl
  exact tl_M_tick_92_4 G am (m_M_tickWindow (3 : Int32) u) C hAe hA hP hD hS (lv_sub hl [0, 1] rfl) (by rw [e])
set_option maxHeartbeats 4000000 in
set_option maxRecDepth 100000 in
theorem tl_M_tick_92_2 {p : Program} {l : Launch} {e : Env} {s : State} {m : MethodId} {below : List Frame} {meth : Method} {c : Code} {A : Nat → Prop} {H : Heap} {locs : List Loc} {ls : Array Slot} {w0 w1 : va_W} (G : hk_G) (am : Nat → Nat) (u : cM) (C : hk_C p s m meth c R_M b_M_tick 3 none ([.ref (am 0)] : List Value).toArray G) (hAe : va_A w0 s.heap.size = A) (hA : ∀ q : Nat, s.heap.size ≤ q → A q) (hP : va_P (hk_D G) classes (wM G am u) H) (hD : va_D A (wM G am u)) (hS : va_S A s.heap H locs) (hl : lv_has ls 3 [(2, .int (2 : Int32)), (0, .ref (am 0))]) (hw : w1 = wM G am (g_M_tick_92_2 u)) : W p l e rm_M_tick s m ([.ref (am 0)] : List Value).toArray below meth c H locs 0 0 (MQ below (va_Qv (fun (_ : Unit) => True) (hk_B G w0 w1 s.heap.size) A) ([.ref (am 0)] : List Value).toArray s 0 0 A) (F0 m 92 ls []) := by
  subst hw
  have hx := C.1
  have hb := C.2.1
  have hown := C.2.2.2.2.1
  have hts := C.2.2.2.2.2.1
  have hE := C.2.2.2.2.2.2.2
  refine lv_iload_n hx hb d_M_tick_92 rfl (lv_at hl 0 rfl) ?_
  refine lv_iconst (v := (4 : Int32)) hx hb d_M_tick_93 (by decide) ?_
  refine lv_icmp_ge (tgt := 108) hx hb d_M_tick_94 (by decide) (fun c_1 => absurd c_1 (by decide)) (fun c_1 => ?_)
  refine lv_aload_n hx hb d_M_tick_97 rfl (lv_at hl 1 rfl) ?_
  refine lv_iload_n hx hb d_M_tick_98 rfl (lv_at hl 0 rfl) ?_
  refine hk_goV (hk_kV (k := 1) (As := [.int (2 : Int32)]) (rest := []) C (c_M_tickWindow l G am u (2 : Int32) (Or.inr (Or.inr (Or.inl rfl))) _) Y_M_tickWindow (hk_in (by decide +kernel) rfl) rfl rfl ⟨Nat.le_of_ble_eq_true rfl, Nat.le_of_ble_eq_true rfl⟩ (va_recv hE.1 hP (ci := 5) (q0 := 0) rfl rfl) hP hD rfl hl.1 rfl (Nat.le_of_ble_eq_true rfl) d_M_tick_99 ⟨Nat.zero_le _, Nat.zero_le _⟩) hD hS hA (fun H locs hP hD hS => ?_)
  obtain ⟨U1, hU1⟩ : ∃ z, (m_M_tickWindow (2 : Int32) u) = z := ⟨_, rfl⟩
  rw [hU1] at hP hD
  refine lv_iinc (v := (3 : Int32)) (lv' := [(2, .int (3 : Int32)), (0, .ref (am 0))]) hx hb d_M_tick_102 hl (k := 0) rfl (by decide) (by decide) rfl (fun ls hl => ?_)
  refine lv_goto (tgt := 92) hx hb d_M_tick_105 (by decide) ?_
  subst hU1
  have e : g_M_tick_92_2 u = (g_M_tick_92_3 (m_M_tickWindow (2 : Int32) u)) := rfl
  exact tl_M_tick_92_3 G am (m_M_tickWindow (2 : Int32) u) C hAe hA hP hD hS (lv_sub hl [0, 1] rfl) (by rw [e])
set_option maxHeartbeats 4000000 in
set_option maxRecDepth 100000 in
theorem tl_M_tick_92_1 {p : Program} {l : Launch} {e : Env} {s : State} {m : MethodId} {below : List Frame} {meth : Method} {c : Code} {A : Nat → Prop} {H : Heap} {locs : List Loc} {ls : Array Slot} {w0 w1 : va_W} (G : hk_G) (am : Nat → Nat) (u : cM) (C : hk_C p s m meth c R_M b_M_tick 3 none ([.ref (am 0)] : List Value).toArray G) (hAe : va_A w0 s.heap.size = A) (hA : ∀ q : Nat, s.heap.size ≤ q → A q) (hP : va_P (hk_D G) classes (wM G am u) H) (hD : va_D A (wM G am u)) (hS : va_S A s.heap H locs) (hl : lv_has ls 3 [(2, .int (1 : Int32)), (0, .ref (am 0))]) (hw : w1 = wM G am (g_M_tick_92_1 u)) : W p l e rm_M_tick s m ([.ref (am 0)] : List Value).toArray below meth c H locs 0 0 (MQ below (va_Qv (fun (_ : Unit) => True) (hk_B G w0 w1 s.heap.size) A) ([.ref (am 0)] : List Value).toArray s 0 0 A) (F0 m 92 ls []) := by
  subst hw
  have hx := C.1
  have hb := C.2.1
  have hown := C.2.2.2.2.1
  have hts := C.2.2.2.2.2.1
  have hE := C.2.2.2.2.2.2.2
  refine lv_iload_n hx hb d_M_tick_92 rfl (lv_at hl 0 rfl) ?_
  refine lv_iconst (v := (4 : Int32)) hx hb d_M_tick_93 (by decide) ?_
  refine lv_icmp_ge (tgt := 108) hx hb d_M_tick_94 (by decide) (fun c_1 => absurd c_1 (by decide)) (fun c_1 => ?_)
  refine lv_aload_n hx hb d_M_tick_97 rfl (lv_at hl 1 rfl) ?_
  refine lv_iload_n hx hb d_M_tick_98 rfl (lv_at hl 0 rfl) ?_
  refine hk_goV (hk_kV (k := 1) (As := [.int (1 : Int32)]) (rest := []) C (c_M_tickWindow l G am u (1 : Int32) (Or.inr (Or.inl rfl)) _) Y_M_tickWindow (hk_in (by decide +kernel) rfl) rfl rfl ⟨Nat.le_of_ble_eq_true rfl, Nat.le_of_ble_eq_true rfl⟩ (va_recv hE.1 hP (ci := 5) (q0 := 0) rfl rfl) hP hD rfl hl.1 rfl (Nat.le_of_ble_eq_true rfl) d_M_tick_99 ⟨Nat.zero_le _, Nat.zero_le _⟩) hD hS hA (fun H locs hP hD hS => ?_)
  obtain ⟨U1, hU1⟩ : ∃ z, (m_M_tickWindow (1 : Int32) u) = z := ⟨_, rfl⟩
  rw [hU1] at hP hD
  refine lv_iinc (v := (2 : Int32)) (lv' := [(2, .int (2 : Int32)), (0, .ref (am 0))]) hx hb d_M_tick_102 hl (k := 0) rfl (by decide) (by decide) rfl (fun ls hl => ?_)
  refine lv_goto (tgt := 92) hx hb d_M_tick_105 (by decide) ?_
  subst hU1
  have e : g_M_tick_92_1 u = (g_M_tick_92_2 (m_M_tickWindow (1 : Int32) u)) := rfl
  exact tl_M_tick_92_2 G am (m_M_tickWindow (1 : Int32) u) C hAe hA hP hD hS (lv_sub hl [0, 1] rfl) (by rw [e])
set_option maxHeartbeats 4000000 in
set_option maxRecDepth 100000 in
theorem tl_M_tick_92_0 {p : Program} {l : Launch} {e : Env} {s : State} {m : MethodId} {below : List Frame} {meth : Method} {c : Code} {A : Nat → Prop} {H : Heap} {locs : List Loc} {ls : Array Slot} {w0 w1 : va_W} (G : hk_G) (am : Nat → Nat) (u : cM) (C : hk_C p s m meth c R_M b_M_tick 3 none ([.ref (am 0)] : List Value).toArray G) (hAe : va_A w0 s.heap.size = A) (hA : ∀ q : Nat, s.heap.size ≤ q → A q) (hP : va_P (hk_D G) classes (wM G am u) H) (hD : va_D A (wM G am u)) (hS : va_S A s.heap H locs) (hl : lv_has ls 3 [(2, .int (0 : Int32)), (0, .ref (am 0))]) (hw : w1 = wM G am (g_M_tick_92_0 u)) : W p l e rm_M_tick s m ([.ref (am 0)] : List Value).toArray below meth c H locs 0 0 (MQ below (va_Qv (fun (_ : Unit) => True) (hk_B G w0 w1 s.heap.size) A) ([.ref (am 0)] : List Value).toArray s 0 0 A) (F0 m 92 ls []) := by
  subst hw
  have hx := C.1
  have hb := C.2.1
  have hown := C.2.2.2.2.1
  have hts := C.2.2.2.2.2.1
  have hE := C.2.2.2.2.2.2.2
  refine lv_iload_n hx hb d_M_tick_92 rfl (lv_at hl 0 rfl) ?_
  refine lv_iconst (v := (4 : Int32)) hx hb d_M_tick_93 (by decide) ?_
  refine lv_icmp_ge (tgt := 108) hx hb d_M_tick_94 (by decide) (fun c_1 => absurd c_1 (by decide)) (fun c_1 => ?_)
  refine lv_aload_n hx hb d_M_tick_97 rfl (lv_at hl 1 rfl) ?_
  refine lv_iload_n hx hb d_M_tick_98 rfl (lv_at hl 0 rfl) ?_
  refine hk_goV (hk_kV (k := 1) (As := [.int (0 : Int32)]) (rest := []) C (c_M_tickWindow l G am u (0 : Int32) (Or.inl rfl) _) Y_M_tickWindow (hk_in (by decide +kernel) rfl) rfl rfl ⟨Nat.le_of_ble_eq_true rfl, Nat.le_of_ble_eq_true rfl⟩ (va_recv hE.1 hP (ci := 5) (q0 := 0) rfl rfl) hP hD rfl hl.1 rfl (Nat.le_of_ble_eq_true rfl) d_M_tick_99 ⟨Nat.zero_le _, Nat.zero_le _⟩) hD hS hA (fun H locs hP hD hS => ?_)
  obtain ⟨U1, hU1⟩ : ∃ z, (m_M_tickWindow (0 : Int32) u) = z := ⟨_, rfl⟩
  rw [hU1] at hP hD
  refine lv_iinc (v := (1 : Int32)) (lv' := [(2, .int (1 : Int32)), (0, .ref (am 0))]) hx hb d_M_tick_102 hl (k := 0) rfl (by decide) (by decide) rfl (fun ls hl => ?_)
  refine lv_goto (tgt := 92) hx hb d_M_tick_105 (by decide) ?_
  subst hU1
  have e : g_M_tick_92_0 u = (g_M_tick_92_1 (m_M_tickWindow (0 : Int32) u)) := rfl
  exact tl_M_tick_92_1 G am (m_M_tickWindow (0 : Int32) u) C hAe hA hP hD hS (lv_sub hl [0, 1] rfl) (by rw [e])
set_option maxHeartbeats 4000000 in
set_option maxRecDepth 100000 in
theorem tl_M_tick_90 {p : Program} {l : Launch} {e : Env} {s : State} {m : MethodId} {below : List Frame} {meth : Method} {c : Code} {A : Nat → Prop} {H : Heap} {locs : List Loc} {ls : Array Slot} {w0 w1 : va_W} (G : hk_G) (am : Nat → Nat) (u : cM) (C : hk_C p s m meth c R_M b_M_tick 3 none ([.ref (am 0)] : List Value).toArray G) (hAe : va_A w0 s.heap.size = A) (hA : ∀ q : Nat, s.heap.size ≤ q → A q) (hP : va_P (hk_D G) classes (wM G am u) H) (hD : va_D A (wM G am u)) (hS : va_S A s.heap H locs) (hl : lv_has ls 3 [(0, .ref (am 0))]) (hw : w1 = wM G am (g_M_tick_90 u)) : W p l e rm_M_tick s m ([.ref (am 0)] : List Value).toArray below meth c H locs 0 0 (MQ below (va_Qv (fun (_ : Unit) => True) (hk_B G w0 w1 s.heap.size) A) ([.ref (am 0)] : List Value).toArray s 0 0 A) (F0 m 90 ls []) := by
  subst hw
  have hx := C.1
  have hb := C.2.1
  have hown := C.2.2.2.2.1
  have hts := C.2.2.2.2.2.1
  have hE := C.2.2.2.2.2.2.2
  refine lv_iconst (v := (0 : Int32)) hx hb d_M_tick_90 (by decide) ?_
  refine lv_istore_n (lv' := [(2, .int (0 : Int32)), (0, .ref (am 0))]) hx hb d_M_tick_91 rfl hl (by decide) rfl (fun ls hl => ?_)
  have e : g_M_tick_90 u = (g_M_tick_92_0 u) := rfl
  exact tl_M_tick_92_0 G am u C hAe hA hP hD hS (lv_sub hl [0, 1] rfl) (by rw [e])
set_option maxHeartbeats 4000000 in
set_option maxRecDepth 100000 in
theorem tl_M_tick_48_0 {p : Program} {l : Launch} {e : Env} {s : State} {m : MethodId} {below : List Frame} {meth : Method} {c : Code} {A : Nat → Prop} {H : Heap} {locs : List Loc} {ls : Array Slot} {w0 w1 : va_W} (G : hk_G) (am : Nat → Nat) (u : cM) (C : hk_C p s m meth c R_M b_M_tick 3 none ([.ref (am 0)] : List Value).toArray G) (hAe : va_A w0 s.heap.size = A) (hA : ∀ q : Nat, s.heap.size ≤ q → A q) (hP : va_P (hk_D G) classes (wM G am u) H) (hD : va_D A (wM G am u)) (hS : va_S A s.heap H locs) (hl : lv_has ls 3 [(1, .int (0 : Int32)), (0, .ref (am 0))]) (hw : w1 = wM G am (g_M_tick_48_0 u)) : W p l e rm_M_tick s m ([.ref (am 0)] : List Value).toArray below meth c H locs 0 0 (MQ below (va_Qv (fun (_ : Unit) => True) (hk_B G w0 w1 s.heap.size) A) ([.ref (am 0)] : List Value).toArray s 0 0 A) (F0 m 48 ls []) := by
  subst hw
  have hx := C.1
  have hb := C.2.1
  have hown := C.2.2.2.2.1
  have hts := C.2.2.2.2.2.1
  have hE := C.2.2.2.2.2.2.2
  refine lv_aload_n hx hb d_M_tick_48 rfl (lv_at hl 1 rfl) ?_
  refine lv_dup hx hb d_M_tick_49 rfl ?_
  refine hk_get (v := .int (mg14 u)) C hP 0 5 14 i_M rfl rfl (by decide) (hk_in (by decide +kernel) rfl) rfl d_M_tick_50 ?_
  refine lv_iload_n hx hb d_M_tick_53 rfl (lv_at hl 0 rfl) ?_
  refine lv_if_eq (tgt := 74) hx hb d_M_tick_54 (by decide) (fun c_1 => ?_) (fun c_1 => absurd (by decide) c_1)
  refine lv_aload_n hx hb d_M_tick_74 rfl (lv_at hl 1 rfl) ?_
  refine hk_get (v := .int (mg14 u)) C hP 0 5 14 i_M rfl rfl (by decide) (hk_in (by decide +kernel) rfl) rfl d_M_tick_75 ?_
  refine lv_if_le (tgt := 85) hx hb d_M_tick_78 (by decide) (fun c_2 => ?_) (fun c_2 => ?_)
  · skip
    refine lv_iconst (v := (0 : Int32)) hx hb d_M_tick_85 (by decide) ?_
    refine lv_iadd hx hb d_M_tick_86 ?_
    refine hk_put (w2 := wM G am (f_M_tick_87 u)) (v := .int ((mg14 u) + (0 : Int32))) (ty := .int) C hP hD hS 0 5 14 i_M t_M_ok n_M rfl rfl (by decide) (hk_in (by decide +kernel) rfl) rfl (by decide +kernel) rfl rfl (Nat.le_of_ble_eq_true rfl) rfl d_M_tick_87 (fun H locs hP hD hS => ?_)
    obtain ⟨U1, hU1⟩ : ∃ z, (f_M_tick_87 u) = z := ⟨_, rfl⟩
    rw [hU1] at hP hD
    subst hU1
    have e : g_M_tick_48_0 u = (g_M_tick_90 (f_M_tick_87 u)) := (if_pos c_2).trans (rfl)
    exact tl_M_tick_90 G am (f_M_tick_87 u) C hAe hA hP hD hS (lv_sub hl [1] rfl) (by rw [e])
  · skip
    refine lv_iconst (v := (-1 : Int32)) hx hb d_M_tick_81 (by decide) ?_
    refine lv_goto (tgt := 86) hx hb d_M_tick_82 (by decide) ?_
    refine lv_iadd hx hb d_M_tick_86 ?_
    obtain ⟨x2, hx2⟩ : ∃ z, (mg14 u) + (-1 : Int32) = z := ⟨_, rfl⟩
    rw [hx2]
    refine hk_put (w2 := wM G am (ms14 u x2)) (v := .int x2) (ty := .int) C hP hD hS 0 5 14 i_M t_M_ok n_M rfl rfl (by decide) (hk_in (by decide +kernel) rfl) rfl (by decide +kernel) rfl rfl (Nat.le_of_ble_eq_true rfl) rfl d_M_tick_87 (fun H locs hP hD hS => ?_)
    have hx22 : ms14 u x2 = (f_M_tick_87_2 u) := by rw [← hx2]; rfl
    rw [hx22] at hP hD
    obtain ⟨U3, hU3⟩ : ∃ z, (f_M_tick_87_2 u) = z := ⟨_, rfl⟩
    rw [hU3] at hP hD
    subst hU3
    have e : g_M_tick_48_0 u = (g_M_tick_90 (f_M_tick_87_2 u)) := (if_neg c_2).trans (rfl)
    exact tl_M_tick_90 G am (f_M_tick_87_2 u) C hAe hA hP hD hS (lv_sub hl [1] rfl) (by rw [e])
set_option maxHeartbeats 4000000 in
set_option maxRecDepth 100000 in
theorem tl_M_tick_48_1 {p : Program} {l : Launch} {e : Env} {s : State} {m : MethodId} {below : List Frame} {meth : Method} {c : Code} {A : Nat → Prop} {H : Heap} {locs : List Loc} {ls : Array Slot} {w0 w1 : va_W} (G : hk_G) (am : Nat → Nat) (u : cM) (C : hk_C p s m meth c R_M b_M_tick 3 none ([.ref (am 0)] : List Value).toArray G) (hAe : va_A w0 s.heap.size = A) (hA : ∀ q : Nat, s.heap.size ≤ q → A q) (hP : va_P (hk_D G) classes (wM G am u) H) (hD : va_D A (wM G am u)) (hS : va_S A s.heap H locs) (hl : lv_has ls 3 [(1, .int (1 : Int32)), (0, .ref (am 0))]) (hw : w1 = wM G am (g_M_tick_48_1 u)) : W p l e rm_M_tick s m ([.ref (am 0)] : List Value).toArray below meth c H locs 0 0 (MQ below (va_Qv (fun (_ : Unit) => True) (hk_B G w0 w1 s.heap.size) A) ([.ref (am 0)] : List Value).toArray s 0 0 A) (F0 m 48 ls []) := by
  subst hw
  have hx := C.1
  have hb := C.2.1
  have hown := C.2.2.2.2.1
  have hts := C.2.2.2.2.2.1
  have hE := C.2.2.2.2.2.2.2
  refine lv_aload_n hx hb d_M_tick_48 rfl (lv_at hl 1 rfl) ?_
  refine lv_dup hx hb d_M_tick_49 rfl ?_
  refine hk_get (v := .int (mg14 u)) C hP 0 5 14 i_M rfl rfl (by decide) (hk_in (by decide +kernel) rfl) rfl d_M_tick_50 ?_
  refine lv_iload_n hx hb d_M_tick_53 rfl (lv_at hl 0 rfl) ?_
  refine lv_if_eq (tgt := 74) hx hb d_M_tick_54 (by decide) (fun c_1 => absurd c_1 (by decide)) (fun c_1 => ?_)
  refine lv_aload_n hx hb d_M_tick_57 rfl (lv_at hl 1 rfl) ?_
  refine hk_get (v := .int (mg14 u)) C hP 0 5 14 i_M rfl rfl (by decide) (hk_in (by decide +kernel) rfl) rfl d_M_tick_58 ?_
  refine lv_bipush (v := (100 : Int32)) hx hb d_M_tick_61 (by decide) ?_
  refine lv_icmp_ge (tgt := 70) hx hb d_M_tick_63 (by decide) (fun c_2 => ?_) (fun c_2 => ?_)
  · skip
    refine lv_iconst (v := (0 : Int32)) hx hb d_M_tick_70 (by decide) ?_
    refine lv_goto (tgt := 86) hx hb d_M_tick_71 (by decide) ?_
    refine lv_iadd hx hb d_M_tick_86 ?_
    refine hk_put (w2 := wM G am (f_M_tick_87 u)) (v := .int ((mg14 u) + (0 : Int32))) (ty := .int) C hP hD hS 0 5 14 i_M t_M_ok n_M rfl rfl (by decide) (hk_in (by decide +kernel) rfl) rfl (by decide +kernel) rfl rfl (Nat.le_of_ble_eq_true rfl) rfl d_M_tick_87 (fun H locs hP hD hS => ?_)
    obtain ⟨U1, hU1⟩ : ∃ z, (f_M_tick_87 u) = z := ⟨_, rfl⟩
    rw [hU1] at hP hD
    subst hU1
    have e : g_M_tick_48_1 u = (g_M_tick_90 (f_M_tick_87 u)) := (if_pos c_2).trans (rfl)
    exact tl_M_tick_90 G am (f_M_tick_87 u) C hAe hA hP hD hS (lv_sub hl [1] rfl) (by rw [e])
  · skip
    refine lv_iconst (v := (1 : Int32)) hx hb d_M_tick_66 (by decide) ?_
    refine lv_goto (tgt := 86) hx hb d_M_tick_67 (by decide) ?_
    refine lv_iadd hx hb d_M_tick_86 ?_
    refine hk_put (w2 := wM G am (f_M_tick_87_1 u)) (v := .int ((mg14 u) + (1 : Int32))) (ty := .int) C hP hD hS 0 5 14 i_M t_M_ok n_M rfl rfl (by decide) (hk_in (by decide +kernel) rfl) rfl (by decide +kernel) rfl rfl (Nat.le_of_ble_eq_true rfl) rfl d_M_tick_87 (fun H locs hP hD hS => ?_)
    obtain ⟨U2, hU2⟩ : ∃ z, (f_M_tick_87_1 u) = z := ⟨_, rfl⟩
    rw [hU2] at hP hD
    subst hU2
    have e : g_M_tick_48_1 u = (g_M_tick_90 (f_M_tick_87_1 u)) := (if_neg c_2).trans (rfl)
    exact tl_M_tick_90 G am (f_M_tick_87_1 u) C hAe hA hP hD hS (lv_sub hl [1] rfl) (by rw [e])
set_option maxHeartbeats 4000000 in
set_option maxRecDepth 100000 in
theorem c_M_tick (l : Launch) (G : hk_G) (am : Nat → Nat) (u : cM) : hk_V l G y_M_tick b_M_tick 3 rm_M_tick [.ref (am 0)] (wM G am u) (wM G am (m_M_tick u)) := by
  refine hk_V_of (by decide) (Nat.le_of_ble_eq_true rfl) ?_
  intro p e s m below meth c A ls C hAe hA hP hD hS hl
  have hx := C.1
  have hb := C.2.1
  have hown := C.2.2.2.2.1
  have hts := C.2.2.2.2.2.1
  have hE := C.2.2.2.2.2.2.2
  have hl : lv_has ls 3 [(0, .ref (am 0))] := hl
  refine lv_aload_n hx hb d_M_tick_0 rfl (lv_at hl 0 rfl) ?_
  refine lv_dup hx hb d_M_tick_1 rfl ?_
  refine hk_get (v := .int (mg6 u)) C hP 0 5 6 i_M rfl rfl (by decide) (hk_in (by decide +kernel) rfl) rfl d_M_tick_2 ?_
  refine lv_iconst (v := (1 : Int32)) hx hb d_M_tick_5 (by decide) ?_
  refine lv_iadd hx hb d_M_tick_6 ?_
  refine hk_put (w2 := wM G am (f_M_tick_7 u)) (v := .int ((mg6 u) + (1 : Int32))) (ty := .int) C hP hD hS 0 5 6 i_M t_M_ok n_M rfl rfl (by decide) (hk_in (by decide +kernel) rfl) rfl (by decide +kernel) rfl rfl (Nat.le_of_ble_eq_true rfl) rfl d_M_tick_7 (fun H locs hP hD hS => ?_)
  obtain ⟨U1, hU1⟩ : ∃ z, (f_M_tick_7 u) = z := ⟨_, rfl⟩
  rw [hU1] at hP hD
  refine lv_aload_n hx hb d_M_tick_10 rfl (lv_at hl 0 rfl) ?_
  refine lv_iconst (v := (0 : Int32)) hx hb d_M_tick_11 (by decide) ?_
  refine hk_goV (hk_kV (k := 1) (As := [.int (0 : Int32)]) (rest := []) C (c_M_tickSide l G am U1 (0 : Int32) (Or.inl rfl) _) Y_M_tickSide (hk_in (by decide +kernel) rfl) rfl rfl ⟨Nat.le_of_ble_eq_true rfl, Nat.le_of_ble_eq_true rfl⟩ (va_recv hE.1 hP (ci := 5) (q0 := 0) rfl rfl) hP hD rfl hl.1 rfl (Nat.le_of_ble_eq_true rfl) d_M_tick_12 ⟨Nat.zero_le _, Nat.zero_le _⟩) hD hS hA (fun H locs hP hD hS => ?_)
  obtain ⟨U2, hU2⟩ : ∃ z, (m_M_tickSide (0 : Int32) U1) = z := ⟨_, rfl⟩
  rw [hU2] at hP hD
  refine lv_aload_n hx hb d_M_tick_15 rfl (lv_at hl 0 rfl) ?_
  refine lv_iconst (v := (1 : Int32)) hx hb d_M_tick_16 (by decide) ?_
  refine hk_goV (hk_kV (k := 1) (As := [.int (1 : Int32)]) (rest := []) C (c_M_tickSide l G am U2 (1 : Int32) (Or.inr rfl) _) Y_M_tickSide (hk_in (by decide +kernel) rfl) rfl rfl ⟨Nat.le_of_ble_eq_true rfl, Nat.le_of_ble_eq_true rfl⟩ (va_recv hE.1 hP (ci := 5) (q0 := 0) rfl rfl) hP hD rfl hl.1 rfl (Nat.le_of_ble_eq_true rfl) d_M_tick_17 ⟨Nat.zero_le _, Nat.zero_le _⟩) hD hS hA (fun H locs hP hD hS => ?_)
  obtain ⟨U3, hU3⟩ : ∃ z, (m_M_tickSide (1 : Int32) U2) = z := ⟨_, rfl⟩
  rw [hU3] at hP hD
  refine lv_aload_n hx hb d_M_tick_20 rfl (lv_at hl 0 rfl) ?_
  refine hk_goV (hk_kV (k := 0) (As := []) (rest := []) C (c_M_tickWiper l G am U3 _) Y_M_tickWiper (hk_in (by decide +kernel) rfl) rfl rfl ⟨Nat.le_of_ble_eq_true rfl, Nat.le_of_ble_eq_true rfl⟩ (va_recv hE.1 hP (ci := 5) (q0 := 0) rfl rfl) hP hD rfl hl.1 rfl (Nat.le_of_ble_eq_true rfl) d_M_tick_21 ⟨Nat.zero_le _, Nat.zero_le _⟩) hD hS hA (fun H locs hP hD hS => ?_)
  obtain ⟨U4, hU4⟩ : ∃ z, (m_M_tickWiper U3) = z := ⟨_, rfl⟩
  rw [hU4] at hP hD
  refine lv_aload_n hx hb d_M_tick_24 rfl (lv_at hl 0 rfl) ?_
  refine hk_get (v := .ref (am 1)) C hP 0 5 1 i_M rfl rfl (by decide) (hk_in (by decide +kernel) rfl) rfl d_M_tick_25 ?_
  refine lv_bipush (v := (8 : Int32)) hx hb d_M_tick_28 (by decide) ?_
  refine hk_ild C hP 1 0 (v := (mg1 U4) 8) rfl rfl (hk_inl (by decide)) rfl d_M_tick_30 ?_
  refine lv_iconst (v := (1 : Int32)) hx hb d_M_tick_31 (by decide) ?_
  refine lv_icmp_eq (tgt := 42) hx hb d_M_tick_32 (by decide) (fun c_1 => ?_) (fun c_1 => ?_)
  · skip
    refine lv_iconst (v := (1 : Int32)) hx hb d_M_tick_42 (by decide) ?_
    refine lv_goto (tgt := 47) hx hb d_M_tick_43 (by decide) ?_
    refine lv_istore_n (lv' := [(1, .int (1 : Int32)), (0, .ref (am 0))]) hx hb d_M_tick_47 rfl hl (by decide) rfl (fun ls hl => ?_)
    subst hU1 hU2 hU3 hU4
    have e : m_M_tick u = (g_M_tick_48_1 (m_M_tickWiper (m_M_tickSide (1 : Int32) (m_M_tickSide (0 : Int32) (f_M_tick_7 u))))) := (if_pos c_1).trans (rfl)
    exact tl_M_tick_48_1 G am (m_M_tickWiper (m_M_tickSide (1 : Int32) (m_M_tickSide (0 : Int32) (f_M_tick_7 u)))) C hAe hA hP hD hS (lv_sub hl [0, 1] rfl) (by rw [e])
  · skip
    refine lv_aload_n hx hb d_M_tick_35 rfl (lv_at hl 0 rfl) ?_
    refine hk_get (v := .int (mg3 U4)) C hP 0 5 3 i_M rfl rfl (by decide) (hk_in (by decide +kernel) rfl) rfl d_M_tick_36 ?_
    refine lv_if_eq (tgt := 46) hx hb d_M_tick_39 (by decide) (fun c_2 => ?_) (fun c_2 => ?_)
    · skip
      refine lv_iconst (v := (0 : Int32)) hx hb d_M_tick_46 (by decide) ?_
      refine lv_istore_n (lv' := [(1, .int (0 : Int32)), (0, .ref (am 0))]) hx hb d_M_tick_47 rfl hl (by decide) rfl (fun ls hl => ?_)
      subst hU1 hU2 hU3 hU4
      have e : m_M_tick u = (g_M_tick_48_0 (m_M_tickWiper (m_M_tickSide (1 : Int32) (m_M_tickSide (0 : Int32) (f_M_tick_7 u))))) := (if_neg c_1).trans ((if_pos c_2).trans (rfl))
      exact tl_M_tick_48_0 G am (m_M_tickWiper (m_M_tickSide (1 : Int32) (m_M_tickSide (0 : Int32) (f_M_tick_7 u)))) C hAe hA hP hD hS (lv_sub hl [0, 1] rfl) (by rw [e])
    · skip
      refine lv_iconst (v := (1 : Int32)) hx hb d_M_tick_42 (by decide) ?_
      refine lv_goto (tgt := 47) hx hb d_M_tick_43 (by decide) ?_
      refine lv_istore_n (lv' := [(1, .int (1 : Int32)), (0, .ref (am 0))]) hx hb d_M_tick_47 rfl hl (by decide) rfl (fun ls hl => ?_)
      subst hU1 hU2 hU3 hU4
      have e : m_M_tick u = (g_M_tick_48_1 (m_M_tickWiper (m_M_tickSide (1 : Int32) (m_M_tickSide (0 : Int32) (f_M_tick_7 u))))) := (if_neg c_1).trans ((if_neg c_2).trans (rfl))
      exact tl_M_tick_48_1 G am (m_M_tickWiper (m_M_tickSide (1 : Int32) (m_M_tickSide (0 : Int32) (f_M_tick_7 u)))) C hAe hA hP hD hS (lv_sub hl [0, 1] rfl) (by rw [e])
