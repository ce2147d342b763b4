set_option maxRecDepth 100000 in
theorem Y_M_thrown : hk_Y y_M_thrown b_M_thrown 1 (some .int) 0 := ⟨hk_in (by decide +kernel) rfl, hk_in (by decide +kernel) rfl, hk_in (by decide +kernel) rfl, hk_in (List.mem_of_getElem? (i := 591) rfl) rfl, by decide, by decide, by decide +kernel⟩
abbrev rm_M_thrown : Room := { frames := 0, cells := 0, slots := 0, locals := 0 }
set_option maxHeartbeats 4000000 in
set_option maxRecDepth 100000 in
theorem c_M_thrown (l : Launch) (G : hk_G) (am : Nat → Nat) (u : cM) : hk_I l G y_M_thrown b_M_thrown 1 (some .int) rm_M_thrown [.ref (am 0)] (wM G am u) (m_M_thrown u) (wM G am u) := by
  refine hk_I_of (by decide) (Nat.le_of_ble_eq_true rfl) ?_
  intro p e s m below meth c A ls C hAe hA hP hD hS hl
  have hx := C.1
  have hb := C.2.1
  have hown := C.2.2.2.2.1
  have hts := C.2.2.2.2.2.1
  have hE := C.2.2.2.2.2.2.2
  have hl : lv_has ls 1 [(0, .ref (am 0))] := hl
  refine lv_aload_n hx hb d_M_thrown_0 rfl (lv_at hl 0 rfl) ?_
  refine hk_get (v := .int (mg0 u)) C hP 0 5 0 i_M rfl rfl (by decide) (hk_in (by decide +kernel) rfl) rfl d_M_thrown_1 ?_
  have e : m_M_thrown u = mg0 u := rfl
  exact hk_ri C hAe hP hD hS e.symm rfl d_M_thrown_4
set_option maxRecDepth 100000 in
theorem Y_M_within : hk_YS y_M_within b_M_within 3 (some .boolean) 3 := ⟨hk_in (by decide +kernel) rfl, hk_in (by decide +kernel) rfl, hk_in (List.mem_of_getElem? (i := 598) rfl) rfl, by decide, by decide, by decide +kernel⟩
abbrev rm_M_within : Room := { frames := 0, cells := 0, slots := 0, locals := 0 }
set_option maxHeartbeats 4000000 in
set_option maxRecDepth 100000 in
theorem c_M_within (l : Launch) (G : hk_G) (p0 : Int32) (p1 : Int32) (p2 : Int32) : hk_I l G y_M_within b_M_within 3 (some .boolean) rm_M_within [.int p0, .int p1, .int p2] [] (m_M_within p0 p1 p2) [] := by
  refine hk_I_of (by decide) (Nat.le_of_ble_eq_true rfl) ?_
  intro p e s m below meth c A ls C hAe hA hP hD hS hl
  have hx := C.1
  have hb := C.2.1
  have hown := C.2.2.2.2.1
  have hts := C.2.2.2.2.2.1
  have hE := C.2.2.2.2.2.2.2
  have hl : lv_has ls 3 [(0, .int p0), (1, .int p1), (2, .int p2)] := hl
  refine lv_iload_n hx hb d_M_within_0 rfl (lv_at hl 0 rfl) ?_
  refine lv_iload_n hx hb d_M_within_1 rfl (lv_at hl 1 rfl) ?_
  refine lv_icmp_lt (tgt := 14) hx hb d_M_within_2 (by decide) (fun c_1 => ?_) (fun c_1 => ?_)
  · skip
    refine lv_iconst (v := (0 : Int32)) hx hb d_M_within_14 (by decide) ?_
    have e : m_M_within p0 p1 p2 = (0 : Int32) := (if_pos c_1).trans (rfl)
    exact hk_rz C hAe hP hD hS (Or.inl rfl) e.symm rfl d_M_within_15
  · skip
    refine lv_iload_n hx hb d_M_within_5 rfl (lv_at hl 0 rfl) ?_
    refine lv_iload_n hx hb d_M_within_6 rfl (lv_at hl 2 rfl) ?_
    refine lv_icmp_gt (tgt := 14) hx hb d_M_within_7 (by decide) (fun c_2 => ?_) (fun c_2 => ?_)
    · skip
      refine lv_iconst (v := (0 : Int32)) hx hb d_M_within_14 (by decide) ?_
      have e : m_M_within p0 p1 p2 = (0 : Int32) := (if_neg c_1).trans ((if_pos c_2).trans (rfl))
      exact hk_rz C hAe hP hD hS (Or.inl rfl) e.symm rfl d_M_within_15
    · skip
      refine lv_iconst (v := (1 : Int32)) hx hb d_M_within_10 (by decide) ?_
      refine lv_goto (tgt := 15) hx hb d_M_within_11 (by decide) ?_
      have e : m_M_within p0 p1 p2 = (1 : Int32) := (if_neg c_1).trans ((if_neg c_2).trans (rfl))
      exact hk_rz C hAe hP hD hS (Or.inr rfl) e.symm rfl d_M_within_15
set_option maxRecDepth 100000 in
theorem Y_M_most : hk_YS y_M_most b_M_most 1 (some .int) 1 := ⟨hk_in (by decide +kernel) rfl, hk_in (by decide +kernel) rfl, hk_in (List.mem_of_getElem? (i := 617) rfl) rfl, by decide, by decide, by decide +kernel⟩
abbrev rm_M_most : Room := { frames := 0, cells := 0, slots := 0, locals := 0 }
set_option maxHeartbeats 4000000 in
set_option maxRecDepth 100000 in
theorem c_M_most (l : Launch) (G : hk_G) (p0 : Int32) : hk_I l G y_M_most b_M_most 1 (some .int) rm_M_most [.int p0] [] (m_M_most p0) [] := by
  refine hk_I_of (by decide) (Nat.le_of_ble_eq_true rfl) ?_
  intro p e s m below meth c A ls C hAe hA hP hD hS hl
  have hx := C.1
  have hb := C.2.1
  have hown := C.2.2.2.2.1
  have hts := C.2.2.2.2.2.1
  have hE := C.2.2.2.2.2.2.2
  have hl : lv_has ls 1 [(0, .int p0)] := hl
  refine lv_iload_n hx hb d_M_most_0 rfl (lv_at hl 0 rfl) ?_
  refine lv_if_eq (tgt := 9) hx hb d_M_most_1 (by decide) (fun c_1 => ?_) (fun c_1 => ?_)
  · skip
    refine lv_iconst (v := (3 : Int32)) hx hb d_M_most_9 (by decide) ?_
    refine lv_goto (tgt := 34) hx hb d_M_most_10 (by decide) ?_
    have e : m_M_most p0 = (3 : Int32) := (if_pos c_1).trans (rfl)
    exact hk_ri C hAe hP hD hS e.symm rfl d_M_most_34
  · skip
    refine lv_iload_n hx hb d_M_most_4 rfl (lv_at hl 0 rfl) ?_
    refine lv_iconst (v := (4 : Int32)) hx hb d_M_most_5 (by decide) ?_
    refine lv_icmp_ne (tgt := 13) hx hb d_M_most_6 (by decide) (fun c_2 => ?_) (fun c_2 => ?_)
    · skip
      refine lv_iload_n hx hb d_M_most_13 rfl (lv_at hl 0 rfl) ?_
      refine lv_iconst (v := (1 : Int32)) hx hb d_M_most_14 (by decide) ?_
      refine lv_icmp_ne (tgt := 24) hx hb d_M_most_15 (by decide) (fun c_3 => ?_) (fun c_3 => ?_)
      · skip
        refine lv_iload_n hx hb d_M_most_24 rfl (lv_at hl 0 rfl) ?_
        refine lv_iconst (v := (2 : Int32)) hx hb d_M_most_25 (by decide) ?_
        refine lv_icmp_ne (tgt := 33) hx hb d_M_most_26 (by decide) (fun c_4 => ?_) (fun c_4 => ?_)
        · skip
          refine lv_iconst (v := (1 : Int32)) hx hb d_M_most_33 (by decide) ?_
          have e : m_M_most p0 = (1 : Int32) := (if_neg c_1).trans ((if_neg c_2).trans ((if_neg c_3).trans ((if_neg c_4).trans (rfl))))
          exact hk_ri C hAe hP hD hS e.symm rfl d_M_most_34
        · skip
          refine lv_iconst (v := (2 : Int32)) hx hb d_M_most_29 (by decide) ?_
          refine lv_goto (tgt := 34) hx hb d_M_most_30 (by decide) ?_
          have e : m_M_most p0 = (2 : Int32) := (if_neg c_1).trans ((if_neg c_2).trans ((if_neg c_3).trans ((if_pos c_4).trans (rfl))))
          exact hk_ri C hAe hP hD hS e.symm rfl d_M_most_34
      · skip
        refine lv_sipush (v := (1000 : Int32)) hx hb d_M_most_18 (by decide) ?_
        refine lv_goto (tgt := 34) hx hb d_M_most_21 (by decide) ?_
        have e : m_M_most p0 = (1000 : Int32) := (if_neg c_1).trans ((if_neg c_2).trans ((if_pos c_3).trans (rfl)))
        exact hk_ri C hAe hP hD hS e.symm rfl d_M_most_34
    · skip
      refine lv_iconst (v := (3 : Int32)) hx hb d_M_most_9 (by decide) ?_
      refine lv_goto (tgt := 34) hx hb d_M_most_10 (by decide) ?_
      have e : m_M_most p0 = (3 : Int32) := (if_neg c_1).trans ((if_pos c_2).trans (rfl))
      exact hk_ri C hAe hP hD hS e.symm rfl d_M_most_34
set_option maxRecDepth 100000 in
theorem Y_M_isWindow : hk_YS y_M_isWindow b_M_isWindow 1 (some .boolean) 1 := ⟨hk_in (by decide +kernel) rfl, hk_in (by decide +kernel) rfl, hk_in (List.mem_of_getElem? (i := 664) rfl) rfl, by decide, by decide, by decide +kernel⟩
abbrev rm_M_isWindow : Room := { frames := 1, cells := 0, slots := 0, locals := 22 }
set_option maxHeartbeats 4000000 in
set_option maxRecDepth 100000 in
theorem c_M_isWindow (l : Launch) (G : hk_G) (p0 : Int32) : hk_I l G y_M_isWindow b_M_isWindow 1 (some .boolean) rm_M_isWindow [.int p0] [] (m_M_isWindow p0) [] := by
  refine hk_I_of (by decide) (Nat.le_of_ble_eq_true rfl) ?_
  intro p e s m below meth c A ls C hAe hA hP hD hS hl
  have hx := C.1
  have hb := C.2.1
  have hown := C.2.2.2.2.1
  have hts := C.2.2.2.2.2.1
  have hE := C.2.2.2.2.2.2.2
  have hl : lv_has ls 1 [(0, .int p0)] := hl
  refine lv_iload_n hx hb d_M_isWindow_0 rfl (lv_at hl 0 rfl) ?_
  refine lv_iconst (v := (0 : Int32)) hx hb d_M_isWindow_1 (by decide) ?_
  refine lv_iconst (v := (3 : Int32)) hx hb d_M_isWindow_2 (by decide) ?_
  refine hk_goIe (hk_kS (k := 3) (As := [.int p0, .int (0 : Int32), .int (3 : Int32)]) (rest := []) C (c_M_within l G p0 (0 : Int32) (3 : Int32) _) Y_M_within (hk_in (by decide +kernel) rfl) rfl rfl ⟨Nat.le_of_ble_eq_true rfl, Nat.le_of_ble_eq_true rfl⟩ hk_Pn (hk_Dn (A := A)) rfl hl.1 rfl (Nat.le_of_ble_eq_true rfl) d_M_isWindow_3 ⟨Nat.zero_le _, Nat.zero_le _⟩) hP hS hA (fun H locs hP hS => ?_)
  have e : m_M_isWindow p0 = m_M_within p0 (0 : Int32) (3 : Int32) := rfl
  exact hk_rz C hAe hP hD hS (z_within _ _ _) e.symm rfl d_M_isWindow_6
set_option maxRecDepth 100000 in
theorem Y_M_period : hk_Y y_M_period b_M_period 2 (some .int) 1 := ⟨hk_in (by decide +kernel) rfl, hk_in (by decide +kernel) rfl, hk_in (by decide +kernel) rfl, hk_in (List.mem_of_getElem? (i := 610) rfl) rfl, by decide, by decide, by decide +kernel⟩
abbrev rm_M_period : Room := { frames := 0, cells := 0, slots := 0, locals := 0 }
set_option maxHeartbeats 4000000 in
set_option maxRecDepth 100000 in
theorem c_M_period (l : Launch) (G : hk_G) (am : Nat → Nat) (u : cM) (p1 : Int32) (hs : p1 = 0 ∨ p1 = 1) : hk_I l G y_M_period b_M_period 2 (some .int) rm_M_period [.ref (am 0), .int p1] (wM G am u) (m_M_period p1 u) (wM G am u) := by
  refine hk_I_of (by decide) (Nat.le_of_ble_eq_true rfl) ?_
  intro p e s m below meth c A ls C hAe hA hP hD hS hl
  have hx := C.1
  have hb := C.2.1
  have hown := C.2.2.2.2.1
  have hts := C.2.2.2.2.2.1
  have hE := C.2.2.2.2.2.2.2
  have hl : lv_has ls 2 [(0, .ref (am 0)), (1, .int p1)] := hl
  refine lv_aload_n hx hb d_M_period_0 rfl (lv_at hl 0 rfl) ?_
  refine hk_get (v := .ref (am 5)) C hP 0 5 10 i_M rfl rfl (by decide) (hk_in (by decide +kernel) rfl) rfl d_M_period_1 ?_
  refine lv_iconst (v := (4 : Int32)) hx hb d_M_period_4 (by decide) ?_
  refine lv_iload_n hx hb d_M_period_5 rfl (lv_at hl 1 rfl) ?_
  refine lv_iadd hx hb d_M_period_6 ?_
  refine hk_zld C hP 5 1 (v := (mg10 u) ((4 : Int32) + p1).toNatClampNeg) rfl rfl (hk_v6 hs) rfl d_M_period_7 ?_
  refine lv_if_eq (tgt := 16) hx hb d_M_period_8 (by decide) (fun c_1 => ?_) (fun c_1 => ?_)
  · skip
    refine lv_bipush (v := (80 : Int32)) hx hb d_M_period_16 (by decide) ?_
    have e : m_M_period p1 u = (80 : Int32) := (if_pos c_1).trans (rfl)
    exact hk_ri C hAe hP hD hS e.symm rfl d_M_period_18
  · skip
    refine lv_bipush (v := (40 : Int32)) hx hb d_M_period_11 (by decide) ?_
    refine lv_goto (tgt := 18) hx hb d_M_period_13 (by decide) ?_
    have e : m_M_period p1 u = (40 : Int32) := (if_neg c_1).trans (rfl)
    exact hk_ri C hAe hP hD hS e.symm rfl d_M_period_18
set_option maxRecDepth 100000 in
theorem Y_M_lit : hk_Y y_M_lit b_M_lit 2 (some .int) 1 := ⟨hk_in (by decide +kernel) rfl, hk_in (by decide +kernel) rfl, hk_in (by decide +kernel) rfl, hk_in (List.mem_of_getElem? (i := 606) rfl) rfl, by decide, by decide, by decide +kernel⟩
abbrev rm_M_lit : Room := { frames := 1, cells := 0, slots := 0, locals := 21 }
set_option maxHeartbeats 4000000 in
set_option maxRecDepth 100000 in
theorem c_M_lit (l : Launch) (G : hk_G) (am : Nat → Nat) (u : cM) (p1 : Int32) (hs : p1 = 0 ∨ p1 = 1) : hk_I l G y_M_lit b_M_lit 2 (some .int) rm_M_lit [.ref (am 0), .int p1] (wM G am u) (m_M_lit p1 u) (wM G am u) := by
  refine hk_I_of (by decide) (Nat.le_of_ble_eq_true rfl) ?_
  intro p e s m below meth c A ls C hAe hA hP hD hS hl
  have hx := C.1
  have hb := C.2.1
  have hown := C.2.2.2.2.1
  have hts := C.2.2.2.2.2.1
  have hE := C.2.2.2.2.2.2.2
  have hl : lv_has ls 2 [(0, .ref (am 0)), (1, .int p1)] := hl
  refine lv_aload_n hx hb d_M_lit_0 rfl (lv_at hl 0 rfl) ?_
  refine hk_get (v := .ref (am 2)) C hP 0 5 7 i_M rfl rfl (by decide) (hk_in (by decide +kernel) rfl) rfl d_M_lit_1 ?_
  refine lv_iload_n hx hb d_M_lit_4 rfl (lv_at hl 1 rfl) ?_
  refine hk_zld C hP 2 1 (v := (mg7 u) p1.toNatClampNeg) rfl rfl (hk_v2 hs) rfl d_M_lit_5 ?_
  refine lv_if_eq (tgt := 29) hx hb d_M_lit_6 (by decide) (fun c_1 => ?_) (fun c_1 => ?_)
  · skip
    refine lv_iconst (v := (0 : Int32)) hx hb d_M_lit_29 (by decide) ?_
    have e : m_M_lit p1 u = (0 : Int32) := (if_pos c_1).trans (rfl)
    exact hk_ri C hAe hP hD hS e.symm rfl d_M_lit_30
  · skip
    refine lv_iconst (v := (2 : Int32)) hx hb d_M_lit_9 (by decide) ?_
    refine lv_aload_n hx hb d_M_lit_10 rfl (lv_at hl 0 rfl) ?_
    refine hk_get (v := .ref (am 3)) C hP 0 5 8 i_M rfl rfl (by decide) (hk_in (by decide +kernel) rfl) rfl d_M_lit_11 ?_
    refine lv_iload_n hx hb d_M_lit_14 rfl (lv_at hl 1 rfl) ?_
    refine hk_ild C hP 3 0 (v := (mg8 u) p1.toNatClampNeg) rfl rfl (hk_v2 hs) rfl d_M_lit_15 ?_
    refine lv_imul hx hb d_M_lit_16 ?_
    refine lv_aload_n hx hb d_M_lit_17 rfl (lv_at hl 0 rfl) ?_
    refine lv_iload_n hx hb d_M_lit_18 rfl (lv_at hl 1 rfl) ?_
    refine hk_goI (hk_kV (k := 1) (As := [.int p1]) (rest := [.int ((2 : Int32) * ((mg8 u) p1.toNatClampNeg))]) C (c_M_period l G am u p1 hs _) Y_M_period (hk_in (by decide +kernel) rfl) rfl rfl ⟨Nat.le_of_ble_eq_true rfl, Nat.le_of_ble_eq_true rfl⟩ (va_recv hE.1 hP (ci := 5) (q0 := 0) rfl rfl) hP hD rfl hl.1 rfl (Nat.le_of_ble_eq_true rfl) d_M_lit_19 ⟨Nat.zero_le _, Nat.zero_le _⟩) hD hS hA (fun H locs hP hD hS => ?_)
    refine lv_icmp_ge (tgt := 29) hx hb d_M_lit_22 (by decide) (fun c_2 => ?_) (fun c_2 => ?_)
    · skip
      refine lv_iconst (v := (0 : Int32)) hx hb d_M_lit_29 (by decide) ?_
      have e : m_M_lit p1 u = (0 : Int32) := (if_neg c_1).trans ((if_pos c_2).trans (rfl))
      exact hk_ri C hAe hP hD hS e.symm rfl d_M_lit_30
    · skip
      refine lv_iconst (v := (1 : Int32)) hx hb d_M_lit_25 (by decide) ?_
      refine lv_goto (tgt := 30) hx hb d_M_lit_26 (by decide) ?_
      have e : m_M_lit p1 u = (1 : Int32) := (if_neg c_1).trans ((if_neg c_2).trans (rfl))
      exact hk_ri C hAe hP hD hS e.symm rfl d_M_lit_30
set_option maxRecDepth 100000 in
theorem Y_M_value : hk_Y y_M_value b_M_value 4 (some .int) 1 := ⟨hk_in (by decide +kernel) rfl, hk_in (by decide +kernel) rfl, hk_in (by decide +kernel) rfl, hk_in (List.mem_of_getElem? (i := 602) rfl) rfl, by decide, by decide, by decide +kernel⟩
abbrev rm_M_value : Room := { frames := 2, cells := 0, slots := 0, locals := 42 }
set_option maxHeartbeats 4000000 in
set_option maxRecDepth 100000 in
theorem tl_M_value_53_0_0 {p : Program} {l : Launch} {e : Env} {s : State} {m : MethodId} {below : List Frame} {meth : Method} {c : Code} {A : Nat → Prop} {H : Heap} {locs : List Loc} {ls : Array Slot} {w0 w1 : va_W} {r : Int32} (G : hk_G) (am : Nat → Nat) (u : cM) (p1 : Int32) (hi : p1 = 0 ∨ p1 = 1 ∨ p1 = 2 ∨ p1 = 3 ∨ p1 = 4 ∨ p1 = 5 ∨ p1 = 6 ∨ p1 = 7 ∨ p1 = 8 ∨ p1 = 9) (C : hk_C p s m meth c R_M b_M_value 4 (some .int) ([.ref (am 0), .int p1] : List Value).toArray G) (hAe : va_A w0 s.heap.size = A) (hA : ∀ q : Nat, s.heap.size ≤ q → A q) (hP : va_P (hk_D G) classes (wM G am u) H) (hD : va_D A (wM G am u)) (hS : va_S A s.heap H locs) (hl : lv_has ls 4 [(3, .int (0 : Int32)), (2, .int (0 : Int32)), (0, .ref (am 0)), (1, .int p1)]) (hr : r = g_M_value_53_0_0 p1 u) (hw : w1 = wM G am u) : W p l e rm_M_value s m ([.ref (am 0), .int p1] : List Value).toArray below meth c H locs 0 0 (MQ below (va_Qi (fun (x : Int32) (_ : Unit) => x = r) (hk_B G w0 w1 s.heap.size) A) ([.ref (am 0), .int p1] : List Value).toArray s 0 0 A) (F0 m 53 ls []) := by
  subst hr
  subst hw
  have hx := C.1
  have hb := C.2.1
  have hown := C.2.2.2.2.1
  have hts := C.2.2.2.2.2.1
  have hE := C.2.2.2.2.2.2.2
  rcases hi with rfl | rfl | rfl | rfl | rfl | rfl | rfl | rfl | rfl | rfl
  · skip
    refine lv_iload_n hx hb d_M_value_53 rfl (lv_at hl 3 rfl) ?_
    refine lv_tableIn (tgt := 100) (off := 46) hx hb d_M_value_54 (by decide) (by decide) rfl (by decide) ?_
    refine lv_iload_n hx hb d_M_value_100 rfl (lv_at hl 1 rfl) ?_
    refine lv_if_ne (tgt := 121) hx hb d_M_value_101 (by decide) (fun c_1 => absurd (by decide) c_1) (fun c_1 => ?_)
    refine lv_aload_n hx hb d_M_value_104 rfl (lv_at hl 2 rfl) ?_
    refine hk_get (v := .ref (am 1)) C hP 0 5 1 i_M rfl rfl (by decide) (hk_in (by decide +kernel) rfl) rfl d_M_value_105 ?_
    refine lv_iconst (v := (0 : Int32)) hx hb d_M_value_108 (by decide) ?_
    refine hk_ild C hP 1 0 (v := (mg1 u) 0) rfl rfl (hk_inl (by decide)) rfl d_M_value_109 ?_
    refine lv_iconst (v := (1 : Int32)) hx hb d_M_value_110 (by decide) ?_
    refine lv_icmp_eq (tgt := 121) hx hb d_M_value_111 (by decide) (fun c_2 => ?_) (fun c_2 => ?_)
    · skip
      refine lv_iconst (v := (1 : Int32)) hx hb d_M_value_121 (by decide) ?_
      refine lv_goto (tgt := 126) hx hb d_M_value_122 (by decide) ?_
      have e : g_M_value_53_0_0 (0 : Int32) u = (1 : Int32) := (if_pos rfl).trans ((if_pos c_2).trans (rfl))
      exact hk_ri C hAe hP hD hS e.symm rfl d_M_value_126
    · skip
      refine lv_aload_n hx hb d_M_value_114 rfl (lv_at hl 2 rfl) ?_
      refine hk_get (v := .int (mg3 u)) C hP 0 5 3 i_M rfl rfl (by decide) (hk_in (by decide +kernel) rfl) rfl d_M_value_115 ?_
      refine lv_if_eq (tgt := 125) hx hb d_M_value_118 (by decide) (fun c_3 => ?_) (fun c_3 => ?_)
      · skip
        refine lv_iconst (v := (0 : Int32)) hx hb d_M_value_125 (by decide) ?_
        have e : g_M_value_53_0_0 (0 : Int32) u = (0 : Int32) := (if_pos rfl).trans ((if_neg c_2).trans ((if_pos c_3).trans (rfl)))
        exact hk_ri C hAe hP hD hS e.symm rfl d_M_value_126
      · skip
        refine lv_iconst (v := (1 : Int32)) hx hb d_M_value_121 (by decide) ?_
        refine lv_goto (tgt := 126) hx hb d_M_value_122 (by decide) ?_
        have e : g_M_value_53_0_0 (0 : Int32) u = (1 : Int32) := (if_pos rfl).trans ((if_neg c_2).trans ((if_neg c_3).trans (rfl)))
        exact hk_ri C hAe hP hD hS e.symm rfl d_M_value_126
  · skip
    refine lv_iload_n hx hb d_M_value_53 rfl (lv_at hl 3 rfl) ?_
    refine lv_tableIn (tgt := 127) (off := 73) hx hb d_M_value_54 (by decide) (by decide) rfl (by decide) ?_
    refine lv_iload_n hx hb d_M_value_127 rfl (lv_at hl 0 rfl) ?_
    refine lv_if_eq (tgt := 135) hx hb d_M_value_128 (by decide) (fun c_4 => ?_) (fun c_4 => absurd (by decide) c_4)
    refine lv_iconst (v := (0 : Int32)) hx hb d_M_value_135 (by decide) ?_
    have e : g_M_value_53_0_0 (1 : Int32) u = (0 : Int32) := (if_neg (by decide)).trans ((if_pos rfl).trans (rfl))
    exact hk_ri C hAe hP hD hS e.symm rfl d_M_value_136
  · skip
    refine lv_iload_n hx hb d_M_value_53 rfl (lv_at hl 3 rfl) ?_
    refine lv_tableIn (tgt := 137) (off := 83) hx hb d_M_value_54 (by decide) (by decide) rfl (by decide) ?_
    refine lv_iload_n hx hb d_M_value_137 rfl (lv_at hl 0 rfl) ?_
    refine lv_if_eq (tgt := 156) hx hb d_M_value_138 (by decide) (fun c_5 => ?_) (fun c_5 => absurd (by decide) c_5)
    refine lv_iconst (v := (0 : Int32)) hx hb d_M_value_156 (by decide) ?_
    have e : g_M_value_53_0_0 (2 : Int32) u = (0 : Int32) := (if_neg (by decide)).trans ((if_neg (by decide)).trans ((if_pos rfl).trans (rfl)))
    exact hk_ri C hAe hP hD hS e.symm rfl d_M_value_157
  · skip
    refine lv_iload_n hx hb d_M_value_53 rfl (lv_at hl 3 rfl) ?_
    refine lv_tableIn (tgt := 158) (off := 104) hx hb d_M_value_54 (by decide) (by decide) rfl (by decide) ?_
    refine lv_aload_n hx hb d_M_value_158 rfl (lv_at hl 2 rfl) ?_
    refine lv_iload_n hx hb d_M_value_159 rfl (lv_at hl 3 rfl) ?_
    refine lv_iconst (v := (3 : Int32)) hx hb d_M_value_160 (by decide) ?_
    refine lv_isub hx hb d_M_value_161 ?_
    refine hk_fold (z := (0 : Int32)) (by decide) ?_
    refine hk_goI (hk_kV (k := 1) (As := [.int (0 : Int32)]) (rest := []) C (c_M_lit l G am u (0 : Int32) (Or.inl rfl) _) Y_M_lit (hk_in (by decide +kernel) rfl) rfl rfl ⟨Nat.le_of_ble_eq_true rfl, Nat.le_of_ble_eq_true rfl⟩ (va_recv hE.1 hP (ci := 5) (q0 := 0) rfl rfl) hP hD rfl hl.1 rfl (Nat.le_of_ble_eq_true rfl) d_M_value_162 ⟨Nat.zero_le _, Nat.zero_le _⟩) hD hS hA (fun H locs hP hD hS => ?_)
    have e : g_M_value_53_0_0 (3 : Int32) u = m_M_lit (0 : Int32) u := (if_neg (by decide)).trans ((if_neg (by decide)).trans ((if_neg (by decide)).trans ((if_pos rfl).trans (rfl))))
    exact hk_ri C hAe hP hD hS e.symm rfl d_M_value_165
  · skip
    refine lv_iload_n hx hb d_M_value_53 rfl (lv_at hl 3 rfl) ?_
    refine lv_tableIn (tgt := 158) (off := 104) hx hb d_M_value_54 (by decide) (by decide) rfl (by decide) ?_
    refine lv_aload_n hx hb d_M_value_158 rfl (lv_at hl 2 rfl) ?_
    refine lv_iload_n hx hb d_M_value_159 rfl (lv_at hl 3 rfl) ?_
    refine lv_iconst (v := (3 : Int32)) hx hb d_M_value_160 (by decide) ?_
    refine lv_isub hx hb d_M_value_161 ?_
    refine hk_fold (z := (1 : Int32)) (by decide) ?_
    refine hk_goI (hk_kV (k := 1) (As := [.int (1 : Int32)]) (rest := []) C (c_M_lit l G am u (1 : Int32) (Or.inr rfl) _) Y_M_lit (hk_in (by decide +kernel) rfl) rfl rfl ⟨Nat.le_of_ble_eq_true rfl, Nat.le_of_ble_eq_true rfl⟩ (va_recv hE.1 hP (ci := 5) (q0 := 0) rfl rfl) hP hD rfl hl.1 rfl (Nat.le_of_ble_eq_true rfl) d_M_value_162 ⟨Nat.zero_le _, Nat.zero_le _⟩) hD hS hA (fun H locs hP hD hS => ?_)
    have e : g_M_value_53_0_0 (4 : Int32) u = m_M_lit (1 : Int32) u := (if_neg (by decide)).trans ((if_neg (by decide)).trans ((if_neg (by decide)).trans ((if_neg (by decide)).trans ((if_pos rfl).trans (rfl)))))
    exact hk_ri C hAe hP hD hS e.symm rfl d_M_value_165
  · skip
    refine lv_iload_n hx hb d_M_value_53 rfl (lv_at hl 3 rfl) ?_
    refine lv_tableIn (tgt := 166) (off := 112) hx hb d_M_value_54 (by decide) (by decide) rfl (by decide) ?_
    refine lv_aload_n hx hb d_M_value_166 rfl (lv_at hl 2 rfl) ?_
    refine hk_get (v := .int (mg13 u)) C hP 0 5 13 i_M rfl rfl (by decide) (hk_in (by decide +kernel) rfl) rfl d_M_value_167 ?_
    have e : g_M_value_53_0_0 (5 : Int32) u = mg13 u := (if_neg (by decide)).trans ((if_neg (by decide)).trans ((if_neg (by decide)).trans ((if_neg (by decide)).trans ((if_neg (by decide)).trans ((if_pos rfl).trans (rfl))))))
    exact hk_ri C hAe hP hD hS e.symm rfl d_M_value_170
  · skip
    refine lv_iload_n hx hb d_M_value_53 rfl (lv_at hl 3 rfl) ?_
    refine lv_tableIn (tgt := 171) (off := 117) hx hb d_M_value_54 (by decide) (by decide) rfl (by decide) ?_
    refine lv_aload_n hx hb d_M_value_171 rfl (lv_at hl 2 rfl) ?_
    refine hk_get (v := .ref (am 1)) C hP 0 5 1 i_M rfl rfl (by decide) (hk_in (by decide +kernel) rfl) rfl d_M_value_172 ?_
    refine lv_bipush (v := (7 : Int32)) hx hb d_M_value_175 (by decide) ?_
    refine hk_ild C hP 1 0 (v := (mg1 u) 7) rfl rfl (hk_inl (by decide)) rfl d_M_value_177 ?_
    have e : g_M_value_53_0_0 (6 : Int32) u = (mg1 u) 7 := (if_neg (by decide)).trans ((if_neg (by decide)).trans ((if_neg (by decide)).trans ((if_neg (by decide)).trans ((if_neg (by decide)).trans ((if_neg (by decide)).trans ((if_pos rfl).trans (rfl)))))))
    exact hk_ri C hAe hP hD hS e.symm rfl d_M_value_178
  · skip
    refine lv_iload_n hx hb d_M_value_53 rfl (lv_at hl 3 rfl) ?_
    refine lv_tableIn (tgt := 179) (off := 125) hx hb d_M_value_54 (by decide) (by decide) rfl (by decide) ?_
    refine lv_aload_n hx hb d_M_value_179 rfl (lv_at hl 2 rfl) ?_
    refine hk_get (v := .int (mg14 u)) C hP 0 5 14 i_M rfl rfl (by decide) (hk_in (by decide +kernel) rfl) rfl d_M_value_180 ?_
    have e : g_M_value_53_0_0 (7 : Int32) u = mg14 u := (if_neg (by decide)).trans ((if_neg (by decide)).trans ((if_neg (by decide)).trans ((if_neg (by decide)).trans ((if_neg (by decide)).trans ((if_neg (by decide)).trans ((if_neg (by decide)).trans ((if_pos rfl).trans (rfl))))))))
    exact hk_ri C hAe hP hD hS e.symm rfl d_M_value_183
  · skip
    refine lv_iload_n hx hb d_M_value_53 rfl (lv_at hl 3 rfl) ?_
    refine lv_tableOut (tgt := 184) hx hb d_M_value_54 (by decide) (by decide) ?_
    refine lv_aload_n hx hb d_M_value_184 rfl (lv_at hl 2 rfl) ?_
    refine hk_get (v := .int (mg4 u)) C hP 0 5 4 i_M rfl rfl (by decide) (hk_in (by decide +kernel) rfl) rfl d_M_value_185 ?_
    refine lv_if_eq (tgt := 202) hx hb d_M_value_188 (by decide) (fun c_6 => ?_) (fun c_6 => ?_)
    · skip
      refine lv_iconst (v := (0 : Int32)) hx hb d_M_value_202 (by decide) ?_
      have e : g_M_value_53_0_0 (8 : Int32) u = (0 : Int32) := (if_neg (by decide)).trans ((if_neg (by decide)).trans ((if_neg (by decide)).trans ((if_neg (by decide)).trans ((if_neg (by decide)).trans ((if_neg (by decide)).trans ((if_neg (by decide)).trans ((if_neg (by decide)).trans ((if_pos c_6).trans (rfl)))))))))
      exact hk_ri C hAe hP hD hS e.symm rfl d_M_value_203
    · skip
      refine lv_aload_n hx hb d_M_value_191 rfl (lv_at hl 2 rfl) ?_
      refine lv_iload_n hx hb d_M_value_192 rfl (lv_at hl 3 rfl) ?_
      refine lv_bipush (v := (8 : Int32)) hx hb d_M_value_193 (by decide) ?_
      refine lv_isub hx hb d_M_value_195 ?_
      refine hk_fold (z := (0 : Int32)) (by decide) ?_
      refine hk_goI (hk_kV (k := 1) (As := [.int (0 : Int32)]) (rest := []) C (c_M_lit l G am u (0 : Int32) (Or.inl rfl) _) Y_M_lit (hk_in (by decide +kernel) rfl) rfl rfl ⟨Nat.le_of_ble_eq_true rfl, Nat.le_of_ble_eq_true rfl⟩ (va_recv hE.1 hP (ci := 5) (q0 := 0) rfl rfl) hP hD rfl hl.1 rfl (Nat.le_of_ble_eq_true rfl) d_M_value_196 ⟨Nat.zero_le _, Nat.zero_le _⟩) hD hS hA (fun H locs hP hD hS => ?_)
      refine lv_goto (tgt := 203) hx hb d_M_value_199 (by decide) ?_
      have e : g_M_value_53_0_0 (8 : Int32) u = m_M_lit (0 : Int32) u := (if_neg (by decide)).trans ((if_neg (by decide)).trans ((if_neg (by decide)).trans ((if_neg (by decide)).trans ((if_neg (by decide)).trans ((if_neg (by decide)).trans ((if_neg (by decide)).trans ((if_neg (by decide)).trans ((if_neg c_6).trans (rfl)))))))))
      exact hk_ri C hAe hP hD hS e.symm rfl d_M_value_203
  · skip
    refine lv_iload_n hx hb d_M_value_53 rfl (lv_at hl 3 rfl) ?_
    refine lv_tableOut (tgt := 184) hx hb d_M_value_54 (by decide) (by decide) ?_
    refine lv_aload_n hx hb d_M_value_184 rfl (lv_at hl 2 rfl) ?_
    refine hk_get (v := .int (mg4 u)) C hP 0 5 4 i_M rfl rfl (by decide) (hk_in (by decide +kernel) rfl) rfl d_M_value_185 ?_
    refine lv_if_eq (tgt := 202) hx hb d_M_value_188 (by decide) (fun c_7 => ?_) (fun c_7 => ?_)
    · skip
      refine lv_iconst (v := (0 : Int32)) hx hb d_M_value_202 (by decide) ?_
      have e : g_M_value_53_0_0 (9 : Int32) u = (0 : Int32) := (if_neg (by decide)).trans ((if_neg (by decide)).trans ((if_neg (by decide)).trans ((if_neg (by decide)).trans ((if_neg (by decide)).trans ((if_neg (by decide)).trans ((if_neg (by decide)).trans ((if_neg (by decide)).trans ((if_pos c_7).trans (rfl)))))))))
      exact hk_ri C hAe hP hD hS e.symm rfl d_M_value_203
    · skip
      refine lv_aload_n hx hb d_M_value_191 rfl (lv_at hl 2 rfl) ?_
      refine lv_iload_n hx hb d_M_value_192 rfl (lv_at hl 3 rfl) ?_
      refine lv_bipush (v := (8 : Int32)) hx hb d_M_value_193 (by decide) ?_
      refine lv_isub hx hb d_M_value_195 ?_
      refine hk_fold (z := (1 : Int32)) (by decide) ?_
      refine hk_goI (hk_kV (k := 1) (As := [.int (1 : Int32)]) (rest := []) C (c_M_lit l G am u (1 : Int32) (Or.inr rfl) _) Y_M_lit (hk_in (by decide +kernel) rfl) rfl rfl ⟨Nat.le_of_ble_eq_true rfl, Nat.le_of_ble_eq_true rfl⟩ (va_recv hE.1 hP (ci := 5) (q0 := 0) rfl rfl) hP hD rfl hl.1 rfl (Nat.le_of_ble_eq_true rfl) d_M_value_196 ⟨Nat.zero_le _, Nat.zero_le _⟩) hD hS hA (fun H locs hP hD hS => ?_)
      refine lv_goto (tgt := 203) hx hb d_M_value_199 (by decide) ?_
      have e : g_M_value_53_0_0 (9 : Int32) u = m_M_lit (1 : Int32) u := (if_neg (by decide)).trans ((if_neg (by decide)).trans ((if_neg (by decide)).trans ((if_neg (by decide)).trans ((if_neg (by decide)).trans ((if_neg (by decide)).trans ((if_neg (by decide)).trans ((if_neg (by decide)).trans ((if_neg c_7).trans (rfl)))))))))
      exact hk_ri C hAe hP hD hS e.symm rfl d_M_value_203
set_option maxHeartbeats 4000000 in
set_option maxRecDepth 100000 in
theorem tl_M_value_53_1_0 {p : Program} {l : Launch} {e : Env} {s : State} {m : MethodId} {below : List Frame} {meth : Method} {c : Code} {A : Nat → Prop} {H : Heap} {locs : List Loc} {ls : Array Slot} {w0 w1 : va_W} {r : Int32} (G : hk_G) (am : Nat → Nat) (u : cM) (p1 : Int32) (hi : p1 = 0 ∨ p1 = 1 ∨ p1 = 2 ∨ p1 = 3 ∨ p1 = 4 ∨ p1 = 5 ∨ p1 = 6 ∨ p1 = 7 ∨ p1 = 8 ∨ p1 = 9) (C : hk_C p s m meth c R_M b_M_value 4 (some .int) ([.ref (am 0), .int p1] : List Value).toArray G) (hAe : va_A w0 s.heap.size = A) (hA : ∀ q : Nat, s.heap.size ≤ q → A q) (hP : va_P (hk_D G) classes (wM G am u) H) (hD : va_D A (wM G am u)) (hS : va_S A s.heap H locs) (hl : lv_has ls 4 [(3, .int (0 : Int32)), (2, .int (1 : Int32)), (0, .ref (am 0)), (1, .int p1)]) (hr : r = g_M_value_53_1_0 p1 u) (hw : w1 = wM G am u) : W p l e rm_M_value s m ([.ref (am 0), .int p1] : List Value).toArray below meth c H locs 0 0 (MQ below (va_Qi (fun (x : Int32) (_ : Unit) => x = r) (hk_B G w0 w1 s.heap.size) A) ([.ref (am 0), .int p1] : List Value).toArray s 0 0 A) (F0 m 53 ls []) := by
  subst hr
  subst hw
  have hx := C.1
  have hb := C.2.1
  have hown := C.2.2.2.2.1
  have hts := C.2.2.2.2.2.1
  have hE := C.2.2.2.2.2.2.2
  rcases hi with rfl | rfl | rfl | rfl | rfl | rfl | rfl | rfl | rfl | rfl
  · skip
    refine lv_iload_n hx hb d_M_value_53 rfl (lv_at hl 3 rfl) ?_
    refine lv_tableIn (tgt := 100) (off := 46) hx hb d_M_value_54 (by decide) (by decide) rfl (by decide) ?_
    refine lv_iload_n hx hb d_M_value_100 rfl (lv_at hl 1 rfl) ?_
    refine lv_if_ne (tgt := 121) hx hb d_M_value_101 (by decide) (fun c_1 => ?_) (fun c_1 => absurd c_1 (by decide))
    refine lv_iconst (v := (1 : Int32)) hx hb d_M_value_121 (by decide) ?_
    refine lv_goto (tgt := 126) hx hb d_M_value_122 (by decide) ?_
    have e : g_M_value_53_1_0 (0 : Int32) u = (1 : Int32) := (if_pos rfl).trans (rfl)
    exact hk_ri C hAe hP hD hS e.symm rfl d_M_value_126
  · skip
    refine lv_iload_n hx hb d_M_value_53 rfl (lv_at hl 3 rfl) ?_
    refine lv_tableIn (tgt := 127) (off := 73) hx hb d_M_value_54 (by decide) (by decide) rfl (by decide) ?_
    refine lv_iload_n hx hb d_M_value_127 rfl (lv_at hl 0 rfl) ?_
    refine lv_if_eq (tgt := 135) hx hb d_M_value_128 (by decide) (fun c_2 => ?_) (fun c_2 => absurd (by decide) c_2)
    refine lv_iconst (v := (0 : Int32)) hx hb d_M_value_135 (by decide) ?_
    have e : g_M_value_53_1_0 (1 : Int32) u = (0 : Int32) := (if_neg (by decide)).trans ((if_pos rfl).trans (rfl))
    exact hk_ri C hAe hP hD hS e.symm rfl d_M_value_136
  · skip
    refine lv_iload_n hx hb d_M_value_53 rfl (lv_at hl 3 rfl) ?_
    refine lv_tableIn (tgt := 137) (off := 83) hx hb d_M_value_54 (by decide) (by decide) rfl (by decide) ?_
    refine lv_iload_n hx hb d_M_value_137 rfl (lv_at hl 0 rfl) ?_
    refine lv_if_eq (tgt := 156) hx hb d_M_value_138 (by decide) (fun c_3 => ?_) (fun c_3 => absurd (by decide) c_3)
    refine lv_iconst (v := (0 : Int32)) hx hb d_M_value_156 (by decide) ?_
    have e : g_M_value_53_1_0 (2 : Int32) u = (0 : Int32) := (if_neg (by decide)).trans ((if_neg (by decide)).trans ((if_pos rfl).trans (rfl)))
    exact hk_ri C hAe hP hD hS e.symm rfl d_M_value_157
  · skip
    refine lv_iload_n hx hb d_M_value_53 rfl (lv_at hl 3 rfl) ?_
    refine lv_tableIn (tgt := 158) (off := 104) hx hb d_M_value_54 (by decide) (by decide) rfl (by decide) ?_
    refine lv_aload_n hx hb d_M_value_158 rfl (lv_at hl 2 rfl) ?_
    refine lv_iload_n hx hb d_M_value_159 rfl (lv_at hl 3 rfl) ?_
    refine lv_iconst (v := (3 : Int32)) hx hb d_M_value_160 (by decide) ?_
    refine lv_isub hx hb d_M_value_161 ?_
    refine hk_fold (z := (0 : Int32)) (by decide) ?_
    refine hk_goI (hk_kV (k := 1) (As := [.int (0 : Int32)]) (rest := []) C (c_M_lit l G am u (0 : Int32) (Or.inl rfl) _) Y_M_lit (hk_in (by decide +kernel) rfl) rfl rfl ⟨Nat.le_of_ble_eq_true rfl, Nat.le_of_ble_eq_true rfl⟩ (va_recv hE.1 hP (ci := 5) (q0 := 0) rfl rfl) hP hD rfl hl.1 rfl (Nat.le_of_ble_eq_true rfl) d_M_value_162 ⟨Nat.zero_le _, Nat.zero_le _⟩) hD hS hA (fun H locs hP hD hS => ?_)
    have e : g_M_value_53_1_0 (3 : Int32) u = m_M_lit (0 : Int32) u := (if_neg (by decide)).trans ((if_neg (by decide)).trans ((if_neg (by decide)).trans ((if_pos rfl).trans (rfl))))
    exact hk_ri C hAe hP hD hS e.symm rfl d_M_value_165
  · skip
    refine lv_iload_n hx hb d_M_value_53 rfl (lv_at hl 3 rfl) ?_
    refine lv_tableIn (tgt := 158) (off := 104) hx hb d_M_value_54 (by decide) (by decide) rfl (by decide) ?_
    refine lv_aload_n hx hb d_M_value_158 rfl (lv_at hl 2 rfl) ?_
    refine lv_iload_n hx hb d_M_value_159 rfl (lv_at hl 3 rfl) ?_
    refine lv_iconst (v := (3 : Int32)) hx hb d_M_value_160 (by decide) ?_
    refine lv_isub hx hb d_M_value_161 ?_
    refine hk_fold (z := (1 : Int32)) (by decide) ?_
    refine hk_goI (hk_kV (k := 1) (As := [.int (1 : Int32)]) (rest := []) C (c_M_lit l G am u (1 : Int32) (Or.inr rfl) _) Y_M_lit (hk_in (by decide +kernel) rfl) rfl rfl ⟨Nat.le_of_ble_eq_true rfl, Nat.le_of_ble_eq_true rfl⟩ (va_recv hE.1 hP (ci := 5) (q0 := 0) rfl rfl) hP hD rfl hl.1 rfl (Nat.le_of_ble_eq_true rfl) d_M_value_162 ⟨Nat.zero_le _, Nat.zero_le _⟩) hD hS hA (fun H locs hP hD hS => ?_)
    have e : g_M_value_53_1_0 (4 : Int32) u = m_M_lit (1 : Int32) u := (if_neg (by decide)).trans ((if_neg (by decide)).trans ((if_neg (by decide)).trans ((if_neg (by decide)).trans ((if_pos rfl).trans (rfl)))))
    exact hk_ri C hAe hP hD hS e.symm rfl d_M_value_165
  · skip
    refine lv_iload_n hx hb d_M_value_53 rfl (lv_at hl 3 rfl) ?_
    refine lv_tableIn (tgt := 166) (off := 112) hx hb d_M_value_54 (by decide) (by decide) rfl (by decide) ?_
    refine lv_aload_n hx hb d_M_value_166 rfl (lv_at hl 2 rfl) ?_
    refine hk_get (v := .int (mg13 u)) C hP 0 5 13 i_M rfl rfl (by decide) (hk_in (by decide +kernel) rfl) rfl d_M_value_167 ?_
    have e : g_M_value_53_1_0 (5 : Int32) u = mg13 u := (if_neg (by decide)).trans ((if_neg (by decide)).trans ((if_neg (by decide)).trans ((if_neg (by decide)).trans ((if_neg (by decide)).trans ((if_pos rfl).trans (rfl))))))
    exact hk_ri C hAe hP hD hS e.symm rfl d_M_value_170
  · skip
    refine lv_iload_n hx hb d_M_value_53 rfl (lv_at hl 3 rfl) ?_
    refine lv_tableIn (tgt := 171) (off := 117) hx hb d_M_value_54 (by decide) (by decide) rfl (by decide) ?_
    refine lv_aload_n hx hb d_M_value_171 rfl (lv_at hl 2 rfl) ?_
    refine hk_get (v := .ref (am 1)) C hP 0 5 1 i_M rfl rfl (by decide) (hk_in (by decide +kernel) rfl) rfl d_M_value_172 ?_
    refine lv_bipush (v := (7 : Int32)) hx hb d_M_value_175 (by decide) ?_
    refine hk_ild C hP 1 0 (v := (mg1 u) 7) rfl rfl (hk_inl (by decide)) rfl d_M_value_177 ?_
    have e : g_M_value_53_1_0 (6 : Int32) u = (mg1 u) 7 := (if_neg (by decide)).trans ((if_neg (by decide)).trans ((if_neg (by decide)).trans ((if_neg (by decide)).trans ((if_neg (by decide)).trans ((if_neg (by decide)).trans ((if_pos rfl).trans (rfl)))))))
    exact hk_ri C hAe hP hD hS e.symm rfl d_M_value_178
  · skip
    refine lv_iload_n hx hb d_M_value_53 rfl (lv_at hl 3 rfl) ?_
    refine lv_tableIn (tgt := 179) (off := 125) hx hb d_M_value_54 (by decide) (by decide) rfl (by decide) ?_
    refine lv_aload_n hx hb d_M_value_179 rfl (lv_at hl 2 rfl) ?_
    refine hk_get (v := .int (mg14 u)) C hP 0 5 14 i_M rfl rfl (by decide) (hk_in (by decide +kernel) rfl) rfl d_M_value_180 ?_
    have e : g_M_value_53_1_0 (7 : Int32) u = mg14 u := (if_neg (by decide)).trans ((if_neg (by decide)).trans ((if_neg (by decide)).trans ((if_neg (by decide)).trans ((if_neg (by decide)).trans ((if_neg (by decide)).trans ((if_neg (by decide)).trans ((if_pos rfl).trans (rfl))))))))
    exact hk_ri C hAe hP hD hS e.symm rfl d_M_value_183
  · skip
    refine lv_iload_n hx hb d_M_value_53 rfl (lv_at hl 3 rfl) ?_
    refine lv_tableOut (tgt := 184) hx hb d_M_value_54 (by decide) (by decide) ?_
    refine lv_aload_n hx hb d_M_value_184 rfl (lv_at hl 2 rfl) ?_
    refine hk_get (v := .int (mg4 u)) C hP 0 5 4 i_M rfl rfl (by decide) (hk_in (by decide +kernel) rfl) rfl d_M_value_185 ?_
    refine lv_if_eq (tgt := 202) hx hb d_M_value_188 (by decide) (fun c_4 => ?_) (fun c_4 => ?_)
    · skip
      refine lv_iconst (v := (0 : Int32)) hx hb d_M_value_202 (by decide) ?_
      have e : g_M_value_53_1_0 (8 : Int32) u = (0 : Int32) := (if_neg (by decide)).trans ((if_neg (by decide)).trans ((if_neg (by decide)).trans ((if_neg (by decide)).trans ((if_neg (by decide)).trans ((if_neg (by decide)).trans ((if_neg (by decide)).trans ((if_neg (by decide)).trans ((if_pos c_4).trans (rfl)))))))))
      exact hk_ri C hAe hP hD hS e.symm rfl d_M_value_203
    · skip
      refine lv_aload_n hx hb d_M_value_191 rfl (lv_at hl 2 rfl) ?_
      refine lv_iload_n hx hb d_M_value_192 rfl (lv_at hl 3 rfl) ?_
      refine lv_bipush (v := (8 : Int32)) hx hb d_M_value_193 (by decide) ?_
      refine lv_isub hx hb d_M_value_195 ?_
      refine hk_fold (z := (0 : Int32)) (by decide) ?_
      refine hk_goI (hk_kV (k := 1) (As := [.int (0 : Int32)]) (rest := []) C (c_M_lit l G am u (0 : Int32) (Or.inl rfl) _) Y_M_lit (hk_in (by decide +kernel) rfl) rfl rfl ⟨Nat.le_of_ble_eq_true rfl, Nat.le_of_ble_eq_true rfl⟩ (va_recv hE.1 hP (ci := 5) (q0 := 0) rfl rfl) hP hD rfl hl.1 rfl (Nat.le_of_ble_eq_true rfl) d_M_value_196 ⟨Nat.zero_le _, Nat.zero_le _⟩) hD hS hA (fun H locs hP hD hS => ?_)
      refine lv_goto (tgt := 203) hx hb d_M_value_199 (by decide) ?_
      have e : g_M_value_53_1_0 (8 : Int32) u = m_M_lit (0 : Int32) u := (if_neg (by decide)).trans ((if_neg (by decide)).trans ((if_neg (by decide)).trans ((if_neg (by decide)).trans ((if_neg (by decide)).trans ((if_neg (by decide)).trans ((if_neg (by decide)).trans ((if_neg (by decide)).trans ((if_neg c_4).trans (rfl)))))))))
      exact hk_ri C hAe hP hD hS e.symm rfl d_M_value_203
  · skip
    refine lv_iload_n hx hb d_M_value_53 rfl (lv_at hl 3 rfl) ?_
    refine lv_tableOut (tgt := 184) hx hb d_M_value_54 (by decide) (by decide) ?_
    refine lv_aload_n hx hb d_M_value_184 rfl (lv_at hl 2 rfl) ?_
    refine hk_get (v := .int (mg4 u)) C hP 0 5 4 i_M rfl rfl (by decide) (hk_in (by decide +kernel) rfl) rfl d_M_value_185 ?_
    refine lv_if_eq (tgt := 202) hx hb d_M_value_188 (by decide) (fun c_5 => ?_) (fun c_5 => ?_)
    · skip
      refine lv_iconst (v := (0 : Int32)) hx hb d_M_value_202 (by decide) ?_
      have e : g_M_value_53_1_0 (9 : Int32) u = (0 : Int32) := (if_neg (by decide)).trans ((if_neg (by decide)).trans ((if_neg (by decide)).trans ((if_neg (by decide)).trans ((if_neg (by decide)).trans ((if_neg (by decide)).trans ((if_neg (by decide)).trans ((if_neg (by decide)).trans ((if_pos c_5).trans (rfl)))))))))
      exact hk_ri C hAe hP hD hS e.symm rfl d_M_value_203
    · skip
      refine lv_aload_n hx hb d_M_value_191 rfl (lv_at hl 2 rfl) ?_
      refine lv_iload_n hx hb d_M_value_192 rfl (lv_at hl 3 rfl) ?_
      refine lv_bipush (v := (8 : Int32)) hx hb d_M_value_193 (by decide) ?_
      refine lv_isub hx hb d_M_value_195 ?_
      refine hk_fold (z := (1 : Int32)) (by decide) ?_
      refine hk_goI (hk_kV (k := 1) (As := [.int (1 : Int32)]) (rest := []) C (c_M_lit l G am u (1 : Int32) (Or.inr rfl) _) Y_M_lit (hk_in (by decide +kernel) rfl) rfl rfl ⟨Nat.le_of_ble_eq_true rfl, Nat.le_of_ble_eq_true rfl⟩ (va_recv hE.1 hP (ci := 5) (q0 := 0) rfl rfl) hP hD rfl hl.1 rfl (Nat.le_of_ble_eq_true rfl) d_M_value_196 ⟨Nat.zero_le _, Nat.zero_le _⟩) hD hS hA (fun H locs hP hD hS => ?_)
      refine lv_goto (tgt := 203) hx hb d_M_value_199 (by decide) ?_
      have e : g_M_value_53_1_0 (9 : Int32) u = m_M_lit (1 : Int32) u := (if_neg (by decide)).trans ((if_neg (by decide)).trans ((if_neg (by decide)).trans ((if_neg (by decide)).trans ((if_neg (by decide)).trans ((if_neg (by decide)).trans ((if_neg (by decide)).trans ((if_neg (by decide)).trans ((if_neg c_5).trans (rfl)))))))))
      exact hk_ri C hAe hP hD hS e.symm rfl d_M_value_203
set_option maxHeartbeats 4000000 in
set_option maxRecDepth 100000 in
theorem tl_M_value_53_1_1 {p : Program} {l : Launch} {e : Env} {s : State} {m : MethodId} {below : List Frame} {meth : Method} {c : Code} {A : Nat → Prop} {H : Heap} {locs : List Loc} {ls : Array Slot} {w0 w1 : va_W} {r : Int32} (G : hk_G) (am : Nat → Nat) (u : cM) (p1 : Int32) (hi : p1 = 0 ∨ p1 = 1 ∨ p1 = 2 ∨ p1 = 3 ∨ p1 = 4 ∨ p1 = 5 ∨ p1 = 6 ∨ p1 = 7 ∨ p1 = 8 ∨ p1 = 9) (C : hk_C p s m meth c R_M b_M_value 4 (some .int) ([.ref (am 0), .int p1] : List Value).toArray G) (hAe : va_A w0 s.heap.size = A) (hA : ∀ q : Nat, s.heap.size ≤ q → A q) (hP : va_P (hk_D G) classes (wM G am u) H) (hD : va_D A (wM G am u)) (hS : va_S A s.heap H locs) (hl : lv_has ls 4 [(3, .int (1 : Int32)), (2, .int (1 : Int32)), (0, .ref (am 0)), (1, .int p1)]) (hr : r = g_M_value_53_1_1 p1 u) (hw : w1 = wM G am u) : W p l e rm_M_value s m ([.ref (am 0), .int p1] : List Value).toArray below meth c H locs 0 0 (MQ below (va_Qi (fun (x : Int32) (_ : Unit) => x = r) (hk_B G w0 w1 s.heap.size) A) ([.ref (am 0), .int p1] : List Value).toArray s 0 0 A) (F0 m 53 ls []) := by
  subst hr
  subst hw
  have hx := C.1
  have hb := C.2.1
  have hown := C.2.2.2.2.1
  have hts := C.2.2.2.2.2.1
  have hE := C.2.2.2.2.2.2.2
  rcases hi with rfl | rfl | rfl | rfl | rfl | rfl | rfl | rfl | rfl | rfl
  · skip
    refine lv_iload_n hx hb d_M_value_53 rfl (lv_at hl 3 rfl) ?_
    refine lv_tableIn (tgt := 100) (off := 46) hx hb d_M_value_54 (by decide) (by decide) rfl (by decide) ?_
    refine lv_iload_n hx hb d_M_value_100 rfl (lv_at hl 1 rfl) ?_
    refine lv_if_ne (tgt := 121) hx hb d_M_value_101 (by decide) (fun c_1 => ?_) (fun c_1 => absurd c_1 (by decide))
    refine lv_iconst (v := (1 : Int32)) hx hb d_M_value_121 (by decide) ?_
    refine lv_goto (tgt := 126) hx hb d_M_value_122 (by decide) ?_
    have e : g_M_value_53_1_1 (0 : Int32) u = (1 : Int32) := (if_pos rfl).trans (rfl)
    exact hk_ri C hAe hP hD hS e.symm rfl d_M_value_126
  · skip
    refine lv_iload_n hx hb d_M_value_53 rfl (lv_at hl 3 rfl) ?_
    refine lv_tableIn (tgt := 127) (off := 73) hx hb d_M_value_54 (by decide) (by decide) rfl (by decide) ?_
    refine lv_iload_n hx hb d_M_value_127 rfl (lv_at hl 0 rfl) ?_
    refine lv_if_eq (tgt := 135) hx hb d_M_value_128 (by decide) (fun c_2 => absurd c_2 (by decide)) (fun c_2 => ?_)
    refine lv_iconst (v := (1 : Int32)) hx hb d_M_value_131 (by decide) ?_
    refine lv_goto (tgt := 136) hx hb d_M_value_132 (by decide) ?_
    have e : g_M_value_53_1_1 (1 : Int32) u = (1 : Int32) := (if_neg (by decide)).trans ((if_pos rfl).trans (rfl))
    exact hk_ri C hAe hP hD hS e.symm rfl d_M_value_136
  · skip
    refine lv_iload_n hx hb d_M_value_53 rfl (lv_at hl 3 rfl) ?_
    refine lv_tableIn (tgt := 137) (off := 83) hx hb d_M_value_54 (by decide) (by decide) rfl (by decide) ?_
    refine lv_iload_n hx hb d_M_value_137 rfl (lv_at hl 0 rfl) ?_
    refine lv_if_eq (tgt := 156) hx hb d_M_value_138 (by decide) (fun c_3 => absurd c_3 (by decide)) (fun c_3 => ?_)
    refine lv_aload_n hx hb d_M_value_141 rfl (lv_at hl 2 rfl) ?_
    refine hk_get (v := .ref (am 1)) C hP 0 5 1 i_M rfl rfl (by decide) (hk_in (by decide +kernel) rfl) rfl d_M_value_142 ?_
    refine lv_bipush (v := (6 : Int32)) hx hb d_M_value_145 (by decide) ?_
    refine hk_ild C hP 1 0 (v := (mg1 u) 6) rfl rfl (hk_inl (by decide)) rfl d_M_value_147 ?_
    refine lv_iconst (v := (1 : Int32)) hx hb d_M_value_148 (by decide) ?_
    refine lv_icmp_ne (tgt := 156) hx hb d_M_value_149 (by decide) (fun c_4 => ?_) (fun c_4 => ?_)
    · skip
      refine lv_iconst (v := (0 : Int32)) hx hb d_M_value_156 (by decide) ?_
      have e : g_M_value_53_1_1 (2 : Int32) u = (0 : Int32) := (if_neg (by decide)).trans ((if_neg (by decide)).trans ((if_pos rfl).trans ((if_neg c_4).trans (rfl))))
      exact hk_ri C hAe hP hD hS e.symm rfl d_M_value_157
    · skip
      refine lv_iconst (v := (1 : Int32)) hx hb d_M_value_152 (by decide) ?_
      refine lv_goto (tgt := 157) hx hb d_M_value_153 (by decide) ?_
      have e : g_M_value_53_1_1 (2 : Int32) u = (1 : Int32) := (if_neg (by decide)).trans ((if_neg (by decide)).trans ((if_pos rfl).trans ((if_pos c_4).trans (rfl))))
      exact hk_ri C hAe hP hD hS e.symm rfl d_M_value_157
  · skip
    refine lv_iload_n hx hb d_M_value_53 rfl (lv_at hl 3 rfl) ?_
    refine lv_tableIn (tgt := 158) (off := 104) hx hb d_M_value_54 (by decide) (by decide) rfl (by decide) ?_
    refine lv_aload_n hx hb d_M_value_158 rfl (lv_at hl 2 rfl) ?_
    refine lv_iload_n hx hb d_M_value_159 rfl (lv_at hl 3 rfl) ?_
    refine lv_iconst (v := (3 : Int32)) hx hb d_M_value_160 (by decide) ?_
    refine lv_isub hx hb d_M_value_161 ?_
    refine hk_fold (z := (0 : Int32)) (by decide) ?_
    refine hk_goI (hk_kV (k := 1) (As := [.int (0 : Int32)]) (rest := []) C (c_M_lit l G am u (0 : Int32) (Or.inl rfl) _) Y_M_lit (hk_in (by decide +kernel) rfl) rfl rfl ⟨Nat.le_of_ble_eq_true rfl, Nat.le_of_ble_eq_true rfl⟩ (va_recv hE.1 hP (ci := 5) (q0 := 0) rfl rfl) hP hD rfl hl.1 rfl (Nat.le_of_ble_eq_true rfl) d_M_value_162 ⟨Nat.zero_le _, Nat.zero_le _⟩) hD hS hA (fun H locs hP hD hS => ?_)
    have e : g_M_value_53_1_1 (3 : Int32) u = m_M_lit (0 : Int32) u := (if_neg (by decide)).trans ((if_neg (by decide)).trans ((if_neg (by decide)).trans ((if_pos rfl).trans (rfl))))
    exact hk_ri C hAe hP hD hS e.symm rfl d_M_value_165
  · skip
    refine lv_iload_n hx hb d_M_value_53 rfl (lv_at hl 3 rfl) ?_
    refine lv_tableIn (tgt := 158) (off := 104) hx hb d_M_value_54 (by decide) (by decide) rfl (by decide) ?_
    refine lv_aload_n hx hb d_M_value_158 rfl (lv_at hl 2 rfl) ?_
    refine lv_iload_n hx hb d_M_value_159 rfl (lv_at hl 3 rfl) ?_
    refine lv_iconst (v := (3 : Int32)) hx hb d_M_value_160 (by decide) ?_
    refine lv_isub hx hb d_M_value_161 ?_
    refine hk_fold (z := (1 : Int32)) (by decide) ?_
    refine hk_goI (hk_kV (k := 1) (As := [.int (1 : Int32)]) (rest := []) C (c_M_lit l G am u (1 : Int32) (Or.inr rfl) _) Y_M_lit (hk_in (by decide +kernel) rfl) rfl rfl ⟨Nat.le_of_ble_eq_true rfl, Nat.le_of_ble_eq_true rfl⟩ (va_recv hE.1 hP (ci := 5) (q0 := 0) rfl rfl) hP hD rfl hl.1 rfl (Nat.le_of_ble_eq_true rfl) d_M_value_162 ⟨Nat.zero_le _, Nat.zero_le _⟩) hD hS hA (fun H locs hP hD hS => ?_)
    have e : g_M_value_53_1_1 (4 : Int32) u = m_M_lit (1 : Int32) u := (if_neg (by decide)).trans ((if_neg (by decide)).trans ((if_neg (by decide)).trans ((if_neg (by decide)).trans ((if_pos rfl).trans (rfl)))))
    exact hk_ri C hAe hP hD hS e.symm rfl d_M_value_165
  · skip
    refine lv_iload_n hx hb d_M_value_53 rfl (lv_at hl 3 rfl) ?_
    refine lv_tableIn (tgt := 166) (off := 112) hx hb d_M_value_54 (by decide) (by decide) rfl (by decide) ?_
    refine lv_aload_n hx hb d_M_value_166 rfl (lv_at hl 2 rfl) ?_
    refine hk_get (v := .int (mg13 u)) C hP 0 5 13 i_M rfl rfl (by decide) (hk_in (by decide +kernel) rfl) rfl d_M_value_167 ?_
    have e : g_M_value_53_1_1 (5 : Int32) u = mg13 u := (if_neg (by decide)).trans ((if_neg (by decide)).trans ((if_neg (by decide)).trans ((if_neg (by decide)).trans ((if_neg (by decide)).trans ((if_pos rfl).trans (rfl))))))
    exact hk_ri C hAe hP hD hS e.symm rfl d_M_value_170
  · skip
    refine lv_iload_n hx hb d_M_value_53 rfl (lv_at hl 3 rfl) ?_
    refine lv_tableIn (tgt := 171) (off := 117) hx hb d_M_value_54 (by decide) (by decide) rfl (by decide) ?_
    refine lv_aload_n hx hb d_M_value_171 rfl (lv_at hl 2 rfl) ?_
    refine hk_get (v := .ref (am 1)) C hP 0 5 1 i_M rfl rfl (by decide) (hk_in (by decide +kernel) rfl) rfl d_M_value_172 ?_
    refine lv_bipush (v := (7 : Int32)) hx hb d_M_value_175 (by decide) ?_
    refine hk_ild C hP 1 0 (v := (mg1 u) 7) rfl rfl (hk_inl (by decide)) rfl d_M_value_177 ?_
    have e : g_M_value_53_1_1 (6 : Int32) u = (mg1 u) 7 := (if_neg (by decide)).trans ((if_neg (by decide)).trans ((if_neg (by decide)).trans ((if_neg (by decide)).trans ((if_neg (by decide)).trans ((if_neg (by decide)).trans ((if_pos rfl).trans (rfl)))))))
    exact hk_ri C hAe hP hD hS e.symm rfl d_M_value_178
  · skip
    refine lv_iload_n hx hb d_M_value_53 rfl (lv_at hl 3 rfl) ?_
    refine lv_tableIn (tgt := 179) (off := 125) hx hb d_M_value_54 (by decide) (by decide) rfl (by decide) ?_
    refine lv_aload_n hx hb d_M_value_179 rfl (lv_at hl 2 rfl) ?_
    refine hk_get (v := .int (mg14 u)) C hP 0 5 14 i_M rfl rfl (by decide) (hk_in (by decide +kernel) rfl) rfl d_M_value_180 ?_
    have e : g_M_value_53_1_1 (7 : Int32) u = mg14 u := (if_neg (by decide)).trans ((if_neg (by decide)).trans ((if_neg (by decide)).trans ((if_neg (by decide)).trans ((if_neg (by decide)).trans ((if_neg (by decide)).trans ((if_neg (by decide)).trans ((if_pos rfl).trans (rfl))))))))
    exact hk_ri C hAe hP hD hS e.symm rfl d_M_value_183
  · skip
    refine lv_iload_n hx hb d_M_value_53 rfl (lv_at hl 3 rfl) ?_
    refine lv_tableOut (tgt := 184) hx hb d_M_value_54 (by decide) (by decide) ?_
    refine lv_aload_n hx hb d_M_value_184 rfl (lv_at hl 2 rfl) ?_
    refine hk_get (v := .int (mg4 u)) C hP 0 5 4 i_M rfl rfl (by decide) (hk_in (by decide +kernel) rfl) rfl d_M_value_185 ?_
    refine lv_if_eq (tgt := 202) hx hb d_M_value_188 (by decide) (fun c_5 => ?_) (fun c_5 => ?_)
    · skip
      refine lv_iconst (v := (0 : Int32)) hx hb d_M_value_202 (by decide) ?_
      have e : g_M_value_53_1_1 (8 : Int32) u = (0 : Int32) := (if_neg (by decide)).trans ((if_neg (by decide)).trans ((if_neg (by decide)).trans ((if_neg (by decide)).trans ((if_neg (by decide)).trans ((if_neg (by decide)).trans ((if_neg (by decide)).trans ((if_neg (by decide)).trans ((if_pos c_5).trans (rfl)))))))))
      exact hk_ri C hAe hP hD hS e.symm rfl d_M_value_203
    · skip
      refine lv_aload_n hx hb d_M_value_191 rfl (lv_at hl 2 rfl) ?_
      refine lv_iload_n hx hb d_M_value_192 rfl (lv_at hl 3 rfl) ?_
      refine lv_bipush (v := (8 : Int32)) hx hb d_M_value_193 (by decide) ?_
      refine lv_isub hx hb d_M_value_195 ?_
      refine hk_fold (z := (0 : Int32)) (by decide) ?_
      refine hk_goI (hk_kV (k := 1) (As := [.int (0 : Int32)]) (rest := []) C (c_M_lit l G am u (0 : Int32) (Or.inl rfl) _) Y_M_lit (hk_in (by decide +kernel) rfl) rfl rfl ⟨Nat.le_of_ble_eq_true rfl, Nat.le_of_ble_eq_true rfl⟩ (va_recv hE.1 hP (ci := 5) (q0 := 0) rfl rfl) hP hD rfl hl.1 rfl (Nat.le_of_ble_eq_true rfl) d_M_value_196 ⟨Nat.zero_le _, Nat.zero_le _⟩) hD hS hA (fun H locs hP hD hS => ?_)
      refine lv_goto (tgt := 203) hx hb d_M_value_199 (by decide) ?_
      have e : g_M_value_53_1_1 (8 : Int32) u = m_M_lit (0 : Int32) u := (if_neg (by decide)).trans ((if_neg (by decide)).trans ((if_neg (by decide)).trans ((if_neg (by decide)).trans ((if_neg (by decide)).trans ((if_neg (by decide)).trans ((if_neg (by decide)).trans ((if_neg (by decide)).trans ((if_neg c_5).trans (rfl)))))))))
      exact hk_ri C hAe hP hD hS e.symm rfl d_M_value_203
  · skip
    refine lv_iload_n hx hb d_M_value_53 rfl (lv_at hl 3 rfl) ?_
    refine lv_tableOut (tgt := 184) hx hb d_M_value_54 (by decide) (by decide) ?_
    refine lv_aload_n hx hb d_M_value_184 rfl (lv_at hl 2 rfl) ?_
    refine hk_get (v := .int (mg4 u)) C hP 0 5 4 i_M rfl rfl (by decide) (hk_in (by decide +kernel) rfl) rfl d_M_value_185 ?_
    refine lv_if_eq (tgt := 202) hx hb d_M_value_188 (by decide) (fun c_6 => ?_) (fun c_6 => ?_)
    · skip
      refine lv_iconst (v := (0 : Int32)) hx hb d_M_value_202 (by decide) ?_
      have e : g_M_value_53_1_1 (9 : Int32) u = (0 : Int32) := (if_neg (by decide)).trans ((if_neg (by decide)).trans ((if_neg (by decide)).trans ((if_neg (by decide)).trans ((if_neg (by decide)).trans ((if_neg (by decide)).trans ((if_neg (by decide)).trans ((if_neg (by decide)).trans ((if_pos c_6).trans (rfl)))))))))
      exact hk_ri C hAe hP hD hS e.symm rfl d_M_value_203
    · skip
      refine lv_aload_n hx hb d_M_value_191 rfl (lv_at hl 2 rfl) ?_
      refine lv_iload_n hx hb d_M_value_192 rfl (lv_at hl 3 rfl) ?_
      refine lv_bipush (v := (8 : Int32)) hx hb d_M_value_193 (by decide) ?_
      refine lv_isub hx hb d_M_value_195 ?_
      refine hk_fold (z := (1 : Int32)) (by decide) ?_
      refine hk_goI (hk_kV (k := 1) (As := [.int (1 : Int32)]) (rest := []) C (c_M_lit l G am u (1 : Int32) (Or.inr rfl) _) Y_M_lit (hk_in (by decide +kernel) rfl) rfl rfl ⟨Nat.le_of_ble_eq_true rfl, Nat.le_of_ble_eq_true rfl⟩ (va_recv hE.1 hP (ci := 5) (q0 := 0) rfl rfl) hP hD rfl hl.1 rfl (Nat.le_of_ble_eq_true rfl) d_M_value_196 ⟨Nat.zero_le _, Nat.zero_le _⟩) hD hS hA (fun H locs hP hD hS => ?_)
      refine lv_goto (tgt := 203) hx hb d_M_value_199 (by decide) ?_
      have e : g_M_value_53_1_1 (9 : Int32) u = m_M_lit (1 : Int32) u := (if_neg (by decide)).trans ((if_neg (by decide)).trans ((if_neg (by decide)).trans ((if_neg (by decide)).trans ((if_neg (by decide)).trans ((if_neg (by decide)).trans ((if_neg (by decide)).trans ((if_neg (by decide)).trans ((if_neg c_6).trans (rfl)))))))))
      exact hk_ri C hAe hP hD hS e.symm rfl d_M_value_203
set_option maxHeartbeats 4000000 in
set_option maxRecDepth 100000 in
theorem c_M_value (l : Launch) (G : hk_G) (am : Nat → Nat) (u : cM) (p1 : Int32) (hi : p1 = 0 ∨ p1 = 1 ∨ p1 = 2 ∨ p1 = 3 ∨ p1 = 4 ∨ p1 = 5 ∨ p1 = 6 ∨ p1 = 7 ∨ p1 = 8 ∨ p1 = 9) : hk_I l G y_M_value b_M_value 4 (some .int) rm_M_value [.ref (am 0), .int p1] (wM G am u) (m_M_value p1 u) (wM G am u) := by
  refine hk_I_of (by decide) (Nat.le_of_ble_eq_true rfl) ?_
  intro p e s m below meth c A ls C hAe hA hP hD hS hl
  have hx := C.1
  have hb := C.2.1
  have hown := C.2.2.2.2.1
  have hts := C.2.2.2.2.2.1
  have hE := C.2.2.2.2.2.2.2
  have hl : lv_has ls 4 [(0, .ref (am 0)), (1, .int p1)] := hl
  refine lv_aload_n hx hb d_M_value_0 rfl (lv_at hl 0 rfl) ?_
  refine hk_get (v := .ref (am 1)) C hP 0 5 1 i_M rfl rfl (by decide) (hk_in (by decide +kernel) rfl) rfl d_M_value_1 ?_
  refine lv_iconst (v := (0 : Int32)) hx hb d_M_value_4 (by decide) ?_
  refine hk_ild C hP 1 0 (v := (mg1 u) 0) rfl rfl (hk_inl (by decide)) rfl d_M_value_5 ?_
  refine lv_iconst (v := (2 : Int32)) hx hb d_M_value_6 (by decide) ?_
  refine lv_icmp_eq (tgt := 27) hx hb d_M_value_7 (by decide) (fun c_1 => ?_) (fun c_1 => ?_)
  · skip
    refine lv_iconst (v := (1 : Int32)) hx hb d_M_value_27 (by decide) ?_
    refine lv_goto (tgt := 32) hx hb d_M_value_28 (by decide) ?_
    refine lv_istore_n (lv' := [(2, .int (1 : Int32)), (0, .ref (am 0)), (1, .int p1)]) hx hb d_M_value_32 rfl hl (by decide) rfl (fun ls hl => ?_)
    refine lv_iload_n hx hb d_M_value_33 rfl (lv_at hl 0 rfl) ?_
    refine lv_if_eq (tgt := 51) hx hb d_M_value_34 (by decide) (fun c_2 => absurd c_2 (by decide)) (fun c_2 => ?_)
    refine lv_aload_n hx hb d_M_value_37 rfl (lv_at hl 1 rfl) ?_
    refine hk_get (v := .ref (am 1)) C hP 0 5 1 i_M rfl rfl (by decide) (hk_in (by decide +kernel) rfl) rfl d_M_value_38 ?_
    refine lv_iconst (v := (5 : Int32)) hx hb d_M_value_41 (by decide) ?_
    refine hk_ild C hP 1 0 (v := (mg1 u) 5) rfl rfl (hk_inl (by decide)) rfl d_M_value_42 ?_
    refine lv_iconst (v := (1 : Int32)) hx hb d_M_value_43 (by decide) ?_
    refine lv_icmp_ne (tgt := 51) hx hb d_M_value_44 (by decide) (fun c_3 => ?_) (fun c_3 => ?_)
    · skip
      refine lv_iconst (v := (0 : Int32)) hx hb d_M_value_51 (by decide) ?_
      refine lv_istore_n (lv' := [(3, .int (0 : Int32)), (2, .int (1 : Int32)), (0, .ref (am 0)), (1, .int p1)]) hx hb d_M_value_52 rfl hl (by decide) rfl (fun ls hl => ?_)
      have e : m_M_value p1 u = (g_M_value_53_1_0 p1 u) := (if_pos c_1).trans ((if_neg c_3).trans (rfl))
      exact tl_M_value_53_1_0 G am u p1 hi C hAe hA hP hD hS (lv_sub hl [0, 1, 2, 3] rfl) (by rw [e]) rfl
    · skip
      refine lv_iconst (v := (1 : Int32)) hx hb d_M_value_47 (by decide) ?_
      refine lv_goto (tgt := 52) hx hb d_M_value_48 (by decide) ?_
      refine lv_istore_n (lv' := [(3, .int (1 : Int32)), (2, .int (1 : Int32)), (0, .ref (am 0)), (1, .int p1)]) hx hb d_M_value_52 rfl hl (by decide) rfl (fun ls hl => ?_)
      have e : m_M_value p1 u = (g_M_value_53_1_1 p1 u) := (if_pos c_1).trans ((if_pos c_3).trans (rfl))
      exact tl_M_value_53_1_1 G am u p1 hi C hAe hA hP hD hS (lv_sub hl [0, 1, 2, 3] rfl) (by rw [e]) rfl
  · skip
    refine lv_aload_n hx hb d_M_value_10 rfl (lv_at hl 0 rfl) ?_
    refine hk_get (v := .ref (am 1)) C hP 0 5 1 i_M rfl rfl (by decide) (hk_in (by decide +kernel) rfl) rfl d_M_value_11 ?_
    refine lv_iconst (v := (0 : Int32)) hx hb d_M_value_14 (by decide) ?_
    refine hk_ild C hP 1 0 (v := (mg1 u) 0) rfl rfl (hk_inl (by decide)) rfl d_M_value_15 ?_
    refine lv_iconst (v := (3 : Int32)) hx hb d_M_value_16 (by decide) ?_
    refine lv_icmp_ne (tgt := 31) hx hb d_M_value_17 (by decide) (fun c_4 => ?_) (fun c_4 => ?_)
    · skip
      refine lv_iconst (v := (0 : Int32)) hx hb d_M_value_31 (by decide) ?_
      refine lv_istore_n (lv' := [(2, .int (0 : Int32)), (0, .ref (am 0)), (1, .int p1)]) hx hb d_M_value_32 rfl hl (by decide) rfl (fun ls hl => ?_)
      refine lv_iload_n hx hb d_M_value_33 rfl (lv_at hl 0 rfl) ?_
      refine lv_if_eq (tgt := 51) hx hb d_M_value_34 (by decide) (fun c_5 => ?_) (fun c_5 => absurd (by decide) c_5)
      refine lv_iconst (v := (0 : Int32)) hx hb d_M_value_51 (by decide) ?_
      refine lv_istore_n (lv' := [(3, .int (0 : Int32)), (2, .int (0 : Int32)), (0, .ref (am 0)), (1, .int p1)]) hx hb d_M_value_52 rfl hl (by decide) rfl (fun ls hl => ?_)
      have e : m_M_value p1 u = (g_M_value_53_0_0 p1 u) := (if_neg c_1).trans ((if_neg c_4).trans (rfl))
      exact tl_M_value_53_0_0 G am u p1 hi C hAe hA hP hD hS (lv_sub hl [0, 1, 2, 3] rfl) (by rw [e]) rfl
    · skip
      refine lv_aload_n hx hb d_M_value_20 rfl (lv_at hl 0 rfl) ?_
      refine hk_get (v := .int (mg2 u)) C hP 0 5 2 i_M rfl rfl (by decide) (hk_in (by decide +kernel) rfl) rfl d_M_value_21 ?_
      refine lv_if_eq (tgt := 31) hx hb d_M_value_24 (by decide) (fun c_6 => ?_) (fun c_6 => ?_)
      · skip
        refine lv_iconst (v := (0 : Int32)) hx hb d_M_value_31 (by decide) ?_
        refine lv_istore_n (lv' := [(2, .int (0 : Int32)), (0, .ref (am 0)), (1, .int p1)]) hx hb d_M_value_32 rfl hl (by decide) rfl (fun ls hl => ?_)
        refine lv_iload_n hx hb d_M_value_33 rfl (lv_at hl 0 rfl) ?_
        refine lv_if_eq (tgt := 51) hx hb d_M_value_34 (by decide) (fun c_7 => ?_) (fun c_7 => absurd (by decide) c_7)
        refine lv_iconst (v := (0 : Int32)) hx hb d_M_value_51 (by decide) ?_
        refine lv_istore_n (lv' := [(3, .int (0 : Int32)), (2, .int (0 : Int32)), (0, .ref (am 0)), (1, .int p1)]) hx hb d_M_value_52 rfl hl (by decide) rfl (fun ls hl => ?_)
        have e : m_M_value p1 u = (g_M_value_53_0_0 p1 u) := (if_neg c_1).trans ((if_pos c_4).trans ((if_pos c_6).trans (rfl)))
        exact tl_M_value_53_0_0 G am u p1 hi C hAe hA hP hD hS (lv_sub hl [0, 1, 2, 3] rfl) (by rw [e]) rfl
      · skip
        refine lv_iconst (v := (1 : Int32)) hx hb d_M_value_27 (by decide) ?_
        refine lv_goto (tgt := 32) hx hb d_M_value_28 (by decide) ?_
        refine lv_istore_n (lv' := [(2, .int (1 : Int32)), (0, .ref (am 0)), (1, .int p1)]) hx hb d_M_value_32 rfl hl (by decide) rfl (fun ls hl => ?_)
        refine lv_iload_n hx hb d_M_value_33 rfl (lv_at hl 0 rfl) ?_
        refine lv_if_eq (tgt := 51) hx hb d_M_value_34 (by decide) (fun c_8 => absurd c_8 (by decide)) (fun c_8 => ?_)
        refine lv_aload_n hx hb d_M_value_37 rfl (lv_at hl 1 rfl) ?_
        refine hk_get (v := .ref (am 1)) C hP 0 5 1 i_M rfl rfl (by decide) (hk_in (by decide +kernel) rfl) rfl d_M_value_38 ?_
        refine lv_iconst (v := (5 : Int32)) hx hb d_M_value_41 (by decide) ?_
        refine hk_ild C hP 1 0 (v := (mg1 u) 5) rfl rfl (hk_inl (by decide)) rfl d_M_value_42 ?_
        refine lv_iconst (v := (1 : Int32)) hx hb d_M_value_43 (by decide) ?_
        refine lv_icmp_ne (tgt := 51) hx hb d_M_value_44 (by decide) (fun c_9 => ?_) (fun c_9 => ?_)
        · skip
          refine lv_iconst (v := (0 : Int32)) hx hb d_M_value_51 (by decide) ?_
          refine lv_istore_n (lv' := [(3, .int (0 : Int32)), (2, .int (1 : Int32)), (0, .ref (am 0)), (1, .int p1)]) hx hb d_M_value_52 rfl hl (by decide) rfl (fun ls hl => ?_)
          have e : m_M_value p1 u = (g_M_value_53_1_0 p1 u) := (if_neg c_1).trans ((if_pos c_4).trans ((if_neg c_6).trans ((if_neg c_9).trans (rfl))))
          exact tl_M_value_53_1_0 G am u p1 hi C hAe hA hP hD hS (lv_sub hl [0, 1, 2, 3] rfl) (by rw [e]) rfl
        · skip
          refine lv_iconst (v := (1 : Int32)) hx hb d_M_value_47 (by decide) ?_
          refine lv_goto (tgt := 52) hx hb d_M_value_48 (by decide) ?_
          refine lv_istore_n (lv' := [(3, .int (1 : Int32)), (2, .int (1 : Int32)), (0, .ref (am 0)), (1, .int p1)]) hx hb d_M_value_52 rfl hl (by decide) rfl (fun ls hl => ?_)
          have e : m_M_value p1 u = (g_M_value_53_1_1 p1 u) := (if_neg c_1).trans ((if_pos c_4).trans ((if_neg c_6).trans ((if_pos c_9).trans (rfl))))
          exact tl_M_value_53_1_1 G am u p1 hi C hAe hA hP hD hS (lv_sub hl [0, 1, 2, 3] rfl) (by rw [e]) rfl
set_option maxRecDepth 100000 in
theorem Y_M_layBy : hk_Y y_M_layBy b_M_layBy 2 none 0 := ⟨hk_in (by decide +kernel) rfl, hk_in (by decide +kernel) rfl, hk_in (by decide +kernel) rfl, hk_in (List.mem_of_getElem? (i := 621) rfl) rfl, by decide, by decide, by decide +kernel⟩
abbrev rm_M_layBy : Room := { frames := 3, cells := 0, slots := 0, locals := 65 }
set_option maxHeartbeats 4000000 in
set_option maxRecDepth 100000 in
theorem lp_M_layBy_2 {p : Program} {l : Launch} {e : Env} {s : State} {m : MethodId} {below : List Frame} {meth : Method} {c : Code} {A : Nat → Prop} {Q : State → Prop} (G : hk_G) (am : Nat → Nat) (u : cM) (C : hk_C p s m meth c R_M b_M_layBy 2 none ([.ref (am 0)] : List Value).toArray G) (hA : ∀ q : Nat, s.heap.size ≤ q → A q) (n : Nat) (hn : n < 2 ^ 31) (hbn : (10 : Int32) = nI n) (hn10 : n ≤ 10)
    (kx : ∀ (H : Heap) (locs : List Loc) (ls : Array Slot), va_P (hk_D G) classes (wM G am (li_M_layBy_2 u n)) H → va_D A (wM G am (li_M_layBy_2 u n)) → va_S A s.heap H locs → lv_has ls 2 [(0, .ref (am 0)), (1, .int (nI n))] → W p l e rm_M_layBy s m ([.ref (am 0)] : List Value).toArray below meth c H locs 0 0 Q (F0 m 25 ls [])) :
    ∀ (j k : Nat), k ≤ n → n + 1 ≤ k + j → ∀ (H : Heap) (locs : List Loc) (ls : Array Slot), va_P (hk_D G) classes (wM G am (li_M_layBy_2 u k)) H → va_D A (wM G am (li_M_layBy_2 u k)) → va_S A s.heap H locs → lv_has ls 2 [(0, .ref (am 0)), (1, .int (nI k))] → W p l e rm_M_layBy s m ([.ref (am 0)] : List Value).toArray below meth c H locs 0 0 Q (F0 m 2 ls []) := by
  have hx := C.1
  have hb := C.2.1
  have hown := C.2.2.2.2.1
  have hts := C.2.2.2.2.2.1
  have hE := C.2.2.2.2.2.2.2
  intro j
  induction j with
  | zero =>
    intro k h1 h2
    exact absurd h2 (by omega)
  | succ j ih =>
    intro k hkn hj H locs ls hP hD hS hl
    refine lv_iload_n hx hb d_M_layBy_2 rfl (lv_at hl 1 rfl) ?_
    refine lv_bipush (v := (10 : Int32)) hx hb d_M_layBy_3 (by decide) ?_
    refine lv_icmp_ge (tgt := 25) hx hb d_M_layBy_5 (by decide) (fun c_0 => ?_) (fun c_0 => ?_)
    · obtain rfl := hk_exit (n := n) hbn hn hkn c_0
      exact kx H locs ls hP hD hS (lv_sub hl [0, 1] rfl)
    · have hlt := hk_stay (n := n) hbn hn hkn c_0
      refine lv_aload_n hx hb d_M_layBy_8 rfl (lv_at hl 0 rfl) ?_
      refine hk_get (v := .ref (am 13)) C hP 0 5 25 i_M rfl rfl (by decide) (hk_in (by decide +kernel) rfl) rfl d_M_layBy_9 ?_
      refine lv_iload_n hx hb d_M_layBy_12 rfl (lv_at hl 1 rfl) ?_
      refine lv_aload_n hx hb d_M_layBy_13 rfl (lv_at hl 0 rfl) ?_
      refine lv_iload_n hx hb d_M_layBy_14 rfl (lv_at hl 1 rfl) ?_
      refine hk_goI (hk_kV (k := 1) (As := [.int (nI k)]) (rest := [.int (nI k), .ref (am 13)]) C (c_M_value l G am (li_M_layBy_2 u k) (nI k) (hk_d10 (by omega)) _) Y_M_value (hk_in (by decide +kernel) rfl) rfl rfl ⟨Nat.le_of_ble_eq_true rfl, Nat.le_of_ble_eq_true rfl⟩ (va_recv hE.1 hP (ci := 5) (q0 := 0) rfl rfl) hP hD rfl hl.1 rfl (Nat.le_of_ble_eq_true rfl) d_M_layBy_15 ⟨Nat.zero_le _, Nat.zero_le _⟩) hD hS hA (fun H locs hP hD hS => ?_)
      refine hk_ist (w2 := wM G am (f_M_layBy_18 k (li_M_layBy_2 u k))) C hP hD hS 13 0 rfl rfl (vp_in_nI (by omega) (by decide)) (by rw [nI_clamp (by omega)]; rfl) d_M_layBy_18 (fun H locs hP hD hS => ?_)
      obtain ⟨U1, hU1⟩ : ∃ z, (f_M_layBy_18 k (li_M_layBy_2 u k)) = z := ⟨_, rfl⟩
      rw [hU1] at hP hD
      refine lv_iinc (v := nI (k + 1)) (lv' := [(1, .int (nI (k + 1))), (0, .ref (am 0))]) hx hb d_M_layBy_19 hl (k := 1) rfl (nI_1 k) (by decide) rfl (fun ls hl => ?_)
      refine lv_goto (tgt := 2) hx hb d_M_layBy_22 (by decide) ?_
      subst hU1
      have e : li_M_layBy_2 u (k + 1) = (f_M_layBy_18 k (li_M_layBy_2 u k)) := rfl
      exact ih (k + 1) hlt (by omega) _ _ _ (by rw [e]; exact hP) (by rw [e]; exact hD) hS (lv_sub hl [1, 0] rfl)
set_option maxHeartbeats 4000000 in
set_option maxRecDepth 100000 in
theorem c_M_layBy (l : Launch) (G : hk_G) (am : Nat → Nat) (u : cM) : hk_V l G y_M_layBy b_M_layBy 2 rm_M_layBy [.ref (am 0)] (wM G am u) (wM G am (m_M_layBy u)) := by
  refine hk_V_of (by decide) (Nat.le_of_ble_eq_true rfl) ?_
  intro p e s m below meth c A ls C hAe hA hP hD hS hl
  have hx := C.1
  have hb := C.2.1
  have hown := C.2.2.2.2.1
  have hts := C.2.2.2.2.2.1
  have hE := C.2.2.2.2.2.2.2
  have hl : lv_has ls 2 [(0, .ref (am 0))] := hl
  refine lv_iconst (v := (0 : Int32)) hx hb d_M_layBy_0 (by decide) ?_
  refine lv_istore_n (lv' := [(1, .int (0 : Int32)), (0, .ref (am 0))]) hx hb d_M_layBy_1 rfl hl (by decide) rfl (fun ls hl => ?_)
  refine lp_M_layBy_2 G am u C hA 10 (by decide) rfl (by decide) (fun H locs ls hP hD hS hl => ?_) (10 + 1) 0 (Nat.zero_le _) (by omega) _ _ _ hP hD hS (lv_sub hl [1, 0] rfl)
  have e : m_M_layBy u = (li_M_layBy_2 u 10) := rfl
  exact hk_rv C hAe hP hD hS (by rw [e]) d_M_layBy_25
set_option maxRecDepth 100000 in
theorem Y_M_others : hk_Y y_M_others b_M_others 3 (some .int) 0 := ⟨hk_in (by decide +kernel) rfl, hk_in (by decide +kernel) rfl, hk_in (by decide +kernel) rfl, hk_in (List.mem_of_getElem? (i := 633) rfl) rfl, by decide, by decide, by decide +kernel⟩
abbrev rm_M_others : Room := { frames := 3, cells := 0, slots := 0, locals := 65 }
set_option maxHeartbeats 4000000 in
set_option maxRecDepth 100000 in
theorem lp_M_others_4 {p : Program} {l : Launch} {e : Env} {s : State} {m : MethodId} {below : List Frame} {meth : Method} {c : Code} {A : Nat → Prop} {Q : State → Prop} (G : hk_G) (am : Nat → Nat) (u : cM) (C : hk_C p s m meth c R_M b_M_others 3 (some .int) ([.ref (am 0)] : List Value).toArray G) (hA : ∀ q : Nat, s.heap.size ≤ q → A q) (n : Nat) (hn : n < 2 ^ 31) (hbn : (10 : Int32) = nI n) (hn10 : n ≤ 10)
    (kx : ∀ (H : Heap) (locs : List Loc) (ls : Array Slot), va_P (hk_D G) classes (wM G am u) H → va_D A (wM G am u) → va_S A s.heap H locs → lv_has ls 3 [(0, .ref (am 0)), (1, .int (li_M_others_4 u n)), (2, .int (nI n))] → W p l e rm_M_others s m ([.ref (am 0)] : List Value).toArray below meth c H locs 0 0 Q (F0 m 38 ls [])) :
    ∀ (j k : Nat), k ≤ n → n + 1 ≤ k + j → ∀ (H : Heap) (locs : List Loc) (ls : Array Slot), va_P (hk_D G) classes (wM G am u) H → va_D A (wM G am u) → va_S A s.heap H locs → lv_has ls 3 [(0, .ref (am 0)), (1, .int (li_M_others_4 u k)), (2, .int (nI k))] → W p l e rm_M_others s m ([.ref (am 0)] : List Value).toArray below meth c H locs 0 0 Q (F0 m 4 ls []) := by
  have hx := C.1
  have hb := C.2.1
  have hown := C.2.2.2.2.1
  have hts := C.2.2.2.2.2.1
  have hE := C.2.2.2.2.2.2.2
  intro j
  induction j with
  | zero =>
    intro k h1 h2
    exact absurd h2 (by omega)
  | succ j ih =>
    intro k hkn hj H locs ls hP hD hS hl
    refine lv_iload_n hx hb d_M_others_4 rfl (lv_at hl 2 rfl) ?_
    refine lv_bipush (v := (10 : Int32)) hx hb d_M_others_5 (by decide) ?_
    refine lv_icmp_ge (tgt := 38) hx hb d_M_others_7 (by decide) (fun c_0 => ?_) (fun c_0 => ?_)
    · obtain rfl := hk_exit (n := n) hbn hn hkn c_0
      exact kx H locs ls hP hD hS (lv_sub hl [0, 1, 2] rfl)
    · have hlt := hk_stay (n := n) hbn hn hkn c_0
      refine lv_iload_n hx hb d_M_others_10 rfl (lv_at hl 1 rfl) ?_
      refine lv_aload_n hx hb d_M_others_11 rfl (lv_at hl 0 rfl) ?_
      refine hk_get (v := .ref (am 13)) C hP 0 5 25 i_M rfl rfl (by decide) (hk_in (by decide +kernel) rfl) rfl d_M_others_12 ?_
      refine lv_iload_n hx hb d_M_others_15 rfl (lv_at hl 2 rfl) ?_
      refine hk_ild C hP 13 0 (v := (mg25 u) k) rfl rfl (vp_in_nI (by omega) (by decide)) (congrArg _ (nI_clamp (by omega))) d_M_others_16 ?_
      refine lv_aload_n hx hb d_M_others_17 rfl (lv_at hl 0 rfl) ?_
      refine lv_iload_n hx hb d_M_others_18 rfl (lv_at hl 2 rfl) ?_
      refine hk_goI (hk_kV (k := 1) (As := [.int (nI k)]) (rest := [.int ((mg25 u) k), .int (li_M_others_4 u k)]) C (c_M_value l G am u (nI k) (hk_d10 (by omega)) _) Y_M_value (hk_in (by decide +kernel) rfl) rfl rfl ⟨Nat.le_of_ble_eq_true rfl, Nat.le_of_ble_eq_true rfl⟩ (va_recv hE.1 hP (ci := 5) (q0 := 0) rfl rfl) hP hD rfl hl.1 rfl (Nat.le_of_ble_eq_true rfl) d_M_others_19 ⟨Nat.zero_le _, Nat.zero_le _⟩) hD hS hA (fun H locs hP hD hS => ?_)
      refine lv_icmp_eq (tgt := 29) hx hb d_M_others_22 (by decide) (fun c_1 => ?_) (fun c_1 => ?_)
      · skip
        refine lv_iconst (v := (0 : Int32)) hx hb d_M_others_29 (by decide) ?_
        refine lv_iadd hx hb d_M_others_30 ?_
        refine lv_istore_n (lv' := [(1, .int ((li_M_others_4 u k) + (0 : Int32))), (0, .ref (am 0)), (2, .int (nI k))]) hx hb d_M_others_31 rfl hl (by decide) rfl (fun ls hl => ?_)
        refine lv_iinc (v := nI (k + 1)) (lv' := [(2, .int (nI (k + 1))), (1, .int ((li_M_others_4 u k) + (0 : Int32))), (0, .ref (am 0))]) hx hb d_M_others_32 hl (k := 2) rfl (nI_1 k) (by decide) rfl (fun ls hl => ?_)
        refine lv_goto (tgt := 4) hx hb d_M_others_35 (by decide) ?_
        have e : li_M_others_4 u (k + 1) = (li_M_others_4 u k) + (0 : Int32) := (if_pos c_1).trans (rfl)
        exact ih (k + 1) hlt (by omega) _ _ _ hP hD hS (by rw [e]; exact lv_sub hl [2, 1, 0] rfl)
      · skip
        refine lv_iconst (v := (1 : Int32)) hx hb d_M_others_25 (by decide) ?_
        refine lv_goto (tgt := 30) hx hb d_M_others_26 (by decide) ?_
        refine lv_iadd hx hb d_M_others_30 ?_
        refine lv_istore_n (lv' := [(1, .int ((li_M_others_4 u k) + (1 : Int32))), (0, .ref (am 0)), (2, .int (nI k))]) hx hb d_M_others_31 rfl hl (by decide) rfl (fun ls hl => ?_)
        refine lv_iinc (v := nI (k + 1)) (lv' := [(2, .int (nI (k + 1))), (1, .int ((li_M_others_4 u k) + (1 : Int32))), (0, .ref (am 0))]) hx hb d_M_others_32 hl (k := 2) rfl (nI_1 k) (by decide) rfl (fun ls hl => ?_)
        refine lv_goto (tgt := 4) hx hb d_M_others_35 (by decide) ?_
        have e : li_M_others_4 u (k + 1) = (li_M_others_4 u k) + (1 : Int32) := (if_neg c_1).trans (rfl)
        exact ih (k + 1) hlt (by omega) _ _ _ hP hD hS (by rw [e]; exact lv_sub hl [2, 1, 0] rfl)
set_option maxHeartbeats 4000000 in
set_option maxRecDepth 100000 in
theorem c_M_others (l : Launch) (G : hk_G) (am : Nat → Nat) (u : cM) : hk_I l G y_M_others b_M_others 3 (some .int) rm_M_others [.ref (am 0)] (wM G am u) (m_M_others u) (wM G am u) := by
  refine hk_I_of (by decide) (Nat.le_of_ble_eq_true rfl) ?_
  intro p e s m below meth c A ls C hAe hA hP hD hS hl
  have hx := C.1
  have hb := C.2.1
  have hown := C.2.2.2.2.1
  have hts := C.2.2.2.2.2.1
  have hE := C.2.2.2.2.2.2.2
  have hl : lv_has ls 3 [(0, .ref (am 0))] := hl
  refine lv_iconst (v := (0 : Int32)) hx hb d_M_others_0 (by decide) ?_
  refine lv_istore_n (lv' := [(1, .int (0 : Int32)), (0, .ref (am 0))]) hx hb d_M_others_1 rfl hl (by decide) rfl (fun ls hl => ?_)
  refine lv_iconst (v := (0 : Int32)) hx hb d_M_others_2 (by decide) ?_
  refine lv_istore_n (lv' := [(2, .int (0 : Int32)), (1, .int (0 : Int32)), (0, .ref (am 0))]) hx hb d_M_others_3 rfl hl (by decide) rfl (fun ls hl => ?_)
  refine lp_M_others_4 G am u C hA 10 (by decide) rfl (by decide) (fun H locs ls hP hD hS hl => ?_) (10 + 1) 0 (Nat.zero_le _) (by omega) _ _ _ hP hD hS (lv_sub hl [2, 1, 0] rfl)
  refine lv_iload_n hx hb d_M_others_38 rfl (lv_at hl 1 rfl) ?_
  have e : m_M_others u = li_M_others_4 u 10 := rfl
  exact hk_ri C hAe hP hD hS e.symm rfl d_M_others_39
