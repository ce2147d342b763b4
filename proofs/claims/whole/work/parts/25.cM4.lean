set_option maxRecDepth 100000 in
theorem Y_M_load : hk_Y y_M_load b_M_load 3 (some .int) 2 := ⟨hk_in (by decide +kernel) rfl, hk_in (by decide +kernel) rfl, hk_in (by decide +kernel) rfl, hk_in (List.mem_of_getElem? (i := 676) rfl) rfl, by decide, by decide, by decide +kernel⟩
abbrev rm_M_load : Room := { frames := 1, cells := 0, slots := 0, locals := 22 }
set_option maxHeartbeats 4000000 in
set_option maxRecDepth 100000 in
theorem c_M_load (l : Launch) (G : hk_G) (am : Nat → Nat) (u : cM) (p1 : Int32) (p2 : Int32) (hI : IM u) (h01 : p2 = 0 ∨ p2 = 1) : hk_I l G y_M_load b_M_load 3 (some .int) rm_M_load [.ref (am 0), .int p1, .int p2] (wM G am u) ((m_M_load p1 p2 u).1) (wM G am ((m_M_load p1 p2 u).2)) := by
  refine hk_I_of (by decide) (Nat.le_of_ble_eq_true rfl) ?_
  intro p e s m below meth c A ls C hAe hA hP hD hS hl
  have hx := C.1
  have hb := C.2.1
  have hown := C.2.2.2.2.1
  have hts := C.2.2.2.2.2.1
  have hE := C.2.2.2.2.2.2.2
  have hl : lv_has ls 3 [(0, .ref (am 0)), (1, .int p1), (2, .int p2)] := hl
  refine lv_aload_n hx hb d_M_load_0 rfl (lv_at hl 0 rfl) ?_
  refine lv_iconst (v := (0 : Int32)) hx hb d_M_load_1 (by decide) ?_
  refine hk_put (w2 := wM G am (f_M_load_2 u)) (v := .int (0 : Int32)) (ty := .int) C hP hD hS 0 5 0 i_M t_M_ok n_M rfl rfl (by decide) (hk_in (by decide +kernel) rfl) rfl (by decide +kernel) rfl rfl (Nat.le_of_ble_eq_true rfl) rfl d_M_load_2 (fun H locs hP hD hS => ?_)
  have hI1 : IM (f_M_load_2 u) := (IM_of (k18_f_M_load_2 _) hI)
  obtain ⟨U1, hU1⟩ : ∃ z, (f_M_load_2 u) = z := ⟨_, rfl⟩
  rw [hU1] at hP hD hI1
  refine lv_iload_n hx hb d_M_load_5 rfl (lv_at hl 1 rfl) ?_
  refine lv_iconst (v := (0 : Int32)) hx hb d_M_load_6 (by decide) ?_
  refine lv_bipush (v := (9 : Int32)) hx hb d_M_load_7 (by decide) ?_
  refine hk_goIe (hk_kS (k := 3) (As := [.int p1, .int (0 : Int32), .int (9 : Int32)]) (rest := []) C (c_M_within l G p1 (0 : Int32) (9 : Int32) _) Y_M_within (hk_in (by decide +kernel) rfl) rfl rfl ⟨Nat.le_of_ble_eq_true rfl, Nat.le_of_ble_eq_true rfl⟩ hk_Pn (hk_Dn (A := A)) rfl hl.1 rfl (Nat.le_of_ble_eq_true rfl) d_M_load_9 ⟨Nat.zero_le _, Nat.zero_le _⟩) hP hS hA (fun H locs hP hS => ?_)
  refine lv_if_ne (tgt := 18) hx hb d_M_load_12 (by decide) (fun c_1 => ?_) (fun c_1 => ?_)
  · skip
    refine lv_aload_n hx hb d_M_load_18 rfl (lv_at hl 0 rfl) ?_
    refine hk_get (v := .int (mg18 U1)) C hP 0 5 18 i_M rfl rfl (by decide) (hk_in (by decide +kernel) rfl) rfl d_M_load_19 ?_
    refine lv_bipush (v := (12 : Int32)) hx hb d_M_load_22 (by decide) ?_
    refine lv_icmp_ne (tgt := 30) hx hb d_M_load_24 (by decide) (fun c_2 => ?_) (fun c_2 => ?_)
    · skip
      refine lv_aload_n hx hb d_M_load_30 rfl (lv_at hl 0 rfl) ?_
      refine lv_dup hx hb d_M_load_31 rfl ?_
      refine hk_get (v := .int (mg18 U1)) C hP 0 5 18 i_M rfl rfl (by decide) (hk_in (by decide +kernel) rfl) rfl d_M_load_32 ?_
      refine lv_iconst (v := (1 : Int32)) hx hb d_M_load_35 (by decide) ?_
      refine lv_iadd hx hb d_M_load_36 ?_
      refine hk_put (w2 := wM G am (f_M_load_37 U1)) (v := .int ((mg18 U1) + (1 : Int32))) (ty := .int) C hP hD hS 0 5 18 i_M t_M_ok n_M rfl rfl (by decide) (hk_in (by decide +kernel) rfl) rfl (by decide +kernel) rfl rfl (Nat.le_of_ble_eq_true rfl) rfl d_M_load_37 (fun H locs hP hD hS => ?_)
      obtain ⟨U2, hU2⟩ : ∃ z, (f_M_load_37 U1) = z := ⟨_, rfl⟩
      rw [hU2] at hP hD
      refine lv_aload_n hx hb d_M_load_40 rfl (lv_at hl 0 rfl) ?_
      refine hk_get (v := .ref (am 9)) C hP 0 5 19 i_M rfl rfl (by decide) (hk_in (by decide +kernel) rfl) rfl d_M_load_41 ?_
      refine lv_aload_n hx hb d_M_load_44 rfl (lv_at hl 0 rfl) ?_
      refine hk_get (v := .int (mg18 U2)) C hP 0 5 18 i_M rfl rfl (by decide) (hk_in (by decide +kernel) rfl) rfl d_M_load_45 ?_
      refine lv_iload_n hx hb d_M_load_48 rfl (lv_at hl 1 rfl) ?_
      refine hk_ist (w2 := wM G am (f_M_load_49 p1 U2)) C hP hD hS 9 0 rfl rfl (by subst hU1 hU2; exact hk_mL hI c_2) rfl d_M_load_49 (fun H locs hP hD hS => ?_)
      obtain ⟨U3, hU3⟩ : ∃ z, (f_M_load_49 p1 U2) = z := ⟨_, rfl⟩
      rw [hU3] at hP hD
      refine lv_aload_n hx hb d_M_load_50 rfl (lv_at hl 0 rfl) ?_
      refine hk_get (v := .ref (am 10)) C hP 0 5 20 i_M rfl rfl (by decide) (hk_in (by decide +kernel) rfl) rfl d_M_load_51 ?_
      refine lv_aload_n hx hb d_M_load_54 rfl (lv_at hl 0 rfl) ?_
      refine hk_get (v := .int (mg18 U3)) C hP 0 5 18 i_M rfl rfl (by decide) (hk_in (by decide +kernel) rfl) rfl d_M_load_55 ?_
      refine lv_iload_n hx hb d_M_load_58 rfl (lv_at hl 2 rfl) ?_
      refine hk_zst (w2 := wM G am (f_M_load_59 p2 U3)) C hP hD hS 10 1 rfl rfl (by subst hU1 hU2 hU3; exact hk_mL hI c_2) h01 rfl d_M_load_59 (fun H locs hP hD hS => ?_)
      obtain ⟨U4, hU4⟩ : ∃ z, (f_M_load_59 p2 U3) = z := ⟨_, rfl⟩
      rw [hU4] at hP hD
      refine lv_aload_n hx hb d_M_load_60 rfl (lv_at hl 0 rfl) ?_
      refine hk_get (v := .int (mg18 U4)) C hP 0 5 18 i_M rfl rfl (by decide) (hk_in (by decide +kernel) rfl) rfl d_M_load_61 ?_
      subst hU1 hU2 hU3 hU4
      have e : m_M_load p1 p2 u = (mg18 (f_M_load_59 p2 (f_M_load_49 p1 (f_M_load_37 (f_M_load_2 u)))), (f_M_load_59 p2 (f_M_load_49 p1 (f_M_load_37 (f_M_load_2 u))))) := (if_neg c_1).trans ((if_neg c_2).trans (rfl))
      exact hk_ri C hAe hP hD hS (by rw [e]) (by rw [e]) d_M_load_64
    · skip
      refine lv_bipush (v := (-4 : Int32)) hx hb d_M_load_27 (by decide) ?_
      subst hU1
      have e : m_M_load p1 p2 u = ((-4 : Int32), (f_M_load_2 u)) := (if_neg c_1).trans ((if_pos c_2).trans (rfl))
      exact hk_ri C hAe hP hD hS (by rw [e]) (by rw [e]) d_M_load_29
  · skip
    refine lv_bipush (v := (-2 : Int32)) hx hb d_M_load_15 (by decide) ?_
    subst hU1
    have e : m_M_load p1 p2 u = ((-2 : Int32), (f_M_load_2 u)) := (if_pos c_1).trans (rfl)
    exact hk_ri C hAe hP hD hS (by rw [e]) (by rw [e]) d_M_load_17
set_option maxRecDepth 100000 in
theorem Y_M_isOn : hk_Y y_M_isOn b_M_isOn 2 (some .int) 1 := ⟨hk_in (by decide +kernel) rfl, hk_in (by decide +kernel) rfl, hk_in (by decide +kernel) rfl, hk_in (List.mem_of_getElem? (i := 680) rfl) rfl, by decide, by decide, by decide +kernel⟩
abbrev rm_M_isOn : Room := { frames := 1, cells := 0, slots := 0, locals := 22 }
set_option maxHeartbeats 4000000 in
set_option maxRecDepth 100000 in
theorem c_M_isOn (l : Launch) (G : hk_G) (am : Nat → Nat) (u : cM) (p1 : Int32) (hI : IM u) : hk_I l G y_M_isOn b_M_isOn 2 (some .int) rm_M_isOn [.ref (am 0), .int p1] (wM G am u) ((m_M_isOn p1 u).1) (wM G am ((m_M_isOn p1 u).2)) := by
  refine hk_I_of (by decide) (Nat.le_of_ble_eq_true rfl) ?_
  intro p e s m below meth c A ls C hAe hA hP hD hS hl
  have hx := C.1
  have hb := C.2.1
  have hown := C.2.2.2.2.1
  have hts := C.2.2.2.2.2.1
  have hE := C.2.2.2.2.2.2.2
  have hl : lv_has ls 2 [(0, .ref (am 0)), (1, .int p1)] := hl
  refine lv_aload_n hx hb d_M_isOn_0 rfl (lv_at hl 0 rfl) ?_
  refine lv_iconst (v := (0 : Int32)) hx hb d_M_isOn_1 (by decide) ?_
  refine hk_put (w2 := wM G am (f_M_isOn_2 u)) (v := .int (0 : Int32)) (ty := .int) C hP hD hS 0 5 0 i_M t_M_ok n_M rfl rfl (by decide) (hk_in (by decide +kernel) rfl) rfl (by decide +kernel) rfl rfl (Nat.le_of_ble_eq_true rfl) rfl d_M_isOn_2 (fun H locs hP hD hS => ?_)
  have hI1 : IM (f_M_isOn_2 u) := (IM_of (k18_f_M_isOn_2 _) hI)
  obtain ⟨U1, hU1⟩ : ∃ z, (f_M_isOn_2 u) = z := ⟨_, rfl⟩
  rw [hU1] at hP hD hI1
  refine lv_iload_n hx hb d_M_isOn_5 rfl (lv_at hl 1 rfl) ?_
  refine lv_iconst (v := (1 : Int32)) hx hb d_M_isOn_6 (by decide) ?_
  refine lv_aload_n hx hb d_M_isOn_7 rfl (lv_at hl 0 rfl) ?_
  refine hk_get (v := .int (mg18 U1)) C hP 0 5 18 i_M rfl rfl (by decide) (hk_in (by decide +kernel) rfl) rfl d_M_isOn_8 ?_
  refine hk_goIe (hk_kS (k := 3) (As := [.int p1, .int (1 : Int32), .int (mg18 U1)]) (rest := []) C (c_M_within l G p1 (1 : Int32) (mg18 U1) _) Y_M_within (hk_in (by decide +kernel) rfl) rfl rfl ⟨Nat.le_of_ble_eq_true rfl, Nat.le_of_ble_eq_true rfl⟩ hk_Pn (hk_Dn (A := A)) rfl hl.1 rfl (Nat.le_of_ble_eq_true rfl) d_M_isOn_11 ⟨Nat.zero_le _, Nat.zero_le _⟩) hP hS hA (fun H locs hP hS => ?_)
  refine lv_if_ne (tgt := 19) hx hb d_M_isOn_14 (by decide) (fun c_1 => ?_) (fun c_1 => ?_)
  · skip
    refine lv_aload_n hx hb d_M_isOn_19 rfl (lv_at hl 0 rfl) ?_
    refine hk_get (v := .ref (am 11)) C hP 0 5 21 i_M rfl rfl (by decide) (hk_in (by decide +kernel) rfl) rfl d_M_isOn_20 ?_
    refine lv_iload_n hx hb d_M_isOn_23 rfl (lv_at hl 1 rfl) ?_
    refine hk_zld C hP 11 1 (v := (mg21 U1) p1.toNatClampNeg) rfl rfl (by subst hU1; exact hk_mO hI c_1) rfl d_M_isOn_24 ?_
    refine lv_if_eq (tgt := 32) hx hb d_M_isOn_25 (by decide) (fun c_2 => ?_) (fun c_2 => ?_)
    · skip
      refine lv_iconst (v := (1 : Int32)) hx hb d_M_isOn_32 (by decide) ?_
      subst hU1
      have e : m_M_isOn p1 u = ((1 : Int32), (f_M_isOn_2 u)) := (if_neg c_1).trans ((if_pos c_2).trans (rfl))
      exact hk_ri C hAe hP hD hS (by rw [e]) (by rw [e]) d_M_isOn_33
    · skip
      refine lv_iconst (v := (0 : Int32)) hx hb d_M_isOn_28 (by decide) ?_
      refine lv_goto (tgt := 33) hx hb d_M_isOn_29 (by decide) ?_
      subst hU1
      have e : m_M_isOn p1 u = ((0 : Int32), (f_M_isOn_2 u)) := (if_neg c_1).trans ((if_neg c_2).trans (rfl))
      exact hk_ri C hAe hP hD hS (by rw [e]) (by rw [e]) d_M_isOn_33
  · skip
    refine lv_iconst (v := (-1 : Int32)) hx hb d_M_isOn_17 (by decide) ?_
    subst hU1
    have e : m_M_isOn p1 u = ((-1 : Int32), (f_M_isOn_2 u)) := (if_pos c_1).trans (rfl)
    exact hk_ri C hAe hP hD hS (by rw [e]) (by rw [e]) d_M_isOn_18
set_option maxRecDepth 100000 in
theorem Y_M_putOff : hk_Y y_M_putOff b_M_putOff 3 none 0 := ⟨hk_in (by decide +kernel) rfl, hk_in (by decide +kernel) rfl, hk_in (by decide +kernel) rfl, hk_in (List.mem_of_getElem? (i := 688) rfl) rfl, by decide, by decide, by decide +kernel⟩
abbrev rm_M_putOff : Room := { frames := 0, cells := 0, slots := 0, locals := 0 }
set_option maxHeartbeats 4000000 in
set_option maxRecDepth 100000 in
theorem lp_M_putOff_4 {p : Program} {l : Launch} {e : Env} {s : State} {m : MethodId} {below : List Frame} {meth : Method} {c : Code} {A : Nat → Prop} {Q : State → Prop} (G : hk_G) (am : Nat → Nat) (u : cM) (hI : IM u) (C : hk_C p s m meth c R_M b_M_putOff 3 none ([.ref (am 0)] : List Value).toArray G) (hA : ∀ q : Nat, s.heap.size ≤ q → A q) (n : Nat) (hn : n < 2 ^ 31 - 1) (hbn : mg18 u = nI n) (hn12 : n ≤ 12)
    (kx : ∀ (H : Heap) (locs : List Loc) (ls : Array Slot), va_P (hk_D G) classes (wM G am u) H → va_D A (wM G am u) → va_S A s.heap H locs → lv_has ls 3 [(0, .ref (am 0)), (1, .int (li_M_putOff_4 u n)), (2, .int (nI (n + 1)))] → W p l e rm_M_putOff s m ([.ref (am 0)] : List Value).toArray below meth c H locs 0 0 Q (F0 m 57 ls [])) :
    ∀ (j k : Nat), k ≤ n → n + 1 ≤ k + j → ∀ (H : Heap) (locs : List Loc) (ls : Array Slot), va_P (hk_D G) classes (wM G am u) H → va_D A (wM G am u) → va_S A s.heap H locs → lv_has ls 3 [(0, .ref (am 0)), (1, .int (li_M_putOff_4 u k)), (2, .int (nI (k + 1)))] → W p l e rm_M_putOff s m ([.ref (am 0)] : List Value).toArray below meth c H locs 0 0 Q (F0 m 4 ls []) := by
  have hx := C.1
  have hb := C.2.1
  have hown := C.2.2.2.2.1
  have hts := C.2.2.2.2.2.1
  have hE := C.2.2.2.2.2.2.2
  intro j
  induction j with
  | zero =>
    intro k h1 h2
    exact absurd h2 (by omega)
  | succ j ih =>
    intro k hkn hj H locs ls hP hD hS hl
    refine lv_iload_n hx hb d_M_putOff_4 rfl (lv_at hl 2 rfl) ?_
    refine lv_aload_n hx hb d_M_putOff_5 rfl (lv_at hl 0 rfl) ?_
    refine hk_get (v := .int (mg18 u)) C hP 0 5 18 i_M rfl rfl (by decide) (hk_in (by decide +kernel) rfl) rfl d_M_putOff_6 ?_
    refine lv_icmp_gt (tgt := 57) hx hb d_M_putOff_9 (by decide) (fun c_0 => ?_) (fun c_0 => ?_)
    · obtain rfl := hk_exit1 (n := n) hbn hn hkn c_0
      exact kx H locs ls hP hD hS (lv_sub hl [0, 1, 2] rfl)
    · have hlt := hk_stay1 (n := n) hbn hn hkn c_0
      have hf := fm_off u k (by omega)
      refine lv_aload_n hx hb d_M_putOff_12 rfl (lv_at hl 0 rfl) ?_
      refine hk_get (v := .ref (am 11)) C hP 0 5 21 i_M rfl rfl (by decide) (hk_in (by decide +kernel) rfl) rfl d_M_putOff_13 ?_
      refine lv_iload_n hx hb d_M_putOff_16 rfl (lv_at hl 2 rfl) ?_
      refine hk_zld C hP 11 1 (v := (mg21 u) (k + 1)) rfl rfl (vp_in_nI (by omega) (by decide)) (congrArg _ (nI_clamp (by omega))) d_M_putOff_17 ?_
      refine lv_if_ne (tgt := 51) hx hb d_M_putOff_18 (by decide) (fun c_1 => ?_) (fun c_1 => ?_)
      · skip
        refine lv_iinc (v := nI ((k + 1) + 1)) (lv' := [(2, .int (nI ((k + 1) + 1))), (0, .ref (am 0)), (1, .int (li_M_putOff_4 u k))]) hx hb d_M_putOff_51 hl (k := 2) rfl (nI_1 (k + 1)) (by decide) rfl (fun ls hl => ?_)
        refine lv_goto (tgt := 4) hx hb d_M_putOff_54 (by decide) ?_
        have e : li_M_putOff_4 u (k + 1) = (li_M_putOff_4 u k) := (if_neg c_1).trans (rfl)
        exact ih (k + 1) hlt (by omega) _ _ _ hP hD hS (by rw [e]; exact lv_sub hl [1, 2, 0] rfl)
      · skip
        refine lv_aload_n hx hb d_M_putOff_21 rfl (lv_at hl 0 rfl) ?_
        refine hk_get (v := .ref (am 10)) C hP 0 5 20 i_M rfl rfl (by decide) (hk_in (by decide +kernel) rfl) rfl d_M_putOff_22 ?_
        refine lv_iload_n hx hb d_M_putOff_25 rfl (lv_at hl 2 rfl) ?_
        refine hk_zld C hP 10 1 (v := (mg20 u) (k + 1)) rfl rfl (vp_in_nI (by omega) (by decide)) (congrArg _ (nI_clamp (by omega))) d_M_putOff_26 ?_
        refine lv_if_ne (tgt := 51) hx hb d_M_putOff_27 (by decide) (fun c_2 => ?_) (fun c_2 => ?_)
        · skip
          refine lv_iinc (v := nI ((k + 1) + 1)) (lv' := [(2, .int (nI ((k + 1) + 1))), (0, .ref (am 0)), (1, .int (li_M_putOff_4 u k))]) hx hb d_M_putOff_51 hl (k := 2) rfl (nI_1 (k + 1)) (by decide) rfl (fun ls hl => ?_)
          refine lv_goto (tgt := 4) hx hb d_M_putOff_54 (by decide) ?_
          have e : li_M_putOff_4 u (k + 1) = (li_M_putOff_4 u k) := (if_pos c_1).trans ((if_neg c_2).trans (rfl))
          exact ih (k + 1) hlt (by omega) _ _ _ hP hD hS (by rw [e]; exact lv_sub hl [1, 2, 0] rfl)
        · skip
          refine lv_iload_n hx hb d_M_putOff_30 rfl (lv_at hl 1 rfl) ?_
          refine lv_if_eq (tgt := 49) hx hb d_M_putOff_31 (by decide) (fun c_3 => ?_) (fun c_3 => ?_)
          · skip
            refine lv_iload_n hx hb d_M_putOff_49 rfl (lv_at hl 2 rfl) ?_
            refine lv_istore_n (lv' := [(1, .int (nI (k + 1))), (0, .ref (am 0)), (2, .int (nI (k + 1)))]) hx hb d_M_putOff_50 rfl hl (by decide) rfl (fun ls hl => ?_)
            refine lv_iinc (v := nI ((k + 1) + 1)) (lv' := [(2, .int (nI ((k + 1) + 1))), (1, .int (nI (k + 1))), (0, .ref (am 0))]) hx hb d_M_putOff_51 hl (k := 2) rfl (nI_1 (k + 1)) (by decide) rfl (fun ls hl => ?_)
            refine lv_goto (tgt := 4) hx hb d_M_putOff_54 (by decide) ?_
            have e : li_M_putOff_4 u (k + 1) = nI (k + 1) := (if_pos c_1).trans ((if_pos c_2).trans ((if_pos c_3).trans (rfl)))
            exact ih (k + 1) hlt (by omega) _ _ _ hP hD hS (by rw [e]; exact lv_sub hl [2, 1, 0] rfl)
          · skip
            refine lv_aload_n hx hb d_M_putOff_34 rfl (lv_at hl 0 rfl) ?_
            refine hk_get (v := .ref (am 9)) C hP 0 5 19 i_M rfl rfl (by decide) (hk_in (by decide +kernel) rfl) rfl d_M_putOff_35 ?_
            refine lv_iload_n hx hb d_M_putOff_38 rfl (lv_at hl 2 rfl) ?_
            refine hk_ild C hP 9 0 (v := (mg19 u) (k + 1)) rfl rfl (vp_in_nI (by omega) (by decide)) (congrArg _ (nI_clamp (by omega))) d_M_putOff_39 ?_
            refine lv_aload_n hx hb d_M_putOff_40 rfl (lv_at hl 0 rfl) ?_
            refine hk_get (v := .ref (am 9)) C hP 0 5 19 i_M rfl rfl (by decide) (hk_in (by decide +kernel) rfl) rfl d_M_putOff_41 ?_
            refine lv_iload_n hx hb d_M_putOff_44 rfl (lv_at hl 1 rfl) ?_
            refine hk_ild C hP 9 0 (v := (mg19 u) (li_M_putOff_4 u k).toNatClampNeg) rfl rfl (hk_m13 hf) rfl d_M_putOff_45 ?_
            refine lv_icmp_lt (tgt := 51) hx hb d_M_putOff_46 (by decide) (fun c_4 => ?_) (fun c_4 => ?_)
            · skip
              refine lv_iinc (v := nI ((k + 1) + 1)) (lv' := [(2, .int (nI ((k + 1) + 1))), (0, .ref (am 0)), (1, .int (li_M_putOff_4 u k))]) hx hb d_M_putOff_51 hl (k := 2) rfl (nI_1 (k + 1)) (by decide) rfl (fun ls hl => ?_)
              refine lv_goto (tgt := 4) hx hb d_M_putOff_54 (by decide) ?_
              have e : li_M_putOff_4 u (k + 1) = (li_M_putOff_4 u k) := (if_pos c_1).trans ((if_pos c_2).trans ((if_neg c_3).trans ((if_pos c_4).trans (rfl))))
              exact ih (k + 1) hlt (by omega) _ _ _ hP hD hS (by rw [e]; exact lv_sub hl [1, 2, 0] rfl)
            · skip
              refine lv_iload_n hx hb d_M_putOff_49 rfl (lv_at hl 2 rfl) ?_
              refine lv_istore_n (lv' := [(1, .int (nI (k + 1))), (0, .ref (am 0)), (2, .int (nI (k + 1)))]) hx hb d_M_putOff_50 rfl hl (by decide) rfl (fun ls hl => ?_)
              refine lv_iinc (v := nI ((k + 1) + 1)) (lv' := [(2, .int (nI ((k + 1) + 1))), (1, .int (nI (k + 1))), (0, .ref (am 0))]) hx hb d_M_putOff_51 hl (k := 2) rfl (nI_1 (k + 1)) (by decide) rfl (fun ls hl => ?_)
              refine lv_goto (tgt := 4) hx hb d_M_putOff_54 (by decide) ?_
              have e : li_M_putOff_4 u (k + 1) = nI (k + 1) := (if_pos c_1).trans ((if_pos c_2).trans ((if_neg c_3).trans ((if_neg c_4).trans (rfl))))
              exact ih (k + 1) hlt (by omega) _ _ _ hP hD hS (by rw [e]; exact lv_sub hl [2, 1, 0] rfl)
set_option maxHeartbeats 4000000 in
set_option maxRecDepth 100000 in
theorem c_M_putOff (l : Launch) (G : hk_G) (am : Nat → Nat) (u : cM) (hI : IM u) : hk_V l G y_M_putOff b_M_putOff 3 rm_M_putOff [.ref (am 0)] (wM G am u) (wM G am (m_M_putOff u)) := by
  refine hk_V_of (by decide) (Nat.le_of_ble_eq_true rfl) ?_
  intro p e s m below meth c A ls C hAe hA hP hD hS hl
  have hx := C.1
  have hb := C.2.1
  have hown := C.2.2.2.2.1
  have hts := C.2.2.2.2.2.1
  have hE := C.2.2.2.2.2.2.2
  have hl : lv_has ls 3 [(0, .ref (am 0))] := hl
  refine lv_iconst (v := (0 : Int32)) hx hb d_M_putOff_0 (by decide) ?_
  refine lv_istore_n (lv' := [(1, .int (0 : Int32)), (0, .ref (am 0))]) hx hb d_M_putOff_1 rfl hl (by decide) rfl (fun ls hl => ?_)
  refine lv_iconst (v := (1 : Int32)) hx hb d_M_putOff_2 (by decide) ?_
  refine lv_istore_n (lv' := [(2, .int (1 : Int32)), (1, .int (0 : Int32)), (0, .ref (am 0))]) hx hb d_M_putOff_3 rfl hl (by decide) rfl (fun ls hl => ?_)
  refine lp_M_putOff_4 G am u hI C hA ((mg18 u).toNatClampNeg) (Nat.lt_of_le_of_lt hI.1 (by decide)) hI.2 hI.1 (fun H locs ls hP hD hS hl => ?_) (((mg18 u).toNatClampNeg) + 1) 0 (Nat.zero_le _) (by omega) _ _ _ hP hD hS (lv_sub hl [2, 1, 0] rfl)
  refine lv_aload_n hx hb d_M_putOff_57 rfl (lv_at hl 0 rfl) ?_
  refine hk_get (v := .ref (am 11)) C hP 0 5 21 i_M rfl rfl (by decide) (hk_in (by decide +kernel) rfl) rfl d_M_putOff_58 ?_
  refine lv_iload_n hx hb d_M_putOff_61 rfl (lv_at hl 1 rfl) ?_
  refine lv_iload_n hx hb d_M_putOff_62 rfl (lv_at hl 1 rfl) ?_
  refine lv_if_le (tgt := 70) hx hb d_M_putOff_63 (by decide) (fun c_1 => ?_) (fun c_1 => ?_)
  · skip
    refine lv_iconst (v := (0 : Int32)) hx hb d_M_putOff_70 (by decide) ?_
    refine hk_zst (w2 := wM G am (f_M_putOff_71 u)) C hP hD hS 11 1 rfl rfl (hk_m13 (fm_off u _ hI.1)) (Or.inl rfl) rfl d_M_putOff_71 (fun H locs hP hD hS => ?_)
    have hI1 : IM (f_M_putOff_71 u) := (IM_of (k18_f_M_putOff_71 _) hI)
    obtain ⟨U1, hU1⟩ : ∃ z, (f_M_putOff_71 u) = z := ⟨_, rfl⟩
    rw [hU1] at hP hD hI1
    subst hU1
    have e : m_M_putOff u = (f_M_putOff_71 u) := (if_pos c_1).trans (rfl)
    exact hk_rv C hAe hP hD hS (by rw [e]) d_M_putOff_72
  · skip
    refine lv_iconst (v := (1 : Int32)) hx hb d_M_putOff_66 (by decide) ?_
    refine lv_goto (tgt := 71) hx hb d_M_putOff_67 (by decide) ?_
    refine hk_zst (w2 := wM G am (f_M_putOff_71_1 u)) C hP hD hS 11 1 rfl rfl (hk_m13 (fm_off u _ hI.1)) (Or.inr rfl) rfl d_M_putOff_71 (fun H locs hP hD hS => ?_)
    have hI2 : IM (f_M_putOff_71_1 u) := (IM_of (k18_f_M_putOff_71_1 _) hI)
    obtain ⟨U2, hU2⟩ : ∃ z, (f_M_putOff_71_1 u) = z := ⟨_, rfl⟩
    rw [hU2] at hP hD hI2
    subst hU2
    have e : m_M_putOff u = (f_M_putOff_71_1 u) := (if_neg c_1).trans (rfl)
    exact hk_rv C hAe hP hD hS (by rw [e]) d_M_putOff_72
set_option maxRecDepth 100000 in
theorem Y_M_putOn : hk_Y y_M_putOn b_M_putOn 3 none 0 := ⟨hk_in (by decide +kernel) rfl, hk_in (by decide +kernel) rfl, hk_in (by decide +kernel) rfl, hk_in (List.mem_of_getElem? (i := 692) rfl) rfl, by decide, by decide, by decide +kernel⟩
abbrev rm_M_putOn : Room := { frames := 0, cells := 0, slots := 0, locals := 0 }
set_option maxHeartbeats 4000000 in
set_option maxRecDepth 100000 in
theorem lp_M_putOn_4 {p : Program} {l : Launch} {e : Env} {s : State} {m : MethodId} {below : List Frame} {meth : Method} {c : Code} {A : Nat → Prop} {Q : State → Prop} (G : hk_G) (am : Nat → Nat) (u : cM) (hI : IM u) (C : hk_C p s m meth c R_M b_M_putOn 3 none ([.ref (am 0)] : List Value).toArray G) (hA : ∀ q : Nat, s.heap.size ≤ q → A q) (n : Nat) (hn : n < 2 ^ 31 - 1) (hbn : mg18 u = nI n) (hn12 : n ≤ 12)
    (kx : ∀ (H : Heap) (locs : List Loc) (ls : Array Slot), va_P (hk_D G) classes (wM G am u) H → va_D A (wM G am u) → va_S A s.heap H locs → lv_has ls 3 [(0, .ref (am 0)), (1, .int (li_M_putOn_4 u n)), (2, .int (nI (n + 1)))] → W p l e rm_M_putOn s m ([.ref (am 0)] : List Value).toArray below meth c H locs 0 0 Q (F0 m 48 ls [])) :
    ∀ (j k : Nat), k ≤ n → n + 1 ≤ k + j → ∀ (H : Heap) (locs : List Loc) (ls : Array Slot), va_P (hk_D G) classes (wM G am u) H → va_D A (wM G am u) → va_S A s.heap H locs → lv_has ls 3 [(0, .ref (am 0)), (1, .int (li_M_putOn_4 u k)), (2, .int (nI (k + 1)))] → W p l e rm_M_putOn s m ([.ref (am 0)] : List Value).toArray below meth c H locs 0 0 Q (F0 m 4 ls []) := by
  have hx := C.1
  have hb := C.2.1
  have hown := C.2.2.2.2.1
  have hts := C.2.2.2.2.2.1
  have hE := C.2.2.2.2.2.2.2
  intro j
  induction j with
  | zero =>
    intro k h1 h2
    exact absurd h2 (by omega)
  | succ j ih =>
    intro k hkn hj H locs ls hP hD hS hl
    refine lv_iload_n hx hb d_M_putOn_4 rfl (lv_at hl 2 rfl) ?_
    refine lv_aload_n hx hb d_M_putOn_5 rfl (lv_at hl 0 rfl) ?_
    refine hk_get (v := .int (mg18 u)) C hP 0 5 18 i_M rfl rfl (by decide) (hk_in (by decide +kernel) rfl) rfl d_M_putOn_6 ?_
    refine lv_icmp_gt (tgt := 48) hx hb d_M_putOn_9 (by decide) (fun c_0 => ?_) (fun c_0 => ?_)
    · obtain rfl := hk_exit1 (n := n) hbn hn hkn c_0
      exact kx H locs ls hP hD hS (lv_sub hl [0, 1, 2] rfl)
    · have hlt := hk_stay1 (n := n) hbn hn hkn c_0
      have hf := fm_on u k (by omega)
      refine lv_aload_n hx hb d_M_putOn_12 rfl (lv_at hl 0 rfl) ?_
      refine hk_get (v := .ref (am 11)) C hP 0 5 21 i_M rfl rfl (by decide) (hk_in (by decide +kernel) rfl) rfl d_M_putOn_13 ?_
      refine lv_iload_n hx hb d_M_putOn_16 rfl (lv_at hl 2 rfl) ?_
      refine hk_zld C hP 11 1 (v := (mg21 u) (k + 1)) rfl rfl (vp_in_nI (by omega) (by decide)) (congrArg _ (nI_clamp (by omega))) d_M_putOn_17 ?_
      refine lv_if_eq (tgt := 42) hx hb d_M_putOn_18 (by decide) (fun c_1 => ?_) (fun c_1 => ?_)
      · skip
        refine lv_iinc (v := nI ((k + 1) + 1)) (lv' := [(2, .int (nI ((k + 1) + 1))), (0, .ref (am 0)), (1, .int (li_M_putOn_4 u k))]) hx hb d_M_putOn_42 hl (k := 2) rfl (nI_1 (k + 1)) (by decide) rfl (fun ls hl => ?_)
        refine lv_goto (tgt := 4) hx hb d_M_putOn_45 (by decide) ?_
        have e : li_M_putOn_4 u (k + 1) = (li_M_putOn_4 u k) := (if_pos c_1).trans (rfl)
        exact ih (k + 1) hlt (by omega) _ _ _ hP hD hS (by rw [e]; exact lv_sub hl [1, 2, 0] rfl)
      · skip
        refine lv_iload_n hx hb d_M_putOn_21 rfl (lv_at hl 1 rfl) ?_
        refine lv_if_eq (tgt := 40) hx hb d_M_putOn_22 (by decide) (fun c_2 => ?_) (fun c_2 => ?_)
        · skip
          refine lv_iload_n hx hb d_M_putOn_40 rfl (lv_at hl 2 rfl) ?_
          refine lv_istore_n (lv' := [(1, .int (nI (k + 1))), (0, .ref (am 0)), (2, .int (nI (k + 1)))]) hx hb d_M_putOn_41 rfl hl (by decide) rfl (fun ls hl => ?_)
          refine lv_iinc (v := nI ((k + 1) + 1)) (lv' := [(2, .int (nI ((k + 1) + 1))), (1, .int (nI (k + 1))), (0, .ref (am 0))]) hx hb d_M_putOn_42 hl (k := 2) rfl (nI_1 (k + 1)) (by decide) rfl (fun ls hl => ?_)
          refine lv_goto (tgt := 4) hx hb d_M_putOn_45 (by decide) ?_
          have e : li_M_putOn_4 u (k + 1) = nI (k + 1) := (if_neg c_1).trans ((if_pos c_2).trans (rfl))
          exact ih (k + 1) hlt (by omega) _ _ _ hP hD hS (by rw [e]; exact lv_sub hl [2, 1, 0] rfl)
        · skip
          refine lv_aload_n hx hb d_M_putOn_25 rfl (lv_at hl 0 rfl) ?_
          refine hk_get (v := .ref (am 9)) C hP 0 5 19 i_M rfl rfl (by decide) (hk_in (by decide +kernel) rfl) rfl d_M_putOn_26 ?_
          refine lv_iload_n hx hb d_M_putOn_29 rfl (lv_at hl 2 rfl) ?_
          refine hk_ild C hP 9 0 (v := (mg19 u) (k + 1)) rfl rfl (vp_in_nI (by omega) (by decide)) (congrArg _ (nI_clamp (by omega))) d_M_putOn_30 ?_
          refine lv_aload_n hx hb d_M_putOn_31 rfl (lv_at hl 0 rfl) ?_
          refine hk_get (v := .ref (am 9)) C hP 0 5 19 i_M rfl rfl (by decide) (hk_in (by decide +kernel) rfl) rfl d_M_putOn_32 ?_
          refine lv_iload_n hx hb d_M_putOn_35 rfl (lv_at hl 1 rfl) ?_
          refine hk_ild C hP 9 0 (v := (mg19 u) (li_M_putOn_4 u k).toNatClampNeg) rfl rfl (hk_m13 hf) rfl d_M_putOn_36 ?_
          refine lv_icmp_ge (tgt := 42) hx hb d_M_putOn_37 (by decide) (fun c_3 => ?_) (fun c_3 => ?_)
          · skip
            refine lv_iinc (v := nI ((k + 1) + 1)) (lv' := [(2, .int (nI ((k + 1) + 1))), (0, .ref (am 0)), (1, .int (li_M_putOn_4 u k))]) hx hb d_M_putOn_42 hl (k := 2) rfl (nI_1 (k + 1)) (by decide) rfl (fun ls hl => ?_)
            refine lv_goto (tgt := 4) hx hb d_M_putOn_45 (by decide) ?_
            have e : li_M_putOn_4 u (k + 1) = (li_M_putOn_4 u k) := (if_neg c_1).trans ((if_neg c_2).trans ((if_pos c_3).trans (rfl)))
            exact ih (k + 1) hlt (by omega) _ _ _ hP hD hS (by rw [e]; exact lv_sub hl [1, 2, 0] rfl)
          · skip
            refine lv_iload_n hx hb d_M_putOn_40 rfl (lv_at hl 2 rfl) ?_
            refine lv_istore_n (lv' := [(1, .int (nI (k + 1))), (0, .ref (am 0)), (2, .int (nI (k + 1)))]) hx hb d_M_putOn_41 rfl hl (by decide) rfl (fun ls hl => ?_)
            refine lv_iinc (v := nI ((k + 1) + 1)) (lv' := [(2, .int (nI ((k + 1) + 1))), (1, .int (nI (k + 1))), (0, .ref (am 0))]) hx hb d_M_putOn_42 hl (k := 2) rfl (nI_1 (k + 1)) (by decide) rfl (fun ls hl => ?_)
            refine lv_goto (tgt := 4) hx hb d_M_putOn_45 (by decide) ?_
            have e : li_M_putOn_4 u (k + 1) = nI (k + 1) := (if_neg c_1).trans ((if_neg c_2).trans ((if_neg c_3).trans (rfl)))
            exact ih (k + 1) hlt (by omega) _ _ _ hP hD hS (by rw [e]; exact lv_sub hl [2, 1, 0] rfl)
set_option maxHeartbeats 4000000 in
set_option maxRecDepth 100000 in
theorem c_M_putOn (l : Launch) (G : hk_G) (am : Nat → Nat) (u : cM) (hI : IM u) : hk_V l G y_M_putOn b_M_putOn 3 rm_M_putOn [.ref (am 0)] (wM G am u) (wM G am (m_M_putOn u)) := by
  refine hk_V_of (by decide) (Nat.le_of_ble_eq_true rfl) ?_
  intro p e s m below meth c A ls C hAe hA hP hD hS hl
  have hx := C.1
  have hb := C.2.1
  have hown := C.2.2.2.2.1
  have hts := C.2.2.2.2.2.1
  have hE := C.2.2.2.2.2.2.2
  have hl : lv_has ls 3 [(0, .ref (am 0))] := hl
  refine lv_iconst (v := (0 : Int32)) hx hb d_M_putOn_0 (by decide) ?_
  refine lv_istore_n (lv' := [(1, .int (0 : Int32)), (0, .ref (am 0))]) hx hb d_M_putOn_1 rfl hl (by decide) rfl (fun ls hl => ?_)
  refine lv_iconst (v := (1 : Int32)) hx hb d_M_putOn_2 (by decide) ?_
  refine lv_istore_n (lv' := [(2, .int (1 : Int32)), (1, .int (0 : Int32)), (0, .ref (am 0))]) hx hb d_M_putOn_3 rfl hl (by decide) rfl (fun ls hl => ?_)
  refine lp_M_putOn_4 G am u hI C hA ((mg18 u).toNatClampNeg) (Nat.lt_of_le_of_lt hI.1 (by decide)) hI.2 hI.1 (fun H locs ls hP hD hS hl => ?_) (((mg18 u).toNatClampNeg) + 1) 0 (Nat.zero_le _) (by omega) _ _ _ hP hD hS (lv_sub hl [2, 1, 0] rfl)
  refine lv_aload_n hx hb d_M_putOn_48 rfl (lv_at hl 0 rfl) ?_
  refine hk_get (v := .ref (am 11)) C hP 0 5 21 i_M rfl rfl (by decide) (hk_in (by decide +kernel) rfl) rfl d_M_putOn_49 ?_
  refine lv_iload_n hx hb d_M_putOn_52 rfl (lv_at hl 1 rfl) ?_
  refine lv_iconst (v := (0 : Int32)) hx hb d_M_putOn_53 (by decide) ?_
  refine hk_zst (w2 := wM G am (f_M_putOn_54 u)) C hP hD hS 11 1 rfl rfl (hk_m13 (fm_on u _ hI.1)) (Or.inl rfl) rfl d_M_putOn_54 (fun H locs hP hD hS => ?_)
  have hI1 : IM (f_M_putOn_54 u) := (IM_of (k18_f_M_putOn_54 _) hI)
  obtain ⟨U1, hU1⟩ : ∃ z, (f_M_putOn_54 u) = z := ⟨_, rfl⟩
  rw [hU1] at hP hD hI1
  subst hU1
  have e : m_M_putOn u = (f_M_putOn_54 u) := rfl
  exact hk_rv C hAe hP hD hS (by rw [e]) d_M_putOn_55
set_option maxRecDepth 100000 in
theorem Y_M_shed : hk_Y y_M_shed b_M_shed 4 (some .int) 1 := ⟨hk_in (by decide +kernel) rfl, hk_in (by decide +kernel) rfl, hk_in (by decide +kernel) rfl, hk_in (List.mem_of_getElem? (i := 684) rfl) rfl, by decide, by decide, by decide +kernel⟩
abbrev rm_M_shed : Room := { frames := 1, cells := 0, slots := 0, locals := 22 }
set_option maxHeartbeats 4000000 in
set_option maxRecDepth 100000 in
theorem lp_M_shed_99 {p : Program} {l : Launch} {e : Env} {s : State} {m : MethodId} {below : List Frame} {meth : Method} {c : Code} {A : Nat → Prop} {Q : State → Prop} (G : hk_G) (am : Nat → Nat) (u : cM) (p1 : Int32) (hI : IM u) (C : hk_C p s m meth c R_M b_M_shed 4 (some .int) ([.ref (am 0), .int p1] : List Value).toArray G) (hA : ∀ q : Nat, s.heap.size ≤ q → A q) (n : Nat) (hn : n < 2 ^ 31 - 1) (hbn : mg18 u = nI n) (hn12 : n ≤ 12)
    (kx : ∀ (H : Heap) (locs : List Loc) (ls : Array Slot), va_P (hk_D G) classes (wM G am u) H → va_D A (wM G am u) → va_S A s.heap H locs → lv_has ls 4 [(0, .ref (am 0)), (1, .int p1), (2, .int (li_M_shed_99 p1 u n)), (3, .int (nI (n + 1)))] → W p l e rm_M_shed s m ([.ref (am 0), .int p1] : List Value).toArray below meth c H locs 0 0 Q (F0 m 130 ls [])) :
    ∀ (j k : Nat), k ≤ n → n + 1 ≤ k + j → ∀ (H : Heap) (locs : List Loc) (ls : Array Slot), va_P (hk_D G) classes (wM G am u) H → va_D A (wM G am u) → va_S A s.heap H locs → lv_has ls 4 [(0, .ref (am 0)), (1, .int p1), (2, .int (li_M_shed_99 p1 u k)), (3, .int (nI (k + 1)))] → W p l e rm_M_shed s m ([.ref (am 0), .int p1] : List Value).toArray below meth c H locs 0 0 Q (F0 m 99 ls []) := by
  have hx := C.1
  have hb := C.2.1
  have hown := C.2.2.2.2.1
  have hts := C.2.2.2.2.2.1
  have hE := C.2.2.2.2.2.2.2
  intro j
  induction j with
  | zero =>
    intro k h1 h2
    exact absurd h2 (by omega)
  | succ j ih =>
    intro k hkn hj H locs ls hP hD hS hl
    refine lv_iload_n hx hb d_M_shed_99 rfl (lv_at hl 3 rfl) ?_
    refine lv_aload_n hx hb d_M_shed_100 rfl (lv_at hl 0 rfl) ?_
    refine hk_get (v := .int (mg18 u)) C hP 0 5 18 i_M rfl rfl (by decide) (hk_in (by decide +kernel) rfl) rfl d_M_shed_101 ?_
    refine lv_icmp_gt (tgt := 130) hx hb d_M_shed_104 (by decide) (fun c_0 => ?_) (fun c_0 => ?_)
    · obtain rfl := hk_exit1 (n := n) hbn hn hkn c_0
      exact kx H locs ls hP hD hS (lv_sub hl [0, 1, 2, 3] rfl)
    · have hlt := hk_stay1 (n := n) hbn hn hkn c_0
      refine lv_iload_n hx hb d_M_shed_107 rfl (lv_at hl 2 rfl) ?_
      refine lv_aload_n hx hb d_M_shed_108 rfl (lv_at hl 0 rfl) ?_
      refine hk_get (v := .ref (am 11)) C hP 0 5 21 i_M rfl rfl (by decide) (hk_in (by decide +kernel) rfl) rfl d_M_shed_109 ?_
      refine lv_iload_n hx hb d_M_shed_112 rfl (lv_at hl 3 rfl) ?_
      refine hk_zld C hP 11 1 (v := (mg21 u) (k + 1)) rfl rfl (vp_in_nI (by omega) (by decide)) (congrArg _ (nI_clamp (by omega))) d_M_shed_113 ?_
      refine lv_if_eq (tgt := 121) hx hb d_M_shed_114 (by decide) (fun c_1 => ?_) (fun c_1 => ?_)
      · skip
        refine lv_iconst (v := (0 : Int32)) hx hb d_M_shed_121 (by decide) ?_
        refine lv_iadd hx hb d_M_shed_122 ?_
        refine lv_istore_n (lv' := [(2, .int ((li_M_shed_99 p1 u k) + (0 : Int32))), (0, .ref (am 0)), (1, .int p1), (3, .int (nI (k + 1)))]) hx hb d_M_shed_123 rfl hl (by decide) rfl (fun ls hl => ?_)
        refine lv_iinc (v := nI ((k + 1) + 1)) (lv' := [(3, .int (nI ((k + 1) + 1))), (2, .int ((li_M_shed_99 p1 u k) + (0 : Int32))), (0, .ref (am 0)), (1, .int p1)]) hx hb d_M_shed_124 hl (k := 3) rfl (nI_1 (k + 1)) (by decide) rfl (fun ls hl => ?_)
        refine lv_goto (tgt := 99) hx hb d_M_shed_127 (by decide) ?_
        have e : li_M_shed_99 p1 u (k + 1) = (li_M_shed_99 p1 u k) + (0 : Int32) := (if_pos c_1).trans (rfl)
        exact ih (k + 1) hlt (by omega) _ _ _ hP hD hS (by rw [e]; exact lv_sub hl [2, 3, 1, 0] rfl)
      · skip
        refine lv_iconst (v := (1 : Int32)) hx hb d_M_shed_117 (by decide) ?_
        refine lv_goto (tgt := 122) hx hb d_M_shed_118 (by decide) ?_
        refine lv_iadd hx hb d_M_shed_122 ?_
        refine lv_istore_n (lv' := [(2, .int ((li_M_shed_99 p1 u k) + (1 : Int32))), (0, .ref (am 0)), (1, .int p1), (3, .int (nI (k + 1)))]) hx hb d_M_shed_123 rfl hl (by decide) rfl (fun ls hl => ?_)
        refine lv_iinc (v := nI ((k + 1) + 1)) (lv' := [(3, .int (nI ((k + 1) + 1))), (2, .int ((li_M_shed_99 p1 u k) + (1 : Int32))), (0, .ref (am 0)), (1, .int p1)]) hx hb d_M_shed_124 hl (k := 3) rfl (nI_1 (k + 1)) (by decide) rfl (fun ls hl => ?_)
        refine lv_goto (tgt := 99) hx hb d_M_shed_127 (by decide) ?_
        have e : li_M_shed_99 p1 u (k + 1) = (li_M_shed_99 p1 u k) + (1 : Int32) := (if_neg c_1).trans (rfl)
        exact ih (k + 1) hlt (by omega) _ _ _ hP hD hS (by rw [e]; exact lv_sub hl [2, 3, 1, 0] rfl)
set_option maxHeartbeats 4000000 in
set_option maxRecDepth 100000 in
theorem tl_M_shed_95 {p : Program} {l : Launch} {e : Env} {s : State} {m : MethodId} {below : List Frame} {meth : Method} {c : Code} {A : Nat → Prop} {H : Heap} {locs : List Loc} {ls : Array Slot} {w0 w1 : va_W} {r : Int32} (G : hk_G) (am : Nat → Nat) (u : cM) (p1 : Int32) (hI : IM u) (C : hk_C p s m meth c R_M b_M_shed 4 (some .int) ([.ref (am 0), .int p1] : List Value).toArray G) (hAe : va_A w0 s.heap.size = A) (hA : ∀ q : Nat, s.heap.size ≤ q → A q) (hP : va_P (hk_D G) classes (wM G am u) H) (hD : va_D A (wM G am u)) (hS : va_S A s.heap H locs) (hl : lv_has ls 4 [(0, .ref (am 0)), (1, .int p1)]) (hr : r = (g_M_shed_95 p1 u).1) (hw : w1 = wM G am ((g_M_shed_95 p1 u).2)) : W p l e rm_M_shed s m ([.ref (am 0), .int p1] : List Value).toArray below meth c H locs 0 0 (MQ below (va_Qi (fun (x : Int32) (_ : Unit) => x = r) (hk_B G w0 w1 s.heap.size) A) ([.ref (am 0), .int p1] : List Value).toArray s 0 0 A) (F0 m 95 ls []) := by
  subst hr
  subst hw
  have hx := C.1
  have hb := C.2.1
  have hown := C.2.2.2.2.1
  have hts := C.2.2.2.2.2.1
  have hE := C.2.2.2.2.2.2.2
  refine lv_iconst (v := (0 : Int32)) hx hb d_M_shed_95 (by decide) ?_
  refine lv_istore_n (lv' := [(2, .int (0 : Int32)), (0, .ref (am 0)), (1, .int p1)]) hx hb d_M_shed_96 rfl hl (by decide) rfl (fun ls hl => ?_)
  refine lv_iconst (v := (1 : Int32)) hx hb d_M_shed_97 (by decide) ?_
  refine lv_istore_n (lv' := [(3, .int (1 : Int32)), (2, .int (0 : Int32)), (0, .ref (am 0)), (1, .int p1)]) hx hb d_M_shed_98 rfl hl (by decide) rfl (fun ls hl => ?_)
  refine lp_M_shed_99 G am u p1 hI C hA ((mg18 u).toNatClampNeg) (Nat.lt_of_le_of_lt hI.1 (by decide)) hI.2 hI.1 (fun H locs ls hP hD hS hl => ?_) (((mg18 u).toNatClampNeg) + 1) 0 (Nat.zero_le _) (by omega) _ _ _ hP hD hS (lv_sub hl [2, 3, 1, 0] rfl)
  refine lv_iload_n hx hb d_M_shed_130 rfl (lv_at hl 2 rfl) ?_
  have e : g_M_shed_95 p1 u = (li_M_shed_99 p1 u ((mg18 u).toNatClampNeg), u) := rfl
  exact hk_ri C hAe hP hD hS (by rw [e]) (by rw [e]) d_M_shed_131
set_option maxHeartbeats 4000000 in
set_option maxRecDepth 100000 in
theorem tl_M_shed_78 {p : Program} {l : Launch} {e : Env} {s : State} {m : MethodId} {below : List Frame} {meth : Method} {c : Code} {A : Nat → Prop} {H : Heap} {locs : List Loc} {ls : Array Slot} {w0 w1 : va_W} {r : Int32} (G : hk_G) (am : Nat → Nat) (u : cM) (p1 : Int32) (hI : IM u) (C : hk_C p s m meth c R_M b_M_shed 4 (some .int) ([.ref (am 0), .int p1] : List Value).toArray G) (hAe : va_A w0 s.heap.size = A) (hA : ∀ q : Nat, s.heap.size ≤ q → A q) (hP : va_P (hk_D G) classes (wM G am u) H) (hD : va_D A (wM G am u)) (hS : va_S A s.heap H locs) (hl : lv_has ls 4 [(0, .ref (am 0)), (1, .int p1)]) (hr : r = (g_M_shed_78 p1 u).1) (hw : w1 = wM G am ((g_M_shed_78 p1 u).2)) : W p l e rm_M_shed s m ([.ref (am 0), .int p1] : List Value).toArray below meth c H locs 0 0 (MQ below (va_Qi (fun (x : Int32) (_ : Unit) => x = r) (hk_B G w0 w1 s.heap.size) A) ([.ref (am 0), .int p1] : List Value).toArray s 0 0 A) (F0 m 78 ls []) := by
  subst hr
  subst hw
  have hx := C.1
  have hb := C.2.1
  have hown := C.2.2.2.2.1
  have hts := C.2.2.2.2.2.1
  have hE := C.2.2.2.2.2.2.2
  refine lv_aload_n hx hb d_M_shed_78 rfl (lv_at hl 0 rfl) ?_
  refine hk_get (v := .int (mg23 u)) C hP 0 5 23 i_M rfl rfl (by decide) (hk_in (by decide +kernel) rfl) rfl d_M_shed_79 ?_
  refine lv_iconst (v := (3 : Int32)) hx hb d_M_shed_82 (by decide) ?_
  refine lv_icmp_ne (tgt := 95) hx hb d_M_shed_83 (by decide) (fun c_1 => ?_) (fun c_1 => ?_)
  · skip
    have e : g_M_shed_78 p1 u = (g_M_shed_95 p1 u) := (if_neg c_1).trans (rfl)
    exact tl_M_shed_95 G am u p1 hI C hAe hA hP hD hS (lv_sub hl [0, 1] rfl) (by rw [e]) (by rw [e])
  · skip
    refine lv_aload_n hx hb d_M_shed_86 rfl (lv_at hl 0 rfl) ?_
    refine hk_goV (hk_kV (k := 0) (As := []) (rest := []) C (c_M_putOn l G am u hI _) Y_M_putOn (hk_in (by decide +kernel) rfl) rfl rfl ⟨Nat.le_of_ble_eq_true rfl, Nat.le_of_ble_eq_true rfl⟩ (va_recv hE.1 hP (ci := 5) (q0 := 0) rfl rfl) hP hD rfl hl.1 rfl (Nat.le_of_ble_eq_true rfl) d_M_shed_87 ⟨Nat.zero_le _, Nat.zero_le _⟩) hD hS hA (fun H locs hP hD hS => ?_)
    have hI1 : IM (m_M_putOn u) := (km_M_putOn hI)
    obtain ⟨U1, hU1⟩ : ∃ z, (m_M_putOn u) = z := ⟨_, rfl⟩
    rw [hU1] at hP hD hI1
    refine lv_aload_n hx hb d_M_shed_90 rfl (lv_at hl 0 rfl) ?_
    refine lv_iconst (v := (0 : Int32)) hx hb d_M_shed_91 (by decide) ?_
    refine hk_put (w2 := wM G am (f_M_shed_92 U1)) (v := .int (0 : Int32)) (ty := .int) C hP hD hS 0 5 23 i_M t_M_ok n_M rfl rfl (by decide) (hk_in (by decide +kernel) rfl) rfl (by decide +kernel) rfl rfl (Nat.le_of_ble_eq_true rfl) rfl d_M_shed_92 (fun H locs hP hD hS => ?_)
    have hI2 : IM (f_M_shed_92 U1) := (IM_of (k18_f_M_shed_92 _) hI1)
    obtain ⟨U2, hU2⟩ : ∃ z, (f_M_shed_92 U1) = z := ⟨_, rfl⟩
    rw [hU2] at hP hD hI2
    subst hU1 hU2
    have e : g_M_shed_78 p1 u = (g_M_shed_95 p1 (f_M_shed_92 (m_M_putOn u))) := (if_pos c_1).trans (rfl)
    exact tl_M_shed_95 G am (f_M_shed_92 (m_M_putOn u)) p1 hI2 C hAe hA hP hD hS (lv_sub hl [0, 1] rfl) (by rw [e]) (by rw [e])
set_option maxHeartbeats 4000000 in
set_option maxRecDepth 100000 in
theorem tl_M_shed_61 {p : Program} {l : Launch} {e : Env} {s : State} {m : MethodId} {below : List Frame} {meth : Method} {c : Code} {A : Nat → Prop} {H : Heap} {locs : List Loc} {ls : Array Slot} {w0 w1 : va_W} {r : Int32} (G : hk_G) (am : Nat → Nat) (u : cM) (p1 : Int32) (hI : IM u) (C : hk_C p s m meth c R_M b_M_shed 4 (some .int) ([.ref (am 0), .int p1] : List Value).toArray G) (hAe : va_A w0 s.heap.size = A) (hA : ∀ q : Nat, s.heap.size ≤ q → A q) (hP : va_P (hk_D G) classes (wM G am u) H) (hD : va_D A (wM G am u)) (hS : va_S A s.heap H locs) (hl : lv_has ls 4 [(0, .ref (am 0)), (1, .int p1)]) (hr : r = (g_M_shed_61 p1 u).1) (hw : w1 = wM G am ((g_M_shed_61 p1 u).2)) : W p l e rm_M_shed s m ([.ref (am 0), .int p1] : List Value).toArray below meth c H locs 0 0 (MQ below (va_Qi (fun (x : Int32) (_ : Unit) => x = r) (hk_B G w0 w1 s.heap.size) A) ([.ref (am 0), .int p1] : List Value).toArray s 0 0 A) (F0 m 61 ls []) := by
  subst hr
  subst hw
  have hx := C.1
  have hb := C.2.1
  have hown := C.2.2.2.2.1
  have hts := C.2.2.2.2.2.1
  have hE := C.2.2.2.2.2.2.2
  refine lv_aload_n hx hb d_M_shed_61 rfl (lv_at hl 0 rfl) ?_
  refine hk_get (v := .int (mg22 u)) C hP 0 5 22 i_M rfl rfl (by decide) (hk_in (by decide +kernel) rfl) rfl d_M_shed_62 ?_
  refine lv_iconst (v := (3 : Int32)) hx hb d_M_shed_65 (by decide) ?_
  refine lv_icmp_ne (tgt := 78) hx hb d_M_shed_66 (by decide) (fun c_1 => ?_) (fun c_1 => ?_)
  · skip
    have e : g_M_shed_61 p1 u = (g_M_shed_78 p1 u) := (if_neg c_1).trans (rfl)
    exact tl_M_shed_78 G am u p1 hI C hAe hA hP hD hS (lv_sub hl [0, 1] rfl) (by rw [e]) (by rw [e])
  · skip
    refine lv_aload_n hx hb d_M_shed_69 rfl (lv_at hl 0 rfl) ?_
    refine hk_goV (hk_kV (k := 0) (As := []) (rest := []) C (c_M_putOff l G am u hI _) Y_M_putOff (hk_in (by decide +kernel) rfl) rfl rfl ⟨Nat.le_of_ble_eq_true rfl, Nat.le_of_ble_eq_true rfl⟩ (va_recv hE.1 hP (ci := 5) (q0 := 0) rfl rfl) hP hD rfl hl.1 rfl (Nat.le_of_ble_eq_true rfl) d_M_shed_70 ⟨Nat.zero_le _, Nat.zero_le _⟩) hD hS hA (fun H locs hP hD hS => ?_)
    have hI1 : IM (m_M_putOff u) := (km_M_putOff hI)
    obtain ⟨U1, hU1⟩ : ∃ z, (m_M_putOff u) = z := ⟨_, rfl⟩
    rw [hU1] at hP hD hI1
    refine lv_aload_n hx hb d_M_shed_73 rfl (lv_at hl 0 rfl) ?_
    refine lv_iconst (v := (0 : Int32)) hx hb d_M_shed_74 (by decide) ?_
    refine hk_put (w2 := wM G am (f_M_shed_75 U1)) (v := .int (0 : Int32)) (ty := .int) C hP hD hS 0 5 22 i_M t_M_ok n_M rfl rfl (by decide) (hk_in (by decide +kernel) rfl) rfl (by decide +kernel) rfl rfl (Nat.le_of_ble_eq_true rfl) rfl d_M_shed_75 (fun H locs hP hD hS => ?_)
    have hI2 : IM (f_M_shed_75 U1) := (IM_of (k18_f_M_shed_75 _) hI1)
    obtain ⟨U2, hU2⟩ : ∃ z, (f_M_shed_75 U1) = z := ⟨_, rfl⟩
    rw [hU2] at hP hD hI2
    subst hU1 hU2
    have e : g_M_shed_61 p1 u = (g_M_shed_78 p1 (f_M_shed_75 (m_M_putOff u))) := (if_pos c_1).trans (rfl)
    exact tl_M_shed_78 G am (f_M_shed_75 (m_M_putOff u)) p1 hI2 C hAe hA hP hD hS (lv_sub hl [0, 1] rfl) (by rw [e]) (by rw [e])
set_option maxHeartbeats 4000000 in
set_option maxRecDepth 100000 in
theorem tl_M_shed_40 {p : Program} {l : Launch} {e : Env} {s : State} {m : MethodId} {below : List Frame} {meth : Method} {c : Code} {A : Nat → Prop} {H : Heap} {locs : List Loc} {ls : Array Slot} {w0 w1 : va_W} {r : Int32} (G : hk_G) (am : Nat → Nat) (u : cM) (p1 : Int32) (hI : IM u) (C : hk_C p s m meth c R_M b_M_shed 4 (some .int) ([.ref (am 0), .int p1] : List Value).toArray G) (hAe : va_A w0 s.heap.size = A) (hA : ∀ q : Nat, s.heap.size ≤ q → A q) (hP : va_P (hk_D G) classes (wM G am u) H) (hD : va_D A (wM G am u)) (hS : va_S A s.heap H locs) (hl : lv_has ls 4 [(0, .ref (am 0)), (1, .int p1)]) (hr : r = (g_M_shed_40 p1 u).1) (hw : w1 = wM G am ((g_M_shed_40 p1 u).2)) : W p l e rm_M_shed s m ([.ref (am 0), .int p1] : List Value).toArray below meth c H locs 0 0 (MQ below (va_Qi (fun (x : Int32) (_ : Unit) => x = r) (hk_B G w0 w1 s.heap.size) A) ([.ref (am 0), .int p1] : List Value).toArray s 0 0 A) (F0 m 40 ls []) := by
  subst hr
  subst hw
  have hx := C.1
  have hb := C.2.1
  have hown := C.2.2.2.2.1
  have hts := C.2.2.2.2.2.1
  have hE := C.2.2.2.2.2.2.2
  refine lv_aload_n hx hb d_M_shed_40 rfl (lv_at hl 0 rfl) ?_
  refine lv_iload_n hx hb d_M_shed_41 rfl (lv_at hl 1 rfl) ?_
  refine lv_sipush (v := (12500 : Int32)) hx hb d_M_shed_42 (by decide) ?_
  refine lv_icmp_le (tgt := 57) hx hb d_M_shed_45 (by decide) (fun c_1 => ?_) (fun c_1 => ?_)
  · skip
    refine lv_iconst (v := (0 : Int32)) hx hb d_M_shed_57 (by decide) ?_
    refine hk_put (w2 := wM G am (f_M_shed_58 u)) (v := .int (0 : Int32)) (ty := .int) C hP hD hS 0 5 23 i_M t_M_ok n_M rfl rfl (by decide) (hk_in (by decide +kernel) rfl) rfl (by decide +kernel) rfl rfl (Nat.le_of_ble_eq_true rfl) rfl d_M_shed_58 (fun H locs hP hD hS => ?_)
    have hI1 : IM (f_M_shed_58 u) := (IM_of (k18_f_M_shed_58 _) hI)
    obtain ⟨U1, hU1⟩ : ∃ z, (f_M_shed_58 u) = z := ⟨_, rfl⟩
    rw [hU1] at hP hD hI1
    subst hU1
    have e : g_M_shed_40 p1 u = (g_M_shed_61 p1 (f_M_shed_58 u)) := (if_pos c_1).trans (rfl)
    exact tl_M_shed_61 G am (f_M_shed_58 u) p1 hI1 C hAe hA hP hD hS (lv_sub hl [0, 1] rfl) (by rw [e]) (by rw [e])
  · skip
    refine lv_aload_n hx hb d_M_shed_48 rfl (lv_at hl 0 rfl) ?_
    refine hk_get (v := .int (mg23 u)) C hP 0 5 23 i_M rfl rfl (by decide) (hk_in (by decide +kernel) rfl) rfl d_M_shed_49 ?_
    refine lv_iconst (v := (1 : Int32)) hx hb d_M_shed_52 (by decide) ?_
    refine lv_iadd hx hb d_M_shed_53 ?_
    refine lv_goto (tgt := 58) hx hb d_M_shed_54 (by decide) ?_
    refine hk_put (w2 := wM G am (f_M_shed_58_1 u)) (v := .int ((mg23 u) + (1 : Int32))) (ty := .int) C hP hD hS 0 5 23 i_M t_M_ok n_M rfl rfl (by decide) (hk_in (by decide +kernel) rfl) rfl (by decide +kernel) rfl rfl (Nat.le_of_ble_eq_true rfl) rfl d_M_shed_58 (fun H locs hP hD hS => ?_)
    have hI2 : IM (f_M_shed_58_1 u) := (IM_of (k18_f_M_shed_58_1 _) hI)
    obtain ⟨U2, hU2⟩ : ∃ z, (f_M_shed_58_1 u) = z := ⟨_, rfl⟩
    rw [hU2] at hP hD hI2
    subst hU2
    have e : g_M_shed_40 p1 u = (g_M_shed_61 p1 (f_M_shed_58_1 u)) := (if_neg c_1).trans (rfl)
    exact tl_M_shed_61 G am (f_M_shed_58_1 u) p1 hI2 C hAe hA hP hD hS (lv_sub hl [0, 1] rfl) (by rw [e]) (by rw [e])
set_option maxHeartbeats 4000000 in
set_option maxRecDepth 100000 in
theorem c_M_shed (l : Launch) (G : hk_G) (am : Nat → Nat) (u : cM) (p1 : Int32) (hI : IM u) : hk_I l G y_M_shed b_M_shed 4 (some .int) rm_M_shed [.ref (am 0), .int p1] (wM G am u) ((m_M_shed p1 u).1) (wM G am ((m_M_shed p1 u).2)) := by
  refine hk_I_of (by decide) (Nat.le_of_ble_eq_true rfl) ?_
  intro p e s m below meth c A ls C hAe hA hP hD hS hl
  have hx := C.1
  have hb := C.2.1
  have hown := C.2.2.2.2.1
  have hts := C.2.2.2.2.2.1
  have hE := C.2.2.2.2.2.2.2
  have hl : lv_has ls 4 [(0, .ref (am 0)), (1, .int p1)] := hl
  refine lv_aload_n hx hb d_M_shed_0 rfl (lv_at hl 0 rfl) ?_
  refine lv_iconst (v := (0 : Int32)) hx hb d_M_shed_1 (by decide) ?_
  refine hk_put (w2 := wM G am (f_M_shed_2 u)) (v := .int (0 : Int32)) (ty := .int) C hP hD hS 0 5 0 i_M t_M_ok n_M rfl rfl (by decide) (hk_in (by decide +kernel) rfl) rfl (by decide +kernel) rfl rfl (Nat.le_of_ble_eq_true rfl) rfl d_M_shed_2 (fun H locs hP hD hS => ?_)
  have hI1 : IM (f_M_shed_2 u) := (IM_of (k18_f_M_shed_2 _) hI)
  obtain ⟨U1, hU1⟩ : ∃ z, (f_M_shed_2 u) = z := ⟨_, rfl⟩
  rw [hU1] at hP hD hI1
  refine lv_iload_n hx hb d_M_shed_5 rfl (lv_at hl 1 rfl) ?_
  refine lv_iconst (v := (0 : Int32)) hx hb d_M_shed_6 (by decide) ?_
  refine lv_sipush (v := (20000 : Int32)) hx hb d_M_shed_7 (by decide) ?_
  refine hk_goIe (hk_kS (k := 3) (As := [.int p1, .int (0 : Int32), .int (20000 : Int32)]) (rest := []) C (c_M_within l G p1 (0 : Int32) (20000 : Int32) _) Y_M_within (hk_in (by decide +kernel) rfl) rfl rfl ⟨Nat.le_of_ble_eq_true rfl, Nat.le_of_ble_eq_true rfl⟩ hk_Pn (hk_Dn (A := A)) rfl hl.1 rfl (Nat.le_of_ble_eq_true rfl) d_M_shed_10 ⟨Nat.zero_le _, Nat.zero_le _⟩) hP hS hA (fun H locs hP hS => ?_)
  refine lv_if_ne (tgt := 19) hx hb d_M_shed_13 (by decide) (fun c_1 => ?_) (fun c_1 => ?_)
  · skip
    refine lv_aload_n hx hb d_M_shed_19 rfl (lv_at hl 0 rfl) ?_
    refine lv_iload_n hx hb d_M_shed_20 rfl (lv_at hl 1 rfl) ?_
    refine lv_sipush (v := (11500 : Int32)) hx hb d_M_shed_21 (by decide) ?_
    refine lv_icmp_ge (tgt := 36) hx hb d_M_shed_24 (by decide) (fun c_2 => ?_) (fun c_2 => ?_)
    · skip
      refine lv_iconst (v := (0 : Int32)) hx hb d_M_shed_36 (by decide) ?_
      refine hk_put (w2 := wM G am (f_M_shed_37 U1)) (v := .int (0 : Int32)) (ty := .int) C hP hD hS 0 5 22 i_M t_M_ok n_M rfl rfl (by decide) (hk_in (by decide +kernel) rfl) rfl (by decide +kernel) rfl rfl (Nat.le_of_ble_eq_true rfl) rfl d_M_shed_37 (fun H locs hP hD hS => ?_)
      have hI2 : IM (f_M_shed_37 U1) := (IM_of (k18_f_M_shed_37 _) hI1)
      obtain ⟨U2, hU2⟩ : ∃ z, (f_M_shed_37 U1) = z := ⟨_, rfl⟩
      rw [hU2] at hP hD hI2
      subst hU1 hU2
      have e : m_M_shed p1 u = (g_M_shed_40 p1 (f_M_shed_37 (f_M_shed_2 u))) := (if_neg c_1).trans ((if_pos c_2).trans (rfl))
      exact tl_M_shed_40 G am (f_M_shed_37 (f_M_shed_2 u)) p1 hI2 C hAe hA hP hD hS (lv_sub hl [0, 1] rfl) (by rw [e]) (by rw [e])
    · skip
      refine lv_aload_n hx hb d_M_shed_27 rfl (lv_at hl 0 rfl) ?_
      refine hk_get (v := .int (mg22 U1)) C hP 0 5 22 i_M rfl rfl (by decide) (hk_in (by decide +kernel) rfl) rfl d_M_shed_28 ?_
      refine lv_iconst (v := (1 : Int32)) hx hb d_M_shed_31 (by decide) ?_
      refine lv_iadd hx hb d_M_shed_32 ?_
      refine lv_goto (tgt := 37) hx hb d_M_shed_33 (by decide) ?_
      refine hk_put (w2 := wM G am (f_M_shed_37_1 U1)) (v := .int ((mg22 U1) + (1 : Int32))) (ty := .int) C hP hD hS 0 5 22 i_M t_M_ok n_M rfl rfl (by decide) (hk_in (by decide +kernel) rfl) rfl (by decide +kernel) rfl rfl (Nat.le_of_ble_eq_true rfl) rfl d_M_shed_37 (fun H locs hP hD hS => ?_)
      have hI3 : IM (f_M_shed_37_1 U1) := (IM_of (k18_f_M_shed_37_1 _) hI1)
      obtain ⟨U3, hU3⟩ : ∃ z, (f_M_shed_37_1 U1) = z := ⟨_, rfl⟩
      rw [hU3] at hP hD hI3
      subst hU1 hU3
      have e : m_M_shed p1 u = (g_M_shed_40 p1 (f_M_shed_37_1 (f_M_shed_2 u))) := (if_neg c_1).trans ((if_neg c_2).trans (rfl))
      exact tl_M_shed_40 G am (f_M_shed_37_1 (f_M_shed_2 u)) p1 hI3 C hAe hA hP hD hS (lv_sub hl [0, 1] rfl) (by rw [e]) (by rw [e])
  · skip
    refine lv_bipush (v := (-2 : Int32)) hx hb d_M_shed_16 (by decide) ?_
    subst hU1
    have e : m_M_shed p1 u = ((-2 : Int32), (f_M_shed_2 u)) := (if_pos c_1).trans (rfl)
    exact hk_ri C hAe hP hD hS (by rw [e]) (by rw [e]) d_M_shed_18
set_option maxRecDepth 100000 in
theorem Y_M_bulb : hk_Y y_M_bulb b_M_bulb 4 (some .int) 2 := ⟨hk_in (by decide +kernel) rfl, hk_in (by decide +kernel) rfl, hk_in (by decide +kernel) rfl, hk_in (List.mem_of_getElem? (i := 696) rfl) rfl, by decide, by decide, by decide +kernel⟩
abbrev rm_M_bulb : Room := { frames := 1, cells := 0, slots := 0, locals := 22 }
set_option maxHeartbeats 4000000 in
set_option maxRecDepth 100000 in
theorem c_M_bulb (l : Launch) (G : hk_G) (am : Nat → Nat) (u : cM) (p1 : Int32) (p2 : Int32) : hk_I l G y_M_bulb b_M_bulb 4 (some .int) rm_M_bulb [.ref (am 0), .int p1, .int p2] (wM G am u) ((m_M_bulb p1 p2 u).1) (wM G am ((m_M_bulb p1 p2 u).2)) := by
  refine hk_I_of (by decide) (Nat.le_of_ble_eq_true rfl) ?_
  intro p e s m below meth c A ls C hAe hA hP hD hS hl
  have hx := C.1
  have hb := C.2.1
  have hown := C.2.2.2.2.1
  have hts := C.2.2.2.2.2.1
  have hE := C.2.2.2.2.2.2.2
  have hl : lv_has ls 4 [(0, .ref (am 0)), (1, .int p1), (2, .int p2)] := hl
  refine lv_aload_n hx hb d_M_bulb_0 rfl (lv_at hl 0 rfl) ?_
  refine lv_iconst (v := (0 : Int32)) hx hb d_M_bulb_1 (by decide) ?_
  refine hk_put (w2 := wM G am (f_M_bulb_2 u)) (v := .int (0 : Int32)) (ty := .int) C hP hD hS 0 5 0 i_M t_M_ok n_M rfl rfl (by decide) (hk_in (by decide +kernel) rfl) rfl (by decide +kernel) rfl rfl (Nat.le_of_ble_eq_true rfl) rfl d_M_bulb_2 (fun H locs hP hD hS => ?_)
  obtain ⟨U1, hU1⟩ : ∃ z, (f_M_bulb_2 u) = z := ⟨_, rfl⟩
  rw [hU1] at hP hD
  refine lv_iload_n hx hb d_M_bulb_5 rfl (lv_at hl 1 rfl) ?_
  refine lv_iconst (v := (0 : Int32)) hx hb d_M_bulb_6 (by decide) ?_
  refine lv_iconst (v := (5 : Int32)) hx hb d_M_bulb_7 (by decide) ?_
  refine hk_goIe (hk_kS (k := 3) (As := [.int p1, .int (0 : Int32), .int (5 : Int32)]) (rest := []) C (c_M_within l G p1 (0 : Int32) (5 : Int32) _) Y_M_within (hk_in (by decide +kernel) rfl) rfl rfl ⟨Nat.le_of_ble_eq_true rfl, Nat.le_of_ble_eq_true rfl⟩ hk_Pn (hk_Dn (A := A)) rfl hl.1 rfl (Nat.le_of_ble_eq_true rfl) d_M_bulb_8 ⟨Nat.zero_le _, Nat.zero_le _⟩) hP hS hA (fun H locs hP hS => ?_)
  refine lv_if_ne (tgt := 16) hx hb d_M_bulb_11 (by decide) (fun c_1 => ?_) (fun c_1 => ?_)
  · skip
    rcases hk_w6 c_1 with rfl | rfl | rfl | rfl | rfl | rfl
    · skip
      refine lv_aload_n hx hb d_M_bulb_16 rfl (lv_at hl 0 rfl) ?_
      refine hk_get (v := .ref (am 5)) C hP 0 5 10 i_M rfl rfl (by decide) (hk_in (by decide +kernel) rfl) rfl d_M_bulb_17 ?_
      refine lv_iload_n hx hb d_M_bulb_20 rfl (lv_at hl 1 rfl) ?_
      refine lv_iload_n hx hb d_M_bulb_21 rfl (lv_at hl 2 rfl) ?_
      refine lv_if_ne (tgt := 29) hx hb d_M_bulb_22 (by decide) (fun c_2 => ?_) (fun c_2 => ?_)
      · skip
        refine lv_iconst (v := (0 : Int32)) hx hb d_M_bulb_29 (by decide) ?_
        refine hk_zst (w2 := wM G am (f_M_bulb_30_1 (0 : Int32) U1)) C hP hD hS 5 1 rfl rfl (hk_inl (by decide)) (Or.inl rfl) rfl d_M_bulb_30 (fun H locs hP hD hS => ?_)
        obtain ⟨U2, hU2⟩ : ∃ z, (f_M_bulb_30_1 (0 : Int32) U1) = z := ⟨_, rfl⟩
        rw [hU2] at hP hD
        refine lv_iload_n hx hb d_M_bulb_31 rfl (lv_at hl 1 rfl) ?_
        refine lv_iconst (v := (3 : Int32)) hx hb d_M_bulb_32 (by decide) ?_
        refine lv_icmp_le (tgt := 42) hx hb d_M_bulb_33 (by decide) (fun c_3 => ?_) (fun c_3 => absurd (by decide) c_3)
        refine lv_iload_n hx hb d_M_bulb_42 rfl (lv_at hl 1 rfl) ?_
        refine lv_iconst (v := (2 : Int32)) hx hb d_M_bulb_43 (by decide) ?_
        refine lv_irem hx hb d_M_bulb_44 (by decide) ?_
        refine hk_fold (z := (0 : Int32)) (by decide) ?_
        refine lv_if_ne (tgt := 54) hx hb d_M_bulb_45 (by decide) (fun c_4 => absurd (by decide) c_4) (fun c_4 => ?_)
        refine lv_iload_n hx hb d_M_bulb_48 rfl (lv_at hl 1 rfl) ?_
        refine lv_iconst (v := (1 : Int32)) hx hb d_M_bulb_49 (by decide) ?_
        refine lv_iadd hx hb d_M_bulb_50 ?_
        refine hk_fold (z := (1 : Int32)) (by decide) ?_
        refine lv_goto (tgt := 57) hx hb d_M_bulb_51 (by decide) ?_
        refine lv_istore_n (lv' := [(3, .int (1 : Int32)), (0, .ref (am 0)), (1, .int (0 : Int32)), (2, .int p2)]) hx hb d_M_bulb_57 rfl hl (by decide) rfl (fun ls hl => ?_)
        refine lv_iload_n hx hb d_M_bulb_58 rfl (lv_at hl 3 rfl) ?_
        refine lv_if_ne (tgt := 71) hx hb d_M_bulb_59 (by decide) (fun c_5 => ?_) (fun c_5 => ?_)
        · skip
          refine lv_iconst (v := (0 : Int32)) hx hb d_M_bulb_71 (by decide) ?_
          refine lv_goto (tgt := 78) hx hb d_M_bulb_72 (by decide) ?_
          subst hU1 hU2
          have e : m_M_bulb (0 : Int32) p2 u = ((0 : Int32), (f_M_bulb_30_1 (0 : Int32) (f_M_bulb_2 u))) := (if_neg c_1).trans ((if_neg c_2).trans ((if_neg c_5).trans (rfl)))
          exact hk_ri C hAe hP hD hS (by rw [e]) (by rw [e]) d_M_bulb_78
        · skip
          refine lv_aload_n hx hb d_M_bulb_62 rfl (lv_at hl 1 rfl) ?_
          refine hk_get (v := .ref (am 5)) C hP 0 5 10 i_M rfl rfl (by decide) (hk_in (by decide +kernel) rfl) rfl d_M_bulb_63 ?_
          refine lv_iload_n hx hb d_M_bulb_66 rfl (lv_at hl 0 rfl) ?_
          refine hk_zld C hP 5 1 (v := (mg10 U2) 1) rfl rfl (hk_inl (by decide)) rfl d_M_bulb_67 ?_
          refine lv_if_eq (tgt := 75) hx hb d_M_bulb_68 (by decide) (fun c_6 => ?_) (fun c_6 => ?_)
          · skip
            refine lv_iload_n hx hb d_M_bulb_75 rfl (lv_at hl 0 rfl) ?_
            refine lv_iconst (v := (1 : Int32)) hx hb d_M_bulb_76 (by decide) ?_
            refine lv_iadd hx hb d_M_bulb_77 ?_
            refine hk_fold (z := (2 : Int32)) (by decide) ?_
            subst hU1 hU2
            have e : m_M_bulb (0 : Int32) p2 u = ((2 : Int32), (f_M_bulb_30_1 (0 : Int32) (f_M_bulb_2 u))) := (if_neg c_1).trans ((if_neg c_2).trans ((if_pos c_5).trans ((if_pos c_6).trans (rfl))))
            exact hk_ri C hAe hP hD hS (by rw [e]) (by rw [e]) d_M_bulb_78
          · skip
            refine lv_iconst (v := (0 : Int32)) hx hb d_M_bulb_71 (by decide) ?_
            refine lv_goto (tgt := 78) hx hb d_M_bulb_72 (by decide) ?_
            subst hU1 hU2
            have e : m_M_bulb (0 : Int32) p2 u = ((0 : Int32), (f_M_bulb_30_1 (0 : Int32) (f_M_bulb_2 u))) := (if_neg c_1).trans ((if_neg c_2).trans ((if_pos c_5).trans ((if_neg c_6).trans (rfl))))
            exact hk_ri C hAe hP hD hS (by rw [e]) (by rw [e]) d_M_bulb_78
      · skip
        refine lv_iconst (v := (1 : Int32)) hx hb d_M_bulb_25 (by decide) ?_
        refine lv_goto (tgt := 30) hx hb d_M_bulb_26 (by decide) ?_
        refine hk_zst (w2 := wM G am (f_M_bulb_30 (0 : Int32) U1)) C hP hD hS 5 1 rfl rfl (hk_inl (by decide)) (Or.inr rfl) rfl d_M_bulb_30 (fun H locs hP hD hS => ?_)
        obtain ⟨U3, hU3⟩ : ∃ z, (f_M_bulb_30 (0 : Int32) U1) = z := ⟨_, rfl⟩
        rw [hU3] at hP hD
        refine lv_iload_n hx hb d_M_bulb_31 rfl (lv_at hl 1 rfl) ?_
        refine lv_iconst (v := (3 : Int32)) hx hb d_M_bulb_32 (by decide) ?_
        refine lv_icmp_le (tgt := 42) hx hb d_M_bulb_33 (by decide) (fun c_7 => ?_) (fun c_7 => absurd (by decide) c_7)
        refine lv_iload_n hx hb d_M_bulb_42 rfl (lv_at hl 1 rfl) ?_
        refine lv_iconst (v := (2 : Int32)) hx hb d_M_bulb_43 (by decide) ?_
        refine lv_irem hx hb d_M_bulb_44 (by decide) ?_
        refine hk_fold (z := (0 : Int32)) (by decide) ?_
        refine lv_if_ne (tgt := 54) hx hb d_M_bulb_45 (by decide) (fun c_8 => absurd (by decide) c_8) (fun c_8 => ?_)
        refine lv_iload_n hx hb d_M_bulb_48 rfl (lv_at hl 1 rfl) ?_
        refine lv_iconst (v := (1 : Int32)) hx hb d_M_bulb_49 (by decide) ?_
        refine lv_iadd hx hb d_M_bulb_50 ?_
        refine hk_fold (z := (1 : Int32)) (by decide) ?_
        refine lv_goto (tgt := 57) hx hb d_M_bulb_51 (by decide) ?_
        refine lv_istore_n (lv' := [(3, .int (1 : Int32)), (0, .ref (am 0)), (1, .int (0 : Int32)), (2, .int p2)]) hx hb d_M_bulb_57 rfl hl (by decide) rfl (fun ls hl => ?_)
        refine lv_iload_n hx hb d_M_bulb_58 rfl (lv_at hl 3 rfl) ?_
        refine lv_if_ne (tgt := 71) hx hb d_M_bulb_59 (by decide) (fun c_9 => ?_) (fun c_9 => ?_)
        · skip
          refine lv_iconst (v := (0 : Int32)) hx hb d_M_bulb_71 (by decide) ?_
          refine lv_goto (tgt := 78) hx hb d_M_bulb_72 (by decide) ?_
          subst hU1 hU3
          have e : m_M_bulb (0 : Int32) p2 u = ((0 : Int32), (f_M_bulb_30 (0 : Int32) (f_M_bulb_2 u))) := (if_neg c_1).trans ((if_pos c_2).trans ((if_neg c_9).trans (rfl)))
          exact hk_ri C hAe hP hD hS (by rw [e]) (by rw [e]) d_M_bulb_78
        · skip
          refine lv_aload_n hx hb d_M_bulb_62 rfl (lv_at hl 1 rfl) ?_
          refine hk_get (v := .ref (am 5)) C hP 0 5 10 i_M rfl rfl (by decide) (hk_in (by decide +kernel) rfl) rfl d_M_bulb_63 ?_
          refine lv_iload_n hx hb d_M_bulb_66 rfl (lv_at hl 0 rfl) ?_
          refine hk_zld C hP 5 1 (v := (mg10 U3) 1) rfl rfl (hk_inl (by decide)) rfl d_M_bulb_67 ?_
          refine lv_if_eq (tgt := 75) hx hb d_M_bulb_68 (by decide) (fun c_10 => ?_) (fun c_10 => ?_)
          · skip
            refine lv_iload_n hx hb d_M_bulb_75 rfl (lv_at hl 0 rfl) ?_
            refine lv_iconst (v := (1 : Int32)) hx hb d_M_bulb_76 (by decide) ?_
            refine lv_iadd hx hb d_M_bulb_77 ?_
            refine hk_fold (z := (2 : Int32)) (by decide) ?_
            subst hU1 hU3
            have e : m_M_bulb (0 : Int32) p2 u = ((2 : Int32), (f_M_bulb_30 (0 : Int32) (f_M_bulb_2 u))) := (if_neg c_1).trans ((if_pos c_2).trans ((if_pos c_9).trans ((if_pos c_10).trans (rfl))))
            exact hk_ri C hAe hP hD hS (by rw [e]) (by rw [e]) d_M_bulb_78
          · skip
            refine lv_iconst (v := (0 : Int32)) hx hb d_M_bulb_71 (by decide) ?_
            refine lv_goto (tgt := 78) hx hb d_M_bulb_72 (by decide) ?_
            subst hU1 hU3
            have e : m_M_bulb (0 : Int32) p2 u = ((0 : Int32), (f_M_bulb_30 (0 : Int32) (f_M_bulb_2 u))) := (if_neg c_1).trans ((if_pos c_2).trans ((if_pos c_9).trans ((if_neg c_10).trans (rfl))))
            exact hk_ri C hAe hP hD hS (by rw [e]) (by rw [e]) d_M_bulb_78
    · skip
      refine lv_aload_n hx hb d_M_bulb_16 rfl (lv_at hl 0 rfl) ?_
      refine hk_get (v := .ref (am 5)) C hP 0 5 10 i_M rfl rfl (by decide) (hk_in (by decide +kernel) rfl) rfl d_M_bulb_17 ?_
      refine lv_iload_n hx hb d_M_bulb_20 rfl (lv_at hl 1 rfl) ?_
      refine lv_iload_n hx hb d_M_bulb_21 rfl (lv_at hl 2 rfl) ?_
      refine lv_if_ne (tgt := 29) hx hb d_M_bulb_22 (by decide) (fun c_11 => ?_) (fun c_11 => ?_)
      · skip
        refine lv_iconst (v := (0 : Int32)) hx hb d_M_bulb_29 (by decide) ?_
        refine hk_zst (w2 := wM G am (f_M_bulb_30_1 (1 : Int32) U1)) C hP hD hS 5 1 rfl rfl (hk_inl (by decide)) (Or.inl rfl) rfl d_M_bulb_30 (fun H locs hP hD hS => ?_)
        obtain ⟨U4, hU4⟩ : ∃ z, (f_M_bulb_30_1 (1 : Int32) U1) = z := ⟨_, rfl⟩
        rw [hU4] at hP hD
        refine lv_iload_n hx hb d_M_bulb_31 rfl (lv_at hl 1 rfl) ?_
        refine lv_iconst (v := (3 : Int32)) hx hb d_M_bulb_32 (by decide) ?_
        refine lv_icmp_le (tgt := 42) hx hb d_M_bulb_33 (by decide) (fun c_12 => ?_) (fun c_12 => absurd (by decide) c_12)
        refine lv_iload_n hx hb d_M_bulb_42 rfl (lv_at hl 1 rfl) ?_
        refine lv_iconst (v := (2 : Int32)) hx hb d_M_bulb_43 (by decide) ?_
        refine lv_irem hx hb d_M_bulb_44 (by decide) ?_
        refine hk_fold (z := (1 : Int32)) (by decide) ?_
        refine lv_if_ne (tgt := 54) hx hb d_M_bulb_45 (by decide) (fun c_13 => ?_) (fun c_13 => absurd c_13 (by decide))
        refine lv_iload_n hx hb d_M_bulb_54 rfl (lv_at hl 1 rfl) ?_
        refine lv_iconst (v := (1 : Int32)) hx hb d_M_bulb_55 (by decide) ?_
        refine lv_isub hx hb d_M_bulb_56 ?_
        refine hk_fold (z := (0 : Int32)) (by decide) ?_
        refine lv_istore_n (lv' := [(3, .int (0 : Int32)), (0, .ref (am 0)), (1, .int (1 : Int32)), (2, .int p2)]) hx hb d_M_bulb_57 rfl hl (by decide) rfl (fun ls hl => ?_)
        refine lv_iload_n hx hb d_M_bulb_58 rfl (lv_at hl 3 rfl) ?_
        refine lv_if_ne (tgt := 71) hx hb d_M_bulb_59 (by decide) (fun c_14 => ?_) (fun c_14 => ?_)
        · skip
          refine lv_iconst (v := (0 : Int32)) hx hb d_M_bulb_71 (by decide) ?_
          refine lv_goto (tgt := 78) hx hb d_M_bulb_72 (by decide) ?_
          subst hU1 hU4
          have e : m_M_bulb (1 : Int32) p2 u = ((0 : Int32), (f_M_bulb_30_1 (1 : Int32) (f_M_bulb_2 u))) := (if_neg c_1).trans ((if_neg c_11).trans ((if_neg c_14).trans (rfl)))
          exact hk_ri C hAe hP hD hS (by rw [e]) (by rw [e]) d_M_bulb_78
        · skip
          refine lv_aload_n hx hb d_M_bulb_62 rfl (lv_at hl 1 rfl) ?_
          refine hk_get (v := .ref (am 5)) C hP 0 5 10 i_M rfl rfl (by decide) (hk_in (by decide +kernel) rfl) rfl d_M_bulb_63 ?_
          refine lv_iload_n hx hb d_M_bulb_66 rfl (lv_at hl 0 rfl) ?_
          refine hk_zld C hP 5 1 (v := (mg10 U4) 0) rfl rfl (hk_inl (by decide)) rfl d_M_bulb_67 ?_
          refine lv_if_eq (tgt := 75) hx hb d_M_bulb_68 (by decide) (fun c_15 => ?_) (fun c_15 => ?_)
          · skip
            refine lv_iload_n hx hb d_M_bulb_75 rfl (lv_at hl 0 rfl) ?_
            refine lv_iconst (v := (1 : Int32)) hx hb d_M_bulb_76 (by decide) ?_
            refine lv_iadd hx hb d_M_bulb_77 ?_
            refine hk_fold (z := (1 : Int32)) (by decide) ?_
            subst hU1 hU4
            have e : m_M_bulb (1 : Int32) p2 u = ((1 : Int32), (f_M_bulb_30_1 (1 : Int32) (f_M_bulb_2 u))) := (if_neg c_1).trans ((if_neg c_11).trans ((if_pos c_14).trans ((if_pos c_15).trans (rfl))))
            exact hk_ri C hAe hP hD hS (by rw [e]) (by rw [e]) d_M_bulb_78
          · skip
            refine lv_iconst (v := (0 : Int32)) hx hb d_M_bulb_71 (by decide) ?_
            refine lv_goto (tgt := 78) hx hb d_M_bulb_72 (by decide) ?_
            subst hU1 hU4
            have e : m_M_bulb (1 : Int32) p2 u = ((0 : Int32), (f_M_bulb_30_1 (1 : Int32) (f_M_bulb_2 u))) := (if_neg c_1).trans ((if_neg c_11).trans ((if_pos c_14).trans ((if_neg c_15).trans (rfl))))
            exact hk_ri C hAe hP hD hS (by rw [e]) (by rw [e]) d_M_bulb_78
      · skip
        refine lv_iconst (v := (1 : Int32)) hx hb d_M_bulb_25 (by decide) ?_
        refine lv_goto (tgt := 30) hx hb d_M_bulb_26 (by decide) ?_
        refine hk_zst (w2 := wM G am (f_M_bulb_30 (1 : Int32) U1)) C hP hD hS 5 1 rfl rfl (hk_inl (by decide)) (Or.inr rfl) rfl d_M_bulb_30 (fun H locs hP hD hS => ?_)
        obtain ⟨U5, hU5⟩ : ∃ z, (f_M_bulb_30 (1 : Int32) U1) = z := ⟨_, rfl⟩
        rw [hU5] at hP hD
        refine lv_iload_n hx hb d_M_bulb_31 rfl (lv_at hl 1 rfl) ?_
        refine lv_iconst (v := (3 : Int32)) hx hb d_M_bulb_32 (by decide) ?_
        refine lv_icmp_le (tgt := 42) hx hb d_M_bulb_33 (by decide) (fun c_16 => ?_) (fun c_16 => absurd (by decide) c_16)
        refine lv_iload_n hx hb d_M_bulb_42 rfl (lv_at hl 1 rfl) ?_
        refine lv_iconst (v := (2 : Int32)) hx hb d_M_bulb_43 (by decide) ?_
        refine lv_irem hx hb d_M_bulb_44 (by decide) ?_
        refine hk_fold (z := (1 : Int32)) (by decide) ?_
        refine lv_if_ne (tgt := 54) hx hb d_M_bulb_45 (by decide) (fun c_17 => ?_) (fun c_17 => absurd c_17 (by decide))
        refine lv_iload_n hx hb d_M_bulb_54 rfl (lv_at hl 1 rfl) ?_
        refine lv_iconst (v := (1 : Int32)) hx hb d_M_bulb_55 (by decide) ?_
        refine lv_isub hx hb d_M_bulb_56 ?_
        refine hk_fold (z := (0 : Int32)) (by decide) ?_
        refine lv_istore_n (lv' := [(3, .int (0 : Int32)), (0, .ref (am 0)), (1, .int (1 : Int32)), (2, .int p2)]) hx hb d_M_bulb_57 rfl hl (by decide) rfl (fun ls hl => ?_)
        refine lv_iload_n hx hb d_M_bulb_58 rfl (lv_at hl 3 rfl) ?_
        refine lv_if_ne (tgt := 71) hx hb d_M_bulb_59 (by decide) (fun c_18 => ?_) (fun c_18 => ?_)
        · skip
          refine lv_iconst (v := (0 : Int32)) hx hb d_M_bulb_71 (by decide) ?_
          refine lv_goto (tgt := 78) hx hb d_M_bulb_72 (by decide) ?_
          subst hU1 hU5
          have e : m_M_bulb (1 : Int32) p2 u = ((0 : Int32), (f_M_bulb_30 (1 : Int32) (f_M_bulb_2 u))) := (if_neg c_1).trans ((if_pos c_11).trans ((if_neg c_18).trans (rfl)))
          exact hk_ri C hAe hP hD hS (by rw [e]) (by rw [e]) d_M_bulb_78
        · skip
          refine lv_aload_n hx hb d_M_bulb_62 rfl (lv_at hl 1 rfl) ?_
          refine hk_get (v := .ref (am 5)) C hP 0 5 10 i_M rfl rfl (by decide) (hk_in (by decide +kernel) rfl) rfl d_M_bulb_63 ?_
          refine lv_iload_n hx hb d_M_bulb_66 rfl (lv_at hl 0 rfl) ?_
          refine hk_zld C hP 5 1 (v := (mg10 U5) 0) rfl rfl (hk_inl (by decide)) rfl d_M_bulb_67 ?_
          refine lv_if_eq (tgt := 75) hx hb d_M_bulb_68 (by decide) (fun c_19 => ?_) (fun c_19 => ?_)
          · skip
            refine lv_iload_n hx hb d_M_bulb_75 rfl (lv_at hl 0 rfl) ?_
            refine lv_iconst (v := (1 : Int32)) hx hb d_M_bulb_76 (by decide) ?_
            refine lv_iadd hx hb d_M_bulb_77 ?_
            refine hk_fold (z := (1 : Int32)) (by decide) ?_
            subst hU1 hU5
            have e : m_M_bulb (1 : Int32) p2 u = ((1 : Int32), (f_M_bulb_30 (1 : Int32) (f_M_bulb_2 u))) := (if_neg c_1).trans ((if_pos c_11).trans ((if_pos c_18).trans ((if_pos c_19).trans (rfl))))
            exact hk_ri C hAe hP hD hS (by rw [e]) (by rw [e]) d_M_bulb_78
          · skip
            refine lv_iconst (v := (0 : Int32)) hx hb d_M_bulb_71 (by decide) ?_
            refine lv_goto (tgt := 78) hx hb d_M_bulb_72 (by decide) ?_
            subst hU1 hU5
            have e : m_M_bulb (1 : Int32) p2 u = ((0 : Int32), (f_M_bulb_30 (1 : Int32) (f_M_bulb_2 u))) := (if_neg c_1).trans ((if_pos c_11).trans ((if_pos c_18).trans ((if_neg c_19).trans (rfl))))
            exact hk_ri C hAe hP hD hS (by rw [e]) (by rw [e]) d_M_bulb_78
    · skip
      refine lv_aload_n hx hb d_M_bulb_16 rfl (lv_at hl 0 rfl) ?_
      refine hk_get (v := .ref (am 5)) C hP 0 5 10 i_M rfl rfl (by decide) (hk_in (by decide +kernel) rfl) rfl d_M_bulb_17 ?_
      refine lv_iload_n hx hb d_M_bulb_20 rfl (lv_at hl 1 rfl) ?_
      refine lv_iload_n hx hb d_M_bulb_21 rfl (lv_at hl 2 rfl) ?_
      refine lv_if_ne (tgt := 29) hx hb d_M_bulb_22 (by decide) (fun c_20 => ?_) (fun c_20 => ?_)
      · skip
        refine lv_iconst (v := (0 : Int32)) hx hb d_M_bulb_29 (by decide) ?_
        refine hk_zst (w2 := wM G am (f_M_bulb_30_1 (2 : Int32) U1)) C hP hD hS 5 1 rfl rfl (hk_inl (by decide)) (Or.inl rfl) rfl d_M_bulb_30 (fun H locs hP hD hS => ?_)
        obtain ⟨U6, hU6⟩ : ∃ z, (f_M_bulb_30_1 (2 : Int32) U1) = z := ⟨_, rfl⟩
        rw [hU6] at hP hD
        refine lv_iload_n hx hb d_M_bulb_31 rfl (lv_at hl 1 rfl) ?_
        refine lv_iconst (v := (3 : Int32)) hx hb d_M_bulb_32 (by decide) ?_
        refine lv_icmp_le (tgt := 42) hx hb d_M_bulb_33 (by decide) (fun c_21 => ?_) (fun c_21 => absurd (by decide) c_21)
        refine lv_iload_n hx hb d_M_bulb_42 rfl (lv_at hl 1 rfl) ?_
        refine lv_iconst (v := (2 : Int32)) hx hb d_M_bulb_43 (by decide) ?_
        refine lv_irem hx hb d_M_bulb_44 (by decide) ?_
        refine hk_fold (z := (0 : Int32)) (by decide) ?_
        refine lv_if_ne (tgt := 54) hx hb d_M_bulb_45 (by decide) (fun c_22 => absurd (by decide) c_22) (fun c_22 => ?_)
        refine lv_iload_n hx hb d_M_bulb_48 rfl (lv_at hl 1 rfl) ?_
        refine lv_iconst (v := (1 : Int32)) hx hb d_M_bulb_49 (by decide) ?_
        refine lv_iadd hx hb d_M_bulb_50 ?_
        refine hk_fold (z := (3 : Int32)) (by decide) ?_
        refine lv_goto (tgt := 57) hx hb d_M_bulb_51 (by decide) ?_
        refine lv_istore_n (lv' := [(3, .int (3 : Int32)), (0, .ref (am 0)), (1, .int (2 : Int32)), (2, .int p2)]) hx hb d_M_bulb_57 rfl hl (by decide) rfl (fun ls hl => ?_)
        refine lv_iload_n hx hb d_M_bulb_58 rfl (lv_at hl 3 rfl) ?_
        refine lv_if_ne (tgt := 71) hx hb d_M_bulb_59 (by decide) (fun c_23 => ?_) (fun c_23 => ?_)
        · skip
          refine lv_iconst (v := (0 : Int32)) hx hb d_M_bulb_71 (by decide) ?_
          refine lv_goto (tgt := 78) hx hb d_M_bulb_72 (by decide) ?_
          subst hU1 hU6
          have e : m_M_bulb (2 : Int32) p2 u = ((0 : Int32), (f_M_bulb_30_1 (2 : Int32) (f_M_bulb_2 u))) := (if_neg c_1).trans ((if_neg c_20).trans ((if_neg c_23).trans (rfl)))
          exact hk_ri C hAe hP hD hS (by rw [e]) (by rw [e]) d_M_bulb_78
        · skip
          refine lv_aload_n hx hb d_M_bulb_62 rfl (lv_at hl 1 rfl) ?_
          refine hk_get (v := .ref (am 5)) C hP 0 5 10 i_M rfl rfl (by decide) (hk_in (by decide +kernel) rfl) rfl d_M_bulb_63 ?_
          refine lv_iload_n hx hb d_M_bulb_66 rfl (lv_at hl 0 rfl) ?_
          refine hk_zld C hP 5 1 (v := (mg10 U6) 3) rfl rfl (hk_inl (by decide)) rfl d_M_bulb_67 ?_
          refine lv_if_eq (tgt := 75) hx hb d_M_bulb_68 (by decide) (fun c_24 => ?_) (fun c_24 => ?_)
          · skip
            refine lv_iload_n hx hb d_M_bulb_75 rfl (lv_at hl 0 rfl) ?_
            refine lv_iconst (v := (1 : Int32)) hx hb d_M_bulb_76 (by decide) ?_
            refine lv_iadd hx hb d_M_bulb_77 ?_
            refine hk_fold (z := (4 : Int32)) (by decide) ?_
            subst hU1 hU6
            have e : m_M_bulb (2 : Int32) p2 u = ((4 : Int32), (f_M_bulb_30_1 (2 : Int32) (f_M_bulb_2 u))) := (if_neg c_1).trans ((if_neg c_20).trans ((if_pos c_23).trans ((if_pos c_24).trans (rfl))))
            exact hk_ri C hAe hP hD hS (by rw [e]) (by rw [e]) d_M_bulb_78
          · skip
            refine lv_iconst (v := (0 : Int32)) hx hb d_M_bulb_71 (by decide) ?_
            refine lv_goto (tgt := 78) hx hb d_M_bulb_72 (by decide) ?_
            subst hU1 hU6
            have e : m_M_bulb (2 : Int32) p2 u = ((0 : Int32), (f_M_bulb_30_1 (2 : Int32) (f_M_bulb_2 u))) := (if_neg c_1).trans ((if_neg c_20).trans ((if_pos c_23).trans ((if_neg c_24).trans (rfl))))
            exact hk_ri C hAe hP hD hS (by rw [e]) (by rw [e]) d_M_bulb_78
      · skip
        refine lv_iconst (v := (1 : Int32)) hx hb d_M_bulb_25 (by decide) ?_
        refine lv_goto (tgt := 30) hx hb d_M_bulb_26 (by decide) ?_
        refine hk_zst (w2 := wM G am (f_M_bulb_30 (2 : Int32) U1)) C hP hD hS 5 1 rfl rfl (hk_inl (by decide)) (Or.inr rfl) rfl d_M_bulb_30 (fun H locs hP hD hS => ?_)
        obtain ⟨U7, hU7⟩ : ∃ z, (f_M_bulb_30 (2 : Int32) U1) = z := ⟨_, rfl⟩
        rw [hU7] at hP hD
        refine lv_iload_n hx hb d_M_bulb_31 rfl (lv_at hl 1 rfl) ?_
        refine lv_iconst (v := (3 : Int32)) hx hb d_M_bulb_32 (by decide) ?_
        refine lv_icmp_le (tgt := 42) hx hb d_M_bulb_33 (by decide) (fun c_25 => ?_) (fun c_25 => absurd (by decide) c_25)
        refine lv_iload_n hx hb d_M_bulb_42 rfl (lv_at hl 1 rfl) ?_
        refine lv_iconst (v := (2 : Int32)) hx hb d_M_bulb_43 (by decide) ?_
        refine lv_irem hx hb d_M_bulb_44 (by decide) ?_
        refine hk_fold (z := (0 : Int32)) (by decide) ?_
        refine lv_if_ne (tgt := 54) hx hb d_M_bulb_45 (by decide) (fun c_26 => absurd (by decide) c_26) (fun c_26 => ?_)
        refine lv_iload_n hx hb d_M_bulb_48 rfl (lv_at hl 1 rfl) ?_
        refine lv_iconst (v := (1 : Int32)) hx hb d_M_bulb_49 (by decide) ?_
        refine lv_iadd hx hb d_M_bulb_50 ?_
        refine hk_fold (z := (3 : Int32)) (by decide) ?_
        refine lv_goto (tgt := 57) hx hb d_M_bulb_51 (by decide) ?_
        refine lv_istore_n (lv' := [(3, .int (3 : Int32)), (0, .ref (am 0)), (1, .int (2 : Int32)), (2, .int p2)]) hx hb d_M_bulb_57 rfl hl (by decide) rfl (fun ls hl => ?_)
        refine lv_iload_n hx hb d_M_bulb_58 rfl (lv_at hl 3 rfl) ?_
        refine lv_if_ne (tgt := 71) hx hb d_M_bulb_59 (by decide) (fun c_27 => ?_) (fun c_27 => ?_)
        · skip
          refine lv_iconst (v := (0 : Int32)) hx hb d_M_bulb_71 (by decide) ?_
          refine lv_goto (tgt := 78) hx hb d_M_bulb_72 (by decide) ?_
          subst hU1 hU7
          have e : m_M_bulb (2 : Int32) p2 u = ((0 : Int32), (f_M_bulb_30 (2 : Int32) (f_M_bulb_2 u))) := (if_neg c_1).trans ((if_pos c_20).trans ((if_neg c_27).trans (rfl)))
          exact hk_ri C hAe hP hD hS (by rw [e]) (by rw [e]) d_M_bulb_78
        · skip
          refine lv_aload_n hx hb d_M_bulb_62 rfl (lv_at hl 1 rfl) ?_
          refine hk_get (v := .ref (am 5)) C hP 0 5 10 i_M rfl rfl (by decide) (hk_in (by decide +kernel) rfl) rfl d_M_bulb_63 ?_
          refine lv_iload_n hx hb d_M_bulb_66 rfl (lv_at hl 0 rfl) ?_
          refine hk_zld C hP 5 1 (v := (mg10 U7) 3) rfl rfl (hk_inl (by decide)) rfl d_M_bulb_67 ?_
          refine lv_if_eq (tgt := 75) hx hb d_M_bulb_68 (by decide) (fun c_28 => ?_) (fun c_28 => ?_)
          · skip
            refine lv_iload_n hx hb d_M_bulb_75 rfl (lv_at hl 0 rfl) ?_
            refine lv_iconst (v := (1 : Int32)) hx hb d_M_bulb_76 (by decide) ?_
            refine lv_iadd hx hb d_M_bulb_77 ?_
            refine hk_fold (z := (4 : Int32)) (by decide) ?_
            subst hU1 hU7
            have e : m_M_bulb (2 : Int32) p2 u = ((4 : Int32), (f_M_bulb_30 (2 : Int32) (f_M_bulb_2 u))) := (if_neg c_1).trans ((if_pos c_20).trans ((if_pos c_27).trans ((if_pos c_28).trans (rfl))))
            exact hk_ri C hAe hP hD hS (by rw [e]) (by rw [e]) d_M_bulb_78
          · skip
            refine lv_iconst (v := (0 : Int32)) hx hb d_M_bulb_71 (by decide) ?_
            refine lv_goto (tgt := 78) hx hb d_M_bulb_72 (by decide) ?_
            subst hU1 hU7
            have e : m_M_bulb (2 : Int32) p2 u = ((0 : Int32), (f_M_bulb_30 (2 : Int32) (f_M_bulb_2 u))) := (if_neg c_1).trans ((if_pos c_20).trans ((if_pos c_27).trans ((if_neg c_28).trans (rfl))))
            exact hk_ri C hAe hP hD hS (by rw [e]) (by rw [e]) d_M_bulb_78
    · skip
      refine lv_aload_n hx hb d_M_bulb_16 rfl (lv_at hl 0 rfl) ?_
      refine hk_get (v := .ref (am 5)) C hP 0 5 10 i_M rfl rfl (by decide) (hk_in (by decide +kernel) rfl) rfl d_M_bulb_17 ?_
      refine lv_iload_n hx hb d_M_bulb_20 rfl (lv_at hl 1 rfl) ?_
      refine lv_iload_n hx hb d_M_bulb_21 rfl (lv_at hl 2 rfl) ?_
      refine lv_if_ne (tgt := 29) hx hb d_M_bulb_22 (by decide) (fun c_29 => ?_) (fun c_29 => ?_)
      · skip
        refine lv_iconst (v := (0 : Int32)) hx hb d_M_bulb_29 (by decide) ?_
        refine hk_zst (w2 := wM G am (f_M_bulb_30_1 (3 : Int32) U1)) C hP hD hS 5 1 rfl rfl (hk_inl (by decide)) (Or.inl rfl) rfl d_M_bulb_30 (fun H locs hP hD hS => ?_)
        obtain ⟨U8, hU8⟩ : ∃ z, (f_M_bulb_30_1 (3 : Int32) U1) = z := ⟨_, rfl⟩
        rw [hU8] at hP hD
        refine lv_iload_n hx hb d_M_bulb_31 rfl (lv_at hl 1 rfl) ?_
        refine lv_iconst (v := (3 : Int32)) hx hb d_M_bulb_32 (by decide) ?_
        refine lv_icmp_le (tgt := 42) hx hb d_M_bulb_33 (by decide) (fun c_30 => ?_) (fun c_30 => absurd (by decide) c_30)
        refine lv_iload_n hx hb d_M_bulb_42 rfl (lv_at hl 1 rfl) ?_
        refine lv_iconst (v := (2 : Int32)) hx hb d_M_bulb_43 (by decide) ?_
        refine lv_irem hx hb d_M_bulb_44 (by decide) ?_
        refine hk_fold (z := (1 : Int32)) (by decide) ?_
        refine lv_if_ne (tgt := 54) hx hb d_M_bulb_45 (by decide) (fun c_31 => ?_) (fun c_31 => absurd c_31 (by decide))
        refine lv_iload_n hx hb d_M_bulb_54 rfl (lv_at hl 1 rfl) ?_
        refine lv_iconst (v := (1 : Int32)) hx hb d_M_bulb_55 (by decide) ?_
        refine lv_isub hx hb d_M_bulb_56 ?_
        refine hk_fold (z := (2 : Int32)) (by decide) ?_
        refine lv_istore_n (lv' := [(3, .int (2 : Int32)), (0, .ref (am 0)), (1, .int (3 : Int32)), (2, .int p2)]) hx hb d_M_bulb_57 rfl hl (by decide) rfl (fun ls hl => ?_)
        refine lv_iload_n hx hb d_M_bulb_58 rfl (lv_at hl 3 rfl) ?_
        refine lv_if_ne (tgt := 71) hx hb d_M_bulb_59 (by decide) (fun c_32 => ?_) (fun c_32 => ?_)
        · skip
          refine lv_iconst (v := (0 : Int32)) hx hb d_M_bulb_71 (by decide) ?_
          refine lv_goto (tgt := 78) hx hb d_M_bulb_72 (by decide) ?_
          subst hU1 hU8
          have e : m_M_bulb (3 : Int32) p2 u = ((0 : Int32), (f_M_bulb_30_1 (3 : Int32) (f_M_bulb_2 u))) := (if_neg c_1).trans ((if_neg c_29).trans ((if_neg c_32).trans (rfl)))
          exact hk_ri C hAe hP hD hS (by rw [e]) (by rw [e]) d_M_bulb_78
        · skip
          refine lv_aload_n hx hb d_M_bulb_62 rfl (lv_at hl 1 rfl) ?_
          refine hk_get (v := .ref (am 5)) C hP 0 5 10 i_M rfl rfl (by decide) (hk_in (by decide +kernel) rfl) rfl d_M_bulb_63 ?_
          refine lv_iload_n hx hb d_M_bulb_66 rfl (lv_at hl 0 rfl) ?_
          refine hk_zld C hP 5 1 (v := (mg10 U8) 2) rfl rfl (hk_inl (by decide)) rfl d_M_bulb_67 ?_
          refine lv_if_eq (tgt := 75) hx hb d_M_bulb_68 (by decide) (fun c_33 => ?_) (fun c_33 => ?_)
          · skip
            refine lv_iload_n hx hb d_M_bulb_75 rfl (lv_at hl 0 rfl) ?_
            refine lv_iconst (v := (1 : Int32)) hx hb d_M_bulb_76 (by decide) ?_
            refine lv_iadd hx hb d_M_bulb_77 ?_
            refine hk_fold (z := (3 : Int32)) (by decide) ?_
            subst hU1 hU8
            have e : m_M_bulb (3 : Int32) p2 u = ((3 : Int32), (f_M_bulb_30_1 (3 : Int32) (f_M_bulb_2 u))) := (if_neg c_1).trans ((if_neg c_29).trans ((if_pos c_32).trans ((if_pos c_33).trans (rfl))))
            exact hk_ri C hAe hP hD hS (by rw [e]) (by rw [e]) d_M_bulb_78
          · skip
            refine lv_iconst (v := (0 : Int32)) hx hb d_M_bulb_71 (by decide) ?_
            refine lv_goto (tgt := 78) hx hb d_M_bulb_72 (by decide) ?_
            subst hU1 hU8
            have e : m_M_bulb (3 : Int32) p2 u = ((0 : Int32), (f_M_bulb_30_1 (3 : Int32) (f_M_bulb_2 u))) := (if_neg c_1).trans ((if_neg c_29).trans ((if_pos c_32).trans ((if_neg c_33).trans (rfl))))
            exact hk_ri C hAe hP hD hS (by rw [e]) (by rw [e]) d_M_bulb_78
      · skip
        refine lv_iconst (v := (1 : Int32)) hx hb d_M_bulb_25 (by decide) ?_
        refine lv_goto (tgt := 30) hx hb d_M_bulb_26 (by decide) ?_
        refine hk_zst (w2 := wM G am (f_M_bulb_30 (3 : Int32) U1)) C hP hD hS 5 1 rfl rfl (hk_inl (by decide)) (Or.inr rfl) rfl d_M_bulb_30 (fun H locs hP hD hS => ?_)
        obtain ⟨U9, hU9⟩ : ∃ z, (f_M_bulb_30 (3 : Int32) U1) = z := ⟨_, rfl⟩
        rw [hU9] at hP hD
        refine lv_iload_n hx hb d_M_bulb_31 rfl (lv_at hl 1 rfl) ?_
        refine lv_iconst (v := (3 : Int32)) hx hb d_M_bulb_32 (by decide) ?_
        refine lv_icmp_le (tgt := 42) hx hb d_M_bulb_33 (by decide) (fun c_34 => ?_) (fun c_34 => absurd (by decide) c_34)
        refine lv_iload_n hx hb d_M_bulb_42 rfl (lv_at hl 1 rfl) ?_
        refine lv_iconst (v := (2 : Int32)) hx hb d_M_bulb_43 (by decide) ?_
        refine lv_irem hx hb d_M_bulb_44 (by decide) ?_
        refine hk_fold (z := (1 : Int32)) (by decide) ?_
        refine lv_if_ne (tgt := 54) hx hb d_M_bulb_45 (by decide) (fun c_35 => ?_) (fun c_35 => absurd c_35 (by decide))
        refine lv_iload_n hx hb d_M_bulb_54 rfl (lv_at hl 1 rfl) ?_
        refine lv_iconst (v := (1 : Int32)) hx hb d_M_bulb_55 (by decide) ?_
        refine lv_isub hx hb d_M_bulb_56 ?_
        refine hk_fold (z := (2 : Int32)) (by decide) ?_
        refine lv_istore_n (lv' := [(3, .int (2 : Int32)), (0, .ref (am 0)), (1, .int (3 : Int32)), (2, .int p2)]) hx hb d_M_bulb_57 rfl hl (by decide) rfl (fun ls hl => ?_)
        refine lv_iload_n hx hb d_M_bulb_58 rfl (lv_at hl 3 rfl) ?_
        refine lv_if_ne (tgt := 71) hx hb d_M_bulb_59 (by decide) (fun c_36 => ?_) (fun c_36 => ?_)
        · skip
          refine lv_iconst (v := (0 : Int32)) hx hb d_M_bulb_71 (by decide) ?_
          refine lv_goto (tgt := 78) hx hb d_M_bulb_72 (by decide) ?_
          subst hU1 hU9
          have e : m_M_bulb (3 : Int32) p2 u = ((0 : Int32), (f_M_bulb_30 (3 : Int32) (f_M_bulb_2 u))) := (if_neg c_1).trans ((if_pos c_29).trans ((if_neg c_36).trans (rfl)))
          exact hk_ri C hAe hP hD hS (by rw [e]) (by rw [e]) d_M_bulb_78
        · skip
          refine lv_aload_n hx hb d_M_bulb_62 rfl (lv_at hl 1 rfl) ?_
          refine hk_get (v := .ref (am 5)) C hP 0 5 10 i_M rfl rfl (by decide) (hk_in (by decide +kernel) rfl) rfl d_M_bulb_63 ?_
          refine lv_iload_n hx hb d_M_bulb_66 rfl (lv_at hl 0 rfl) ?_
          refine hk_zld C hP 5 1 (v := (mg10 U9) 2) rfl rfl (hk_inl (by decide)) rfl d_M_bulb_67 ?_
          refine lv_if_eq (tgt := 75) hx hb d_M_bulb_68 (by decide) (fun c_37 => ?_) (fun c_37 => ?_)
          · skip
            refine lv_iload_n hx hb d_M_bulb_75 rfl (lv_at hl 0 rfl) ?_
            refine lv_iconst (v := (1 : Int32)) hx hb d_M_bulb_76 (by decide) ?_
            refine lv_iadd hx hb d_M_bulb_77 ?_
            refine hk_fold (z := (3 : Int32)) (by decide) ?_
            subst hU1 hU9
            have e : m_M_bulb (3 : Int32) p2 u = ((3 : Int32), (f_M_bulb_30 (3 : Int32) (f_M_bulb_2 u))) := (if_neg c_1).trans ((if_pos c_29).trans ((if_pos c_36).trans ((if_pos c_37).trans (rfl))))
            exact hk_ri C hAe hP hD hS (by rw [e]) (by rw [e]) d_M_bulb_78
          · skip
            refine lv_iconst (v := (0 : Int32)) hx hb d_M_bulb_71 (by decide) ?_
            refine lv_goto (tgt := 78) hx hb d_M_bulb_72 (by decide) ?_
            subst hU1 hU9
            have e : m_M_bulb (3 : Int32) p2 u = ((0 : Int32), (f_M_bulb_30 (3 : Int32) (f_M_bulb_2 u))) := (if_neg c_1).trans ((if_pos c_29).trans ((if_pos c_36).trans ((if_neg c_37).trans (rfl))))
            exact hk_ri C hAe hP hD hS (by rw [e]) (by rw [e]) d_M_bulb_78
    · skip
      refine lv_aload_n hx hb d_M_bulb_16 rfl (lv_at hl 0 rfl) ?_
      refine hk_get (v := .ref (am 5)) C hP 0 5 10 i_M rfl rfl (by decide) (hk_in (by decide +kernel) rfl) rfl d_M_bulb_17 ?_
      refine lv_iload_n hx hb d_M_bulb_20 rfl (lv_at hl 1 rfl) ?_
      refine lv_iload_n hx hb d_M_bulb_21 rfl (lv_at hl 2 rfl) ?_
      refine lv_if_ne (tgt := 29) hx hb d_M_bulb_22 (by decide) (fun c_38 => ?_) (fun c_38 => ?_)
      · skip
        refine lv_iconst (v := (0 : Int32)) hx hb d_M_bulb_29 (by decide) ?_
        refine hk_zst (w2 := wM G am (f_M_bulb_30_1 (4 : Int32) U1)) C hP hD hS 5 1 rfl rfl (hk_inl (by decide)) (Or.inl rfl) rfl d_M_bulb_30 (fun H locs hP hD hS => ?_)
        obtain ⟨U10, hU10⟩ : ∃ z, (f_M_bulb_30_1 (4 : Int32) U1) = z := ⟨_, rfl⟩
        rw [hU10] at hP hD
        refine lv_iload_n hx hb d_M_bulb_31 rfl (lv_at hl 1 rfl) ?_
        refine lv_iconst (v := (3 : Int32)) hx hb d_M_bulb_32 (by decide) ?_
        refine lv_icmp_le (tgt := 42) hx hb d_M_bulb_33 (by decide) (fun c_39 => absurd c_39 (by decide)) (fun c_39 => ?_)
        refine lv_iload_n hx hb d_M_bulb_36 rfl (lv_at hl 1 rfl) ?_
        refine lv_iconst (v := (4 : Int32)) hx hb d_M_bulb_37 (by decide) ?_
        refine lv_isub hx hb d_M_bulb_38 ?_
        refine hk_fold (z := (0 : Int32)) (by decide) ?_
        refine lv_goto (tgt := 57) hx hb d_M_bulb_39 (by decide) ?_
        refine lv_istore_n (lv' := [(3, .int (0 : Int32)), (0, .ref (am 0)), (1, .int (4 : Int32)), (2, .int p2)]) hx hb d_M_bulb_57 rfl hl (by decide) rfl (fun ls hl => ?_)
        refine lv_iload_n hx hb d_M_bulb_58 rfl (lv_at hl 3 rfl) ?_
        refine lv_if_ne (tgt := 71) hx hb d_M_bulb_59 (by decide) (fun c_40 => ?_) (fun c_40 => ?_)
        · skip
          refine lv_iconst (v := (0 : Int32)) hx hb d_M_bulb_71 (by decide) ?_
          refine lv_goto (tgt := 78) hx hb d_M_bulb_72 (by decide) ?_
          subst hU1 hU10
          have e : m_M_bulb (4 : Int32) p2 u = ((0 : Int32), (f_M_bulb_30_1 (4 : Int32) (f_M_bulb_2 u))) := (if_neg c_1).trans ((if_neg c_38).trans ((if_neg c_40).trans (rfl)))
          exact hk_ri C hAe hP hD hS (by rw [e]) (by rw [e]) d_M_bulb_78
        · skip
          refine lv_aload_n hx hb d_M_bulb_62 rfl (lv_at hl 1 rfl) ?_
          refine hk_get (v := .ref (am 5)) C hP 0 5 10 i_M rfl rfl (by decide) (hk_in (by decide +kernel) rfl) rfl d_M_bulb_63 ?_
          refine lv_iload_n hx hb d_M_bulb_66 rfl (lv_at hl 0 rfl) ?_
          refine hk_zld C hP 5 1 (v := (mg10 U10) 0) rfl rfl (hk_inl (by decide)) rfl d_M_bulb_67 ?_
          refine lv_if_eq (tgt := 75) hx hb d_M_bulb_68 (by decide) (fun c_41 => ?_) (fun c_41 => ?_)
          · skip
            refine lv_iload_n hx hb d_M_bulb_75 rfl (lv_at hl 0 rfl) ?_
            refine lv_iconst (v := (1 : Int32)) hx hb d_M_bulb_76 (by decide) ?_
            refine lv_iadd hx hb d_M_bulb_77 ?_
            refine hk_fold (z := (1 : Int32)) (by decide) ?_
            subst hU1 hU10
            have e : m_M_bulb (4 : Int32) p2 u = ((1 : Int32), (f_M_bulb_30_1 (4 : Int32) (f_M_bulb_2 u))) := (if_neg c_1).trans ((if_neg c_38).trans ((if_pos c_40).trans ((if_pos c_41).trans (rfl))))
            exact hk_ri C hAe hP hD hS (by rw [e]) (by rw [e]) d_M_bulb_78
          · skip
            refine lv_iconst (v := (0 : Int32)) hx hb d_M_bulb_71 (by decide) ?_
            refine lv_goto (tgt := 78) hx hb d_M_bulb_72 (by decide) ?_
            subst hU1 hU10
            have e : m_M_bulb (4 : Int32) p2 u = ((0 : Int32), (f_M_bulb_30_1 (4 : Int32) (f_M_bulb_2 u))) := (if_neg c_1).trans ((if_neg c_38).trans ((if_pos c_40).trans ((if_neg c_41).trans (rfl))))
            exact hk_ri C hAe hP hD hS (by rw [e]) (by rw [e]) d_M_bulb_78
      · skip
        refine lv_iconst (v := (1 : Int32)) hx hb d_M_bulb_25 (by decide) ?_
        refine lv_goto (tgt := 30) hx hb d_M_bulb_26 (by decide) ?_
        refine hk_zst (w2 := wM G am (f_M_bulb_30 (4 : Int32) U1)) C hP hD hS 5 1 rfl rfl (hk_inl (by decide)) (Or.inr rfl) rfl d_M_bulb_30 (fun H locs hP hD hS => ?_)
        obtain ⟨U11, hU11⟩ : ∃ z, (f_M_bulb_30 (4 : Int32) U1) = z := ⟨_, rfl⟩
        rw [hU11] at hP hD
        refine lv_iload_n hx hb d_M_bulb_31 rfl (lv_at hl 1 rfl) ?_
        refine lv_iconst (v := (3 : Int32)) hx hb d_M_bulb_32 (by decide) ?_
        refine lv_icmp_le (tgt := 42) hx hb d_M_bulb_33 (by decide) (fun c_42 => absurd c_42 (by decide)) (fun c_42 => ?_)
        refine lv_iload_n hx hb d_M_bulb_36 rfl (lv_at hl 1 rfl) ?_
        refine lv_iconst (v := (4 : Int32)) hx hb d_M_bulb_37 (by decide) ?_
        refine lv_isub hx hb d_M_bulb_38 ?_
        refine hk_fold (z := (0 : Int32)) (by decide) ?_
        refine lv_goto (tgt := 57) hx hb d_M_bulb_39 (by decide) ?_
        refine lv_istore_n (lv' := [(3, .int (0 : Int32)), (0, .ref (am 0)), (1, .int (4 : Int32)), (2, .int p2)]) hx hb d_M_bulb_57 rfl hl (by decide) rfl (fun ls hl => ?_)
        refine lv_iload_n hx hb d_M_bulb_58 rfl (lv_at hl 3 rfl) ?_
        refine lv_if_ne (tgt := 71) hx hb d_M_bulb_59 (by decide) (fun c_43 => ?_) (fun c_43 => ?_)
        · skip
          refine lv_iconst (v := (0 : Int32)) hx hb d_M_bulb_71 (by decide) ?_
          refine lv_goto (tgt := 78) hx hb d_M_bulb_72 (by decide) ?_
          subst hU1 hU11
          have e : m_M_bulb (4 : Int32) p2 u = ((0 : Int32), (f_M_bulb_30 (4 : Int32) (f_M_bulb_2 u))) := (if_neg c_1).trans ((if_pos c_38).trans ((if_neg c_43).trans (rfl)))
          exact hk_ri C hAe hP hD hS (by rw [e]) (by rw [e]) d_M_bulb_78
        · skip
          refine lv_aload_n hx hb d_M_bulb_62 rfl (lv_at hl 1 rfl) ?_
          refine hk_get (v := .ref (am 5)) C hP 0 5 10 i_M rfl rfl (by decide) (hk_in (by decide +kernel) rfl) rfl d_M_bulb_63 ?_
          refine lv_iload_n hx hb d_M_bulb_66 rfl (lv_at hl 0 rfl) ?_
          refine hk_zld C hP 5 1 (v := (mg10 U11) 0) rfl rfl (hk_inl (by decide)) rfl d_M_bulb_67 ?_
          refine lv_if_eq (tgt := 75) hx hb d_M_bulb_68 (by decide) (fun c_44 => ?_) (fun c_44 => ?_)
          · skip
            refine lv_iload_n hx hb d_M_bulb_75 rfl (lv_at hl 0 rfl) ?_
            refine lv_iconst (v := (1 : Int32)) hx hb d_M_bulb_76 (by decide) ?_
            refine lv_iadd hx hb d_M_bulb_77 ?_
            refine hk_fold (z := (1 : Int32)) (by decide) ?_
            subst hU1 hU11
            have e : m_M_bulb (4 : Int32) p2 u = ((1 : Int32), (f_M_bulb_30 (4 : Int32) (f_M_bulb_2 u))) := (if_neg c_1).trans ((if_pos c_38).trans ((if_pos c_43).trans ((if_pos c_44).trans (rfl))))
            exact hk_ri C hAe hP hD hS (by rw [e]) (by rw [e]) d_M_bulb_78
          · skip
            refine lv_iconst (v := (0 : Int32)) hx hb d_M_bulb_71 (by decide) ?_
            refine lv_goto (tgt := 78) hx hb d_M_bulb_72 (by decide) ?_
            subst hU1 hU11
            have e : m_M_bulb (4 : Int32) p2 u = ((0 : Int32), (f_M_bulb_30 (4 : Int32) (f_M_bulb_2 u))) := (if_neg c_1).trans ((if_pos c_38).trans ((if_pos c_43).trans ((if_neg c_44).trans (rfl))))
            exact hk_ri C hAe hP hD hS (by rw [e]) (by rw [e]) d_M_bulb_78
    · skip
      refine lv_aload_n hx hb d_M_bulb_16 rfl (lv_at hl 0 rfl) ?_
      refine hk_get (v := .ref (am 5)) C hP 0 5 10 i_M rfl rfl (by decide) (hk_in (by decide +kernel) rfl) rfl d_M_bulb_17 ?_
      refine lv_iload_n hx hb d_M_bulb_20 rfl (lv_at hl 1 rfl) ?_
      refine lv_iload_n hx hb d_M_bulb_21 rfl (lv_at hl 2 rfl) ?_
      refine lv_if_ne (tgt := 29) hx hb d_M_bulb_22 (by decide) (fun c_45 => ?_) (fun c_45 => ?_)
      · skip
        refine lv_iconst (v := (0 : Int32)) hx hb d_M_bulb_29 (by decide) ?_
        refine hk_zst (w2 := wM G am (f_M_bulb_30_1 (5 : Int32) U1)) C hP hD hS 5 1 rfl rfl (hk_inl (by decide)) (Or.inl rfl) rfl d_M_bulb_30 (fun H locs hP hD hS => ?_)
        obtain ⟨U12, hU12⟩ : ∃ z, (f_M_bulb_30_1 (5 : Int32) U1) = z := ⟨_, rfl⟩
        rw [hU12] at hP hD
        refine lv_iload_n hx hb d_M_bulb_31 rfl (lv_at hl 1 rfl) ?_
        refine lv_iconst (v := (3 : Int32)) hx hb d_M_bulb_32 (by decide) ?_
        refine lv_icmp_le (tgt := 42) hx hb d_M_bulb_33 (by decide) (fun c_46 => absurd c_46 (by decide)) (fun c_46 => ?_)
        refine lv_iload_n hx hb d_M_bulb_36 rfl (lv_at hl 1 rfl) ?_
        refine lv_iconst (v := (4 : Int32)) hx hb d_M_bulb_37 (by decide) ?_
        refine lv_isub hx hb d_M_bulb_38 ?_
        refine hk_fold (z := (1 : Int32)) (by decide) ?_
        refine lv_goto (tgt := 57) hx hb d_M_bulb_39 (by decide) ?_
        refine lv_istore_n (lv' := [(3, .int (1 : Int32)), (0, .ref (am 0)), (1, .int (5 : Int32)), (2, .int p2)]) hx hb d_M_bulb_57 rfl hl (by decide) rfl (fun ls hl => ?_)
        refine lv_iload_n hx hb d_M_bulb_58 rfl (lv_at hl 3 rfl) ?_
        refine lv_if_ne (tgt := 71) hx hb d_M_bulb_59 (by decide) (fun c_47 => ?_) (fun c_47 => ?_)
        · skip
          refine lv_iconst (v := (0 : Int32)) hx hb d_M_bulb_71 (by decide) ?_
          refine lv_goto (tgt := 78) hx hb d_M_bulb_72 (by decide) ?_
          subst hU1 hU12
          have e : m_M_bulb (5 : Int32) p2 u = ((0 : Int32), (f_M_bulb_30_1 (5 : Int32) (f_M_bulb_2 u))) := (if_neg c_1).trans ((if_neg c_45).trans ((if_neg c_47).trans (rfl)))
          exact hk_ri C hAe hP hD hS (by rw [e]) (by rw [e]) d_M_bulb_78
        · skip
          refine lv_aload_n hx hb d_M_bulb_62 rfl (lv_at hl 1 rfl) ?_
          refine hk_get (v := .ref (am 5)) C hP 0 5 10 i_M rfl rfl (by decide) (hk_in (by decide +kernel) rfl) rfl d_M_bulb_63 ?_
          refine lv_iload_n hx hb d_M_bulb_66 rfl (lv_at hl 0 rfl) ?_
          refine hk_zld C hP 5 1 (v := (mg10 U12) 1) rfl rfl (hk_inl (by decide)) rfl d_M_bulb_67 ?_
          refine lv_if_eq (tgt := 75) hx hb d_M_bulb_68 (by decide) (fun c_48 => ?_) (fun c_48 => ?_)
          · skip
            refine lv_iload_n hx hb d_M_bulb_75 rfl (lv_at hl 0 rfl) ?_
            refine lv_iconst (v := (1 : Int32)) hx hb d_M_bulb_76 (by decide) ?_
            refine lv_iadd hx hb d_M_bulb_77 ?_
            refine hk_fold (z := (2 : Int32)) (by decide) ?_
            subst hU1 hU12
            have e : m_M_bulb (5 : Int32) p2 u = ((2 : Int32), (f_M_bulb_30_1 (5 : Int32) (f_M_bulb_2 u))) := (if_neg c_1).trans ((if_neg c_45).trans ((if_pos c_47).trans ((if_pos c_48).trans (rfl))))
            exact hk_ri C hAe hP hD hS (by rw [e]) (by rw [e]) d_M_bulb_78
          · skip
            refine lv_iconst (v := (0 : Int32)) hx hb d_M_bulb_71 (by decide) ?_
            refine lv_goto (tgt := 78) hx hb d_M_bulb_72 (by decide) ?_
            subst hU1 hU12
            have e : m_M_bulb (5 : Int32) p2 u = ((0 : Int32), (f_M_bulb_30_1 (5 : Int32) (f_M_bulb_2 u))) := (if_neg c_1).trans ((if_neg c_45).trans ((if_pos c_47).trans ((if_neg c_48).trans (rfl))))
            exact hk_ri C hAe hP hD hS (by rw [e]) (by rw [e]) d_M_bulb_78
      · skip
        refine lv_iconst (v := (1 : Int32)) hx hb d_M_bulb_25 (by decide) ?_
        refine lv_goto (tgt := 30) hx hb d_M_bulb_26 (by decide) ?_
        refine hk_zst (w2 := wM G am (f_M_bulb_30 (5 : Int32) U1)) C hP hD hS 5 1 rfl rfl (hk_inl (by decide)) (Or.inr rfl) rfl d_M_bulb_30 (fun H locs hP hD hS => ?_)
        obtain ⟨U13, hU13⟩ : ∃ z, (f_M_bulb_30 (5 : Int32) U1) = z := ⟨_, rfl⟩
        rw [hU13] at hP hD
        refine lv_iload_n hx hb d_M_bulb_31 rfl (lv_at hl 1 rfl) ?_
        refine lv_iconst (v := (3 : Int32)) hx hb d_M_bulb_32 (by decide) ?_
        refine lv_icmp_le (tgt := 42) hx hb d_M_bulb_33 (by decide) (fun c_49 => absurd c_49 (by decide)) (fun c_49 => ?_)
        refine lv_iload_n hx hb d_M_bulb_36 rfl (lv_at hl 1 rfl) ?_
        refine lv_iconst (v := (4 : Int32)) hx hb d_M_bulb_37 (by decide) ?_
        refine lv_isub hx hb d_M_bulb_38 ?_
        refine hk_fold (z := (1 : Int32)) (by decide) ?_
        refine lv_goto (tgt := 57) hx hb d_M_bulb_39 (by decide) ?_
        refine lv_istore_n (lv' := [(3, .int (1 : Int32)), (0, .ref (am 0)), (1, .int (5 : Int32)), (2, .int p2)]) hx hb d_M_bulb_57 rfl hl (by decide) rfl (fun ls hl => ?_)
        refine lv_iload_n hx hb d_M_bulb_58 rfl (lv_at hl 3 rfl) ?_
        refine lv_if_ne (tgt := 71) hx hb d_M_bulb_59 (by decide) (fun c_50 => ?_) (fun c_50 => ?_)
        · skip
          refine lv_iconst (v := (0 : Int32)) hx hb d_M_bulb_71 (by decide) ?_
          refine lv_goto (tgt := 78) hx hb d_M_bulb_72 (by decide) ?_
          subst hU1 hU13
          have e : m_M_bulb (5 : Int32) p2 u = ((0 : Int32), (f_M_bulb_30 (5 : Int32) (f_M_bulb_2 u))) := (if_neg c_1).trans ((if_pos c_45).trans ((if_neg c_50).trans (rfl)))
          exact hk_ri C hAe hP hD hS (by rw [e]) (by rw [e]) d_M_bulb_78
        · skip
          refine lv_aload_n hx hb d_M_bulb_62 rfl (lv_at hl 1 rfl) ?_
          refine hk_get (v := .ref (am 5)) C hP 0 5 10 i_M rfl rfl (by decide) (hk_in (by decide +kernel) rfl) rfl d_M_bulb_63 ?_
          refine lv_iload_n hx hb d_M_bulb_66 rfl (lv_at hl 0 rfl) ?_
          refine hk_zld C hP 5 1 (v := (mg10 U13) 1) rfl rfl (hk_inl (by decide)) rfl d_M_bulb_67 ?_
          refine lv_if_eq (tgt := 75) hx hb d_M_bulb_68 (by decide) (fun c_51 => ?_) (fun c_51 => ?_)
          · skip
            refine lv_iload_n hx hb d_M_bulb_75 rfl (lv_at hl 0 rfl) ?_
            refine lv_iconst (v := (1 : Int32)) hx hb d_M_bulb_76 (by decide) ?_
            refine lv_iadd hx hb d_M_bulb_77 ?_
            refine hk_fold (z := (2 : Int32)) (by decide) ?_
            subst hU1 hU13
            have e : m_M_bulb (5 : Int32) p2 u = ((2 : Int32), (f_M_bulb_30 (5 : Int32) (f_M_bulb_2 u))) := (if_neg c_1).trans ((if_pos c_45).trans ((if_pos c_50).trans ((if_pos c_51).trans (rfl))))
            exact hk_ri C hAe hP hD hS (by rw [e]) (by rw [e]) d_M_bulb_78
          · skip
            refine lv_iconst (v := (0 : Int32)) hx hb d_M_bulb_71 (by decide) ?_
            refine lv_goto (tgt := 78) hx hb d_M_bulb_72 (by decide) ?_
            subst hU1 hU13
            have e : m_M_bulb (5 : Int32) p2 u = ((0 : Int32), (f_M_bulb_30 (5 : Int32) (f_M_bulb_2 u))) := (if_neg c_1).trans ((if_pos c_45).trans ((if_pos c_50).trans ((if_neg c_51).trans (rfl))))
            exact hk_ri C hAe hP hD hS (by rw [e]) (by rw [e]) d_M_bulb_78
  · skip
    refine lv_iconst (v := (-1 : Int32)) hx hb d_M_bulb_14 (by decide) ?_
    subst hU1
    have e : m_M_bulb p1 p2 u = ((-1 : Int32), (f_M_bulb_2 u)) := (if_pos c_1).trans (rfl)
    exact hk_ri C hAe hP hD hS (by rw [e]) (by rw [e]) d_M_bulb_15
set_option maxRecDepth 100000 in
theorem Y_M_rain : hk_Y y_M_rain b_M_rain 3 (some .int) 1 := ⟨hk_in (by decide +kernel) rfl, hk_in (by decide +kernel) rfl, hk_in (by decide +kernel) rfl, hk_in (List.mem_of_getElem? (i := 700) rfl) rfl, by decide, by decide, by decide +kernel⟩
abbrev rm_M_rain : Room := { frames := 1, cells := 0, slots := 0, locals := 22 }
set_option maxHeartbeats 4000000 in
set_option maxRecDepth 100000 in
theorem c_M_rain (l : Launch) (G : hk_G) (am : Nat → Nat) (u : cM) (p1 : Int32) : hk_I l G y_M_rain b_M_rain 3 (some .int) rm_M_rain [.ref (am 0), .int p1] (wM G am u) ((m_M_rain p1 u).1) (wM G am ((m_M_rain p1 u).2)) := by
  refine hk_I_of (by decide) (Nat.le_of_ble_eq_true rfl) ?_
  intro p e s m below meth c A ls C hAe hA hP hD hS hl
  have hx := C.1
  have hb := C.2.1
  have hown := C.2.2.2.2.1
  have hts := C.2.2.2.2.2.1
  have hE := C.2.2.2.2.2.2.2
  have hl : lv_has ls 3 [(0, .ref (am 0)), (1, .int p1)] := hl
  refine lv_aload_n hx hb d_M_rain_0 rfl (lv_at hl 0 rfl) ?_
  refine lv_iconst (v := (0 : Int32)) hx hb d_M_rain_1 (by decide) ?_
  refine hk_put (w2 := wM G am (f_M_rain_2 u)) (v := .int (0 : Int32)) (ty := .int) C hP hD hS 0 5 0 i_M t_M_ok n_M rfl rfl (by decide) (hk_in (by decide +kernel) rfl) rfl (by decide +kernel) rfl rfl (Nat.le_of_ble_eq_true rfl) rfl d_M_rain_2 (fun H locs hP hD hS => ?_)
  obtain ⟨U1, hU1⟩ : ∃ z, (f_M_rain_2 u) = z := ⟨_, rfl⟩
  rw [hU1] at hP hD
  refine lv_iload_n hx hb d_M_rain_5 rfl (lv_at hl 1 rfl) ?_
  refine lv_iconst (v := (0 : Int32)) hx hb d_M_rain_6 (by decide) ?_
  refine lv_bipush (v := (9 : Int32)) hx hb d_M_rain_7 (by decide) ?_
  refine hk_goIe (hk_kS (k := 3) (As := [.int p1, .int (0 : Int32), .int (9 : Int32)]) (rest := []) C (c_M_within l G p1 (0 : Int32) (9 : Int32) _) Y_M_within (hk_in (by decide +kernel) rfl) rfl rfl ⟨Nat.le_of_ble_eq_true rfl, Nat.le_of_ble_eq_true rfl⟩ hk_Pn (hk_Dn (A := A)) rfl hl.1 rfl (Nat.le_of_ble_eq_true rfl) d_M_rain_9 ⟨Nat.zero_le _, Nat.zero_le _⟩) hP hS hA (fun H locs hP hS => ?_)
  refine lv_if_ne (tgt := 18) hx hb d_M_rain_12 (by decide) (fun c_1 => ?_) (fun c_1 => ?_)
  · skip
    refine lv_aload_n hx hb d_M_rain_18 rfl (lv_at hl 0 rfl) ?_
    refine hk_get (v := .int (mg5 U1)) C hP 0 5 5 i_M rfl rfl (by decide) (hk_in (by decide +kernel) rfl) rfl d_M_rain_19 ?_
    refine lv_istore_n (lv' := [(2, .int (mg5 U1)), (0, .ref (am 0)), (1, .int p1)]) hx hb d_M_rain_22 rfl hl (by decide) rfl (fun ls hl => ?_)
    refine lv_aload_n hx hb d_M_rain_23 rfl (lv_at hl 1 rfl) ?_
    refine lv_iload_n hx hb d_M_rain_24 rfl (lv_at hl 2 rfl) ?_
    refine hk_put (w2 := wM G am (f_M_rain_25 p1 U1)) (v := .int p1) (ty := .int) C hP hD hS 0 5 5 i_M t_M_ok n_M rfl rfl (by decide) (hk_in (by decide +kernel) rfl) rfl (by decide +kernel) rfl rfl (Nat.le_of_ble_eq_true rfl) rfl d_M_rain_25 (fun H locs hP hD hS => ?_)
    obtain ⟨U2, hU2⟩ : ∃ z, (f_M_rain_25 p1 U1) = z := ⟨_, rfl⟩
    rw [hU2] at hP hD
    refine lv_iload_n hx hb d_M_rain_28 rfl (lv_at hl 0 rfl) ?_
    subst hU1 hU2
    have e : m_M_rain p1 u = (mg5 (f_M_rain_2 u), (f_M_rain_25 p1 (f_M_rain_2 u))) := (if_neg c_1).trans (rfl)
    exact hk_ri C hAe hP hD hS (by rw [e]) (by rw [e]) d_M_rain_29
  · skip
    refine lv_bipush (v := (-2 : Int32)) hx hb d_M_rain_15 (by decide) ?_
    subst hU1
    have e : m_M_rain p1 u = ((-2 : Int32), (f_M_rain_2 u)) := (if_pos c_1).trans (rfl)
    exact hk_ri C hAe hP hD hS (by rw [e]) (by rw [e]) d_M_rain_17
set_option maxRecDepth 100000 in
theorem Y_M_crash : hk_Y y_M_crash b_M_crash 2 (some .int) 0 := ⟨hk_in (by decide +kernel) rfl, hk_in (by decide +kernel) rfl, hk_in (by decide +kernel) rfl, hk_in (List.mem_of_getElem? (i := 704) rfl) rfl, by decide, by decide, by decide +kernel⟩
abbrev rm_M_crash : Room := { frames := 4, cells := 0, slots := 0, locals := 87 }
set_option maxHeartbeats 4000000 in
set_option maxRecDepth 100000 in
theorem c_M_crash (l : Launch) (G : hk_G) (am : Nat → Nat) (u : cM) : hk_I l G y_M_crash b_M_crash 2 (some .int) rm_M_crash [.ref (am 0)] (wM G am u) ((m_M_crash u).1) (wM G am ((m_M_crash u).2)) := by
  refine hk_I_of (by decide) (Nat.le_of_ble_eq_true rfl) ?_
  intro p e s m below meth c A ls C hAe hA hP hD hS hl
  have hx := C.1
  have hb := C.2.1
  have hown := C.2.2.2.2.1
  have hts := C.2.2.2.2.2.1
  have hE := C.2.2.2.2.2.2.2
  have hl : lv_has ls 2 [(0, .ref (am 0))] := hl
  refine lv_aload_n hx hb d_M_crash_0 rfl (lv_at hl 0 rfl) ?_
  refine lv_iconst (v := (0 : Int32)) hx hb d_M_crash_1 (by decide) ?_
  refine hk_put (w2 := wM G am (f_M_crash_2 u)) (v := .int (0 : Int32)) (ty := .int) C hP hD hS 0 5 0 i_M t_M_ok n_M rfl rfl (by decide) (hk_in (by decide +kernel) rfl) rfl (by decide +kernel) rfl rfl (Nat.le_of_ble_eq_true rfl) rfl d_M_crash_2 (fun H locs hP hD hS => ?_)
  obtain ⟨U1, hU1⟩ : ∃ z, (f_M_crash_2 u) = z := ⟨_, rfl⟩
  rw [hU1] at hP hD
  refine lv_aload_n hx hb d_M_crash_5 rfl (lv_at hl 0 rfl) ?_
  refine hk_get (v := .int (mg3 U1)) C hP 0 5 3 i_M rfl rfl (by decide) (hk_in (by decide +kernel) rfl) rfl d_M_crash_6 ?_
  refine lv_if_eq (tgt := 15) hx hb d_M_crash_9 (by decide) (fun c_1 => ?_) (fun c_1 => ?_)
  · skip
    refine lv_aload_n hx hb d_M_crash_15 rfl (lv_at hl 0 rfl) ?_
    refine hk_goV (hk_kV (k := 0) (As := []) (rest := []) C (c_M_layBy l G am U1 _) Y_M_layBy (hk_in (by decide +kernel) rfl) rfl rfl ⟨Nat.le_of_ble_eq_true rfl, Nat.le_of_ble_eq_true rfl⟩ (va_recv hE.1 hP (ci := 5) (q0 := 0) rfl rfl) hP hD rfl hl.1 rfl (Nat.le_of_ble_eq_true rfl) d_M_crash_16 ⟨Nat.zero_le _, Nat.zero_le _⟩) hD hS hA (fun H locs hP hD hS => ?_)
    obtain ⟨U2, hU2⟩ : ∃ z, (m_M_layBy U1) = z := ⟨_, rfl⟩
    rw [hU2] at hP hD
    refine lv_aload_n hx hb d_M_crash_19 rfl (lv_at hl 0 rfl) ?_
    refine lv_iconst (v := (1 : Int32)) hx hb d_M_crash_20 (by decide) ?_
    refine hk_put (w2 := wM G am (f_M_crash_21 U2)) (v := .int (1 : Int32)) (ty := .boolean) C hP hD hS 0 5 3 i_M t_M_ok n_M rfl rfl (by decide) (hk_in (by decide +kernel) rfl) rfl (by decide +kernel) (hk_nb (Or.inr rfl)) (hk_fb (Or.inr rfl)) (Nat.le_of_ble_eq_true rfl) rfl d_M_crash_21 (fun H locs hP hD hS => ?_)
    obtain ⟨U3, hU3⟩ : ∃ z, (f_M_crash_21 U2) = z := ⟨_, rfl⟩
    rw [hU3] at hP hD
    refine lv_iconst (v := (0 : Int32)) hx hb d_M_crash_24 (by decide) ?_
    refine lv_istore_n (lv' := [(1, .int (0 : Int32)), (0, .ref (am 0))]) hx hb d_M_crash_25 rfl hl (by decide) rfl (fun ls hl => ?_)
    refine lv_iload_n hx hb d_M_crash_26 rfl (lv_at hl 0 rfl) ?_
    refine lv_iconst (v := (4 : Int32)) hx hb d_M_crash_27 (by decide) ?_
    refine lv_icmp_ge (tgt := 44) hx hb d_M_crash_28 (by decide) (fun c_2 => absurd c_2 (by decide)) (fun c_2 => ?_)
    refine lv_aload_n hx hb d_M_crash_31 rfl (lv_at hl 1 rfl) ?_
    refine hk_get (v := .ref (am 7)) C hP 0 5 16 i_M rfl rfl (by decide) (hk_in (by decide +kernel) rfl) rfl d_M_crash_32 ?_
    refine lv_iload_n hx hb d_M_crash_35 rfl (lv_at hl 0 rfl) ?_
    refine lv_iconst (v := (0 : Int32)) hx hb d_M_crash_36 (by decide) ?_
    refine hk_ist (w2 := wM G am (f_M_crash_37 U3)) C hP hD hS 7 0 rfl rfl (hk_inl (by decide)) rfl d_M_crash_37 (fun H locs hP hD hS => ?_)
    obtain ⟨U4, hU4⟩ : ∃ z, (f_M_crash_37 U3) = z := ⟨_, rfl⟩
    rw [hU4] at hP hD
    refine lv_iinc (v := (1 : Int32)) (lv' := [(1, .int (1 : Int32)), (0, .ref (am 0))]) hx hb d_M_crash_38 hl (k := 0) rfl (by decide) (by decide) rfl (fun ls hl => ?_)
    refine lv_goto (tgt := 26) hx hb d_M_crash_41 (by decide) ?_
    refine lv_iload_n hx hb d_M_crash_26 rfl (lv_at hl 0 rfl) ?_
    refine lv_iconst (v := (4 : Int32)) hx hb d_M_crash_27 (by decide) ?_
    refine lv_icmp_ge (tgt := 44) hx hb d_M_crash_28 (by decide) (fun c_3 => absurd c_3 (by decide)) (fun c_3 => ?_)
    refine lv_aload_n hx hb d_M_crash_31 rfl (lv_at hl 1 rfl) ?_
    refine hk_get (v := .ref (am 7)) C hP 0 5 16 i_M rfl rfl (by decide) (hk_in (by decide +kernel) rfl) rfl d_M_crash_32 ?_
    refine lv_iload_n hx hb d_M_crash_35 rfl (lv_at hl 0 rfl) ?_
    refine lv_iconst (v := (0 : Int32)) hx hb d_M_crash_36 (by decide) ?_
    refine hk_ist (w2 := wM G am (f_M_crash_37_1 U4)) C hP hD hS 7 0 rfl rfl (hk_inl (by decide)) rfl d_M_crash_37 (fun H locs hP hD hS => ?_)
    obtain ⟨U5, hU5⟩ : ∃ z, (f_M_crash_37_1 U4) = z := ⟨_, rfl⟩
    rw [hU5] at hP hD
    refine lv_iinc (v := (2 : Int32)) (lv' := [(1, .int (2 : Int32)), (0, .ref (am 0))]) hx hb d_M_crash_38 hl (k := 0) rfl (by decide) (by decide) rfl (fun ls hl => ?_)
    refine lv_goto (tgt := 26) hx hb d_M_crash_41 (by decide) ?_
    refine lv_iload_n hx hb d_M_crash_26 rfl (lv_at hl 0 rfl) ?_
    refine lv_iconst (v := (4 : Int32)) hx hb d_M_crash_27 (by decide) ?_
    refine lv_icmp_ge (tgt := 44) hx hb d_M_crash_28 (by decide) (fun c_4 => absurd c_4 (by decide)) (fun c_4 => ?_)
    refine lv_aload_n hx hb d_M_crash_31 rfl (lv_at hl 1 rfl) ?_
    refine hk_get (v := .ref (am 7)) C hP 0 5 16 i_M rfl rfl (by decide) (hk_in (by decide +kernel) rfl) rfl d_M_crash_32 ?_
    refine lv_iload_n hx hb d_M_crash_35 rfl (lv_at hl 0 rfl) ?_
    refine lv_iconst (v := (0 : Int32)) hx hb d_M_crash_36 (by decide) ?_
    refine hk_ist (w2 := wM G am (f_M_crash_37_2 U5)) C hP hD hS 7 0 rfl rfl (hk_inl (by decide)) rfl d_M_crash_37 (fun H locs hP hD hS => ?_)
    obtain ⟨U6, hU6⟩ : ∃ z, (f_M_crash_37_2 U5) = z := ⟨_, rfl⟩
    rw [hU6] at hP hD
    refine lv_iinc (v := (3 : Int32)) (lv' := [(1, .int (3 : Int32)), (0, .ref (am 0))]) hx hb d_M_crash_38 hl (k := 0) rfl (by decide) (by decide) rfl (fun ls hl => ?_)
    refine lv_goto (tgt := 26) hx hb d_M_crash_41 (by decide) ?_
    refine lv_iload_n hx hb d_M_crash_26 rfl (lv_at hl 0 rfl) ?_
    refine lv_iconst (v := (4 : Int32)) hx hb d_M_crash_27 (by decide) ?_
    refine lv_icmp_ge (tgt := 44) hx hb d_M_crash_28 (by decide) (fun c_5 => absurd c_5 (by decide)) (fun c_5 => ?_)
    refine lv_aload_n hx hb d_M_crash_31 rfl (lv_at hl 1 rfl) ?_
    refine hk_get (v := .ref (am 7)) C hP 0 5 16 i_M rfl rfl (by decide) (hk_in (by decide +kernel) rfl) rfl d_M_crash_32 ?_
    refine lv_iload_n hx hb d_M_crash_35 rfl (lv_at hl 0 rfl) ?_
    refine lv_iconst (v := (0 : Int32)) hx hb d_M_crash_36 (by decide) ?_
    refine hk_ist (w2 := wM G am (f_M_crash_37_3 U6)) C hP hD hS 7 0 rfl rfl (hk_inl (by decide)) rfl d_M_crash_37 (fun H locs hP hD hS => ?_)
    obtain ⟨U7, hU7⟩ : ∃ z, (f_M_crash_37_3 U6) = z := ⟨_, rfl⟩
    rw [hU7] at hP hD
    refine lv_iinc (v := (4 : Int32)) (lv' := [(1, .int (4 : Int32)), (0, .ref (am 0))]) hx hb d_M_crash_38 hl (k := 0) rfl (by decide) (by decide) rfl (fun ls hl => ?_)
    refine lv_goto (tgt := 26) hx hb d_M_crash_41 (by decide) ?_
    refine lv_iload_n hx hb d_M_crash_26 rfl (lv_at hl 0 rfl) ?_
    refine lv_iconst (v := (4 : Int32)) hx hb d_M_crash_27 (by decide) ?_
    refine lv_icmp_ge (tgt := 44) hx hb d_M_crash_28 (by decide) (fun c_6 => ?_) (fun c_6 => absurd (by decide) c_6)
    refine lv_aload_n hx hb d_M_crash_44 rfl (lv_at hl 1 rfl) ?_
    refine hk_goV (hk_kV (k := 0) (As := []) (rest := []) C (c_M_begin l G am U7 _) Y_M_begin (hk_in (by decide +kernel) rfl) rfl rfl ⟨Nat.le_of_ble_eq_true rfl, Nat.le_of_ble_eq_true rfl⟩ (va_recv hE.1 hP (ci := 5) (q0 := 0) rfl rfl) hP hD rfl hl.1 rfl (Nat.le_of_ble_eq_true rfl) d_M_crash_45 ⟨Nat.zero_le _, Nat.zero_le _⟩) hD hS hA (fun H locs hP hD hS => ?_)
    obtain ⟨U8, hU8⟩ : ∃ z, (m_M_begin U7) = z := ⟨_, rfl⟩
    rw [hU8] at hP hD
    refine lv_aload_n hx hb d_M_crash_48 rfl (lv_at hl 1 rfl) ?_
    refine hk_goI (hk_kV (k := 0) (As := []) (rest := []) C (c_M_others l G am U8 _) Y_M_others (hk_in (by decide +kernel) rfl) rfl rfl ⟨Nat.le_of_ble_eq_true rfl, Nat.le_of_ble_eq_true rfl⟩ (va_recv hE.1 hP (ci := 5) (q0 := 0) rfl rfl) hP hD rfl hl.1 rfl (Nat.le_of_ble_eq_true rfl) d_M_crash_49 ⟨Nat.zero_le _, Nat.zero_le _⟩) hD hS hA (fun H locs hP hD hS => ?_)
    subst hU1 hU2 hU3 hU4 hU5 hU6 hU7 hU8
    have e : m_M_crash u = (m_M_others (m_M_begin (f_M_crash_37_3 (f_M_crash_37_2 (f_M_crash_37_1 (f_M_crash_37 (f_M_crash_21 (m_M_layBy (f_M_crash_2 u)))))))), (m_M_begin (f_M_crash_37_3 (f_M_crash_37_2 (f_M_crash_37_1 (f_M_crash_37 (f_M_crash_21 (m_M_layBy (f_M_crash_2 u))))))))) := (if_pos c_1).trans (rfl)
    exact hk_ri C hAe hP hD hS (by rw [e]) (by rw [e]) d_M_crash_52
  · skip
    refine lv_bipush (v := (-3 : Int32)) hx hb d_M_crash_12 (by decide) ?_
    subst hU1
    have e : m_M_crash u = ((-3 : Int32), (f_M_crash_2 u)) := (if_neg c_1).trans (rfl)
    exact hk_ri C hAe hP hD hS (by rw [e]) (by rw [e]) d_M_crash_14
set_option maxRecDepth 100000 in
theorem Y_M_memory : hk_Y y_M_memory b_M_memory 5 (some .int) 3 := ⟨hk_in (by decide +kernel) rfl, hk_in (by decide +kernel) rfl, hk_in (by decide +kernel) rfl, hk_in (List.mem_of_getElem? (i := 708) rfl) rfl, by decide, by decide, by decide +kernel⟩
abbrev rm_M_memory : Room := { frames := 1, cells := 0, slots := 0, locals := 22 }
set_option maxHeartbeats 4000000 in
set_option maxRecDepth 100000 in
theorem c_M_memory (l : Launch) (G : hk_G) (am : Nat → Nat) (u : cM) (p1 : Int32) (p2 : Int32) (p3 : Int32) : hk_I l G y_M_memory b_M_memory 5 (some .int) rm_M_memory [.ref (am 0), .int p1, .int p2, .int p3] (wM G am u) ((m_M_memory p1 p2 p3 u).1) (wM G am ((m_M_memory p1 p2 p3 u).2)) := by
  refine hk_I_of (by decide) (Nat.le_of_ble_eq_true rfl) ?_
  intro p e s m below meth c A ls C hAe hA hP hD hS hl
  have hx := C.1
  have hb := C.2.1
  have hown := C.2.2.2.2.1
  have hts := C.2.2.2.2.2.1
  have hE := C.2.2.2.2.2.2.2
  have hl : lv_has ls 5 [(0, .ref (am 0)), (1, .int p1), (2, .int p2), (3, .int p3)] := hl
  refine lv_aload_n hx hb d_M_memory_0 rfl (lv_at hl 0 rfl) ?_
  refine lv_iconst (v := (0 : Int32)) hx hb d_M_memory_1 (by decide) ?_
  refine hk_put (w2 := wM G am (f_M_memory_2 u)) (v := .int (0 : Int32)) (ty := .int) C hP hD hS 0 5 0 i_M t_M_ok n_M rfl rfl (by decide) (hk_in (by decide +kernel) rfl) rfl (by decide +kernel) rfl rfl (Nat.le_of_ble_eq_true rfl) rfl d_M_memory_2 (fun H locs hP hD hS => ?_)
  obtain ⟨U1, hU1⟩ : ∃ z, (f_M_memory_2 u) = z := ⟨_, rfl⟩
  rw [hU1] at hP hD
  refine lv_iload_n hx hb d_M_memory_5 rfl (lv_at hl 1 rfl) ?_
  refine lv_iconst (v := (0 : Int32)) hx hb d_M_memory_6 (by decide) ?_
  refine lv_iconst (v := (3 : Int32)) hx hb d_M_memory_7 (by decide) ?_
  refine hk_goIe (hk_kS (k := 3) (As := [.int p1, .int (0 : Int32), .int (3 : Int32)]) (rest := []) C (c_M_within l G p1 (0 : Int32) (3 : Int32) _) Y_M_within (hk_in (by decide +kernel) rfl) rfl rfl ⟨Nat.le_of_ble_eq_true rfl, Nat.le_of_ble_eq_true rfl⟩ hk_Pn (hk_Dn (A := A)) rfl hl.1 rfl (Nat.le_of_ble_eq_true rfl) d_M_memory_8 ⟨Nat.zero_le _, Nat.zero_le _⟩) hP hS hA (fun H locs hP hS => ?_)
  refine lv_if_ne (tgt := 16) hx hb d_M_memory_11 (by decide) (fun c_1 => ?_) (fun c_1 => ?_)
  · skip
    refine lv_iload_n hx hb d_M_memory_16 rfl (lv_at hl 2 rfl) ?_
    refine lv_iconst (v := (0 : Int32)) hx hb d_M_memory_17 (by decide) ?_
    refine lv_iconst (v := (4 : Int32)) hx hb d_M_memory_18 (by decide) ?_
    refine hk_goIe (hk_kS (k := 3) (As := [.int p2, .int (0 : Int32), .int (4 : Int32)]) (rest := []) C (c_M_within l G p2 (0 : Int32) (4 : Int32) _) Y_M_within (hk_in (by decide +kernel) rfl) rfl rfl ⟨Nat.le_of_ble_eq_true rfl, Nat.le_of_ble_eq_true rfl⟩ hk_Pn (hk_Dn (A := A)) rfl hl.1 rfl (Nat.le_of_ble_eq_true rfl) d_M_memory_19 ⟨Nat.zero_le _, Nat.zero_le _⟩) hP hS hA (fun H locs hP hS => ?_)
    refine lv_if_eq (tgt := 34) hx hb d_M_memory_22 (by decide) (fun c_2 => ?_) (fun c_2 => ?_)
    · skip
      refine lv_bipush (v := (-2 : Int32)) hx hb d_M_memory_34 (by decide) ?_
      subst hU1
      have e : m_M_memory p1 p2 p3 u = ((-2 : Int32), (f_M_memory_2 u)) := (if_neg c_1).trans ((if_pos c_2).trans (rfl))
      exact hk_ri C hAe hP hD hS (by rw [e]) (by rw [e]) d_M_memory_36
    · skip
      refine lv_iload_n hx hb d_M_memory_25 rfl (lv_at hl 3 rfl) ?_
      refine lv_iconst (v := (0 : Int32)) hx hb d_M_memory_26 (by decide) ?_
      refine lv_iconst (v := (1 : Int32)) hx hb d_M_memory_27 (by decide) ?_
      refine hk_goIe (hk_kS (k := 3) (As := [.int p3, .int (0 : Int32), .int (1 : Int32)]) (rest := []) C (c_M_within l G p3 (0 : Int32) (1 : Int32) _) Y_M_within (hk_in (by decide +kernel) rfl) rfl rfl ⟨Nat.le_of_ble_eq_true rfl, Nat.le_of_ble_eq_true rfl⟩ hk_Pn (hk_Dn (A := A)) rfl hl.1 rfl (Nat.le_of_ble_eq_true rfl) d_M_memory_28 ⟨Nat.zero_le _, Nat.zero_le _⟩) hP hS hA (fun H locs hP hS => ?_)
      refine lv_if_ne (tgt := 37) hx hb d_M_memory_31 (by decide) (fun c_3 => ?_) (fun c_3 => ?_)
      · skip
        refine lv_iconst (v := (5 : Int32)) hx hb d_M_memory_37 (by decide) ?_
        refine lv_iload_n hx hb d_M_memory_38 rfl (lv_at hl 1 rfl) ?_
        refine lv_imul hx hb d_M_memory_39 ?_
        refine lv_iload_n hx hb d_M_memory_40 rfl (lv_at hl 2 rfl) ?_
        refine lv_iadd hx hb d_M_memory_41 ?_
        refine lv_istore (lv' := [(4, .int (((5 : Int32) * p1) + p2)), (0, .ref (am 0)), (1, .int p1), (2, .int p2), (3, .int p3)]) hx hb d_M_memory_42 hl (by decide) rfl (fun ls hl => ?_)
        refine lv_iload_n hx hb d_M_memory_44 rfl (lv_at hl 4 rfl) ?_
        refine lv_if_ne (tgt := 76) hx hb d_M_memory_45 (by decide) (fun c_4 => ?_) (fun c_4 => ?_)
        · skip
          refine lv_aload_n hx hb d_M_memory_76 rfl (lv_at hl 1 rfl) ?_
          refine hk_get (v := .ref (am 12)) C hP 0 5 24 i_M rfl rfl (by decide) (hk_in (by decide +kernel) rfl) rfl d_M_memory_77 ?_
          refine lv_iload hx hb d_M_memory_80 (lv_at hl 0 rfl) ?_
          refine hk_ild C hP 12 0 (v := (mg24 U1) (((5 : Int32) * p1) + p2).toNatClampNeg) rfl rfl (by subst hU1; exact hk_k20 c_1 c_2) rfl d_M_memory_82 ?_
          refine lv_if_lt (tgt := 118) hx hb d_M_memory_83 (by decide) (fun c_5 => ?_) (fun c_5 => ?_)
          · skip
            refine lv_aload_n hx hb d_M_memory_118 rfl (lv_at hl 1 rfl) ?_
            refine hk_get (v := .ref (am 12)) C hP 0 5 24 i_M rfl rfl (by decide) (hk_in (by decide +kernel) rfl) rfl d_M_memory_119 ?_
            refine lv_iload hx hb d_M_memory_122 (lv_at hl 0 rfl) ?_
            refine hk_ild C hP 12 0 (v := (mg24 U1) (((5 : Int32) * p1) + p2).toNatClampNeg) rfl rfl (by subst hU1; exact hk_k20 c_1 c_2) rfl d_M_memory_124 ?_
            subst hU1
            have e : m_M_memory p1 p2 p3 u = ((mg24 (f_M_memory_2 u)) (((5 : Int32) * p1) + p2).toNatClampNeg, (f_M_memory_2 u)) := (if_neg c_1).trans ((if_neg c_2).trans ((if_neg c_3).trans ((if_neg c_4).trans ((if_pos c_5).trans (rfl)))))
            exact hk_ri C hAe hP hD hS (by rw [e]) (by rw [e]) d_M_memory_125
          · skip
            refine lv_iload_n hx hb d_M_memory_86 rfl (lv_at hl 3 rfl) ?_
            refine lv_iconst (v := (4 : Int32)) hx hb d_M_memory_87 (by decide) ?_
            refine lv_icmp_ne (tgt := 105) hx hb d_M_memory_88 (by decide) (fun c_6 => ?_) (fun c_6 => ?_)
            · skip
              refine lv_aload_n hx hb d_M_memory_105 rfl (lv_at hl 1 rfl) ?_
              refine hk_get (v := .ref (am 7)) C hP 0 5 16 i_M rfl rfl (by decide) (hk_in (by decide +kernel) rfl) rfl d_M_memory_106 ?_
              refine lv_iload_n hx hb d_M_memory_109 rfl (lv_at hl 3 rfl) ?_
              refine lv_aload_n hx hb d_M_memory_110 rfl (lv_at hl 1 rfl) ?_
              refine hk_get (v := .ref (am 12)) C hP 0 5 24 i_M rfl rfl (by decide) (hk_in (by decide +kernel) rfl) rfl d_M_memory_111 ?_
              refine lv_iload hx hb d_M_memory_114 (lv_at hl 0 rfl) ?_
              refine hk_ild C hP 12 0 (v := (mg24 U1) (((5 : Int32) * p1) + p2).toNatClampNeg) rfl rfl (by subst hU1; exact hk_k20 c_1 c_2) rfl d_M_memory_116 ?_
              refine hk_ist (w2 := wM G am (f_M_memory_117 p1 p2 U1)) C hP hD hS 7 0 rfl rfl (by subst hU1; exact hk_w4b c_2 c_6) rfl d_M_memory_117 (fun H locs hP hD hS => ?_)
              obtain ⟨U2, hU2⟩ : ∃ z, (f_M_memory_117 p1 p2 U1) = z := ⟨_, rfl⟩
              rw [hU2] at hP hD
              refine lv_aload_n hx hb d_M_memory_118 rfl (lv_at hl 1 rfl) ?_
              refine hk_get (v := .ref (am 12)) C hP 0 5 24 i_M rfl rfl (by decide) (hk_in (by decide +kernel) rfl) rfl d_M_memory_119 ?_
              refine lv_iload hx hb d_M_memory_122 (lv_at hl 0 rfl) ?_
              refine hk_ild C hP 12 0 (v := (mg24 U2) (((5 : Int32) * p1) + p2).toNatClampNeg) rfl rfl (by subst hU1 hU2; exact hk_k20 c_1 c_2) rfl d_M_memory_124 ?_
              subst hU1 hU2
              have e : m_M_memory p1 p2 p3 u = ((mg24 (f_M_memory_117 p1 p2 (f_M_memory_2 u))) (((5 : Int32) * p1) + p2).toNatClampNeg, (f_M_memory_117 p1 p2 (f_M_memory_2 u))) := (if_neg c_1).trans ((if_neg c_2).trans ((if_neg c_3).trans ((if_neg c_4).trans ((if_neg c_5).trans ((if_neg c_6).trans (rfl))))))
              exact hk_ri C hAe hP hD hS (by rw [e]) (by rw [e]) d_M_memory_125
            · skip
              refine lv_aload_n hx hb d_M_memory_91 rfl (lv_at hl 1 rfl) ?_
              refine lv_aload_n hx hb d_M_memory_92 rfl (lv_at hl 1 rfl) ?_
              refine hk_get (v := .ref (am 12)) C hP 0 5 24 i_M rfl rfl (by decide) (hk_in (by decide +kernel) rfl) rfl d_M_memory_93 ?_
              refine lv_iload hx hb d_M_memory_96 (lv_at hl 0 rfl) ?_
              refine hk_ild C hP 12 0 (v := (mg24 U1) (((5 : Int32) * p1) + p2).toNatClampNeg) rfl rfl (by subst hU1; exact hk_k20 c_1 c_2) rfl d_M_memory_98 ?_
              refine hk_put (w2 := wM G am (f_M_memory_99 p1 p2 U1)) (v := .int ((mg24 U1) (((5 : Int32) * p1) + p2).toNatClampNeg)) (ty := .int) C hP hD hS 0 5 14 i_M t_M_ok n_M rfl rfl (by decide) (hk_in (by decide +kernel) rfl) rfl (by decide +kernel) rfl rfl (Nat.le_of_ble_eq_true rfl) rfl d_M_memory_99 (fun H locs hP hD hS => ?_)
              obtain ⟨U3, hU3⟩ : ∃ z, (f_M_memory_99 p1 p2 U1) = z := ⟨_, rfl⟩
              rw [hU3] at hP hD
              refine lv_goto (tgt := 118) hx hb d_M_memory_102 (by decide) ?_
              refine lv_aload_n hx hb d_M_memory_118 rfl (lv_at hl 1 rfl) ?_
              refine hk_get (v := .ref (am 12)) C hP 0 5 24 i_M rfl rfl (by decide) (hk_in (by decide +kernel) rfl) rfl d_M_memory_119 ?_
              refine lv_iload hx hb d_M_memory_122 (lv_at hl 0 rfl) ?_
              refine hk_ild C hP 12 0 (v := (mg24 U3) (((5 : Int32) * p1) + p2).toNatClampNeg) rfl rfl (by subst hU1 hU3; exact hk_k20 c_1 c_2) rfl d_M_memory_124 ?_
              subst hU1 hU3
              have e : m_M_memory p1 p2 p3 u = ((mg24 (f_M_memory_99 p1 p2 (f_M_memory_2 u))) (((5 : Int32) * p1) + p2).toNatClampNeg, (f_M_memory_99 p1 p2 (f_M_memory_2 u))) := (if_neg c_1).trans ((if_neg c_2).trans ((if_neg c_3).trans ((if_neg c_4).trans ((if_neg c_5).trans ((if_pos c_6).trans (rfl))))))
              exact hk_ri C hAe hP hD hS (by rw [e]) (by rw [e]) d_M_memory_125
        · skip
          refine lv_aload_n hx hb d_M_memory_48 rfl (lv_at hl 1 rfl) ?_
          refine hk_get (v := .ref (am 12)) C hP 0 5 24 i_M rfl rfl (by decide) (hk_in (by decide +kernel) rfl) rfl d_M_memory_49 ?_
          refine lv_iload hx hb d_M_memory_52 (lv_at hl 0 rfl) ?_
          refine lv_iload_n hx hb d_M_memory_54 rfl (lv_at hl 3 rfl) ?_
          refine lv_iconst (v := (4 : Int32)) hx hb d_M_memory_55 (by decide) ?_
          refine lv_icmp_ne (tgt := 66) hx hb d_M_memory_56 (by decide) (fun c_7 => ?_) (fun c_7 => ?_)
          · skip
            refine lv_aload_n hx hb d_M_memory_66 rfl (lv_at hl 1 rfl) ?_
            refine hk_get (v := .ref (am 7)) C hP 0 5 16 i_M rfl rfl (by decide) (hk_in (by decide +kernel) rfl) rfl d_M_memory_67 ?_
            refine lv_iload_n hx hb d_M_memory_70 rfl (lv_at hl 3 rfl) ?_
            refine hk_ild C hP 7 0 (v := (mg16 U1) p2.toNatClampNeg) rfl rfl (by subst hU1; exact hk_w4b c_2 c_7) rfl d_M_memory_71 ?_
            refine hk_ist (w2 := wM G am (f_M_memory_72_1 p1 p2 U1)) C hP hD hS 12 0 rfl rfl (by subst hU1; exact hk_k20 c_1 c_2) rfl d_M_memory_72 (fun H locs hP hD hS => ?_)
            obtain ⟨U4, hU4⟩ : ∃ z, (f_M_memory_72_1 p1 p2 U1) = z := ⟨_, rfl⟩
            rw [hU4] at hP hD
            refine lv_goto (tgt := 118) hx hb d_M_memory_73 (by decide) ?_
            refine lv_aload_n hx hb d_M_memory_118 rfl (lv_at hl 1 rfl) ?_
            refine hk_get (v := .ref (am 12)) C hP 0 5 24 i_M rfl rfl (by decide) (hk_in (by decide +kernel) rfl) rfl d_M_memory_119 ?_
            refine lv_iload hx hb d_M_memory_122 (lv_at hl 0 rfl) ?_
            refine hk_ild C hP 12 0 (v := (mg24 U4) (((5 : Int32) * p1) + p2).toNatClampNeg) rfl rfl (by subst hU1 hU4; exact hk_k20 c_1 c_2) rfl d_M_memory_124 ?_
            subst hU1 hU4
            have e : m_M_memory p1 p2 p3 u = ((mg24 (f_M_memory_72_1 p1 p2 (f_M_memory_2 u))) (((5 : Int32) * p1) + p2).toNatClampNeg, (f_M_memory_72_1 p1 p2 (f_M_memory_2 u))) := (if_neg c_1).trans ((if_neg c_2).trans ((if_neg c_3).trans ((if_pos c_4).trans ((if_neg c_7).trans (rfl)))))
            exact hk_ri C hAe hP hD hS (by rw [e]) (by rw [e]) d_M_memory_125
          · skip
            refine lv_aload_n hx hb d_M_memory_59 rfl (lv_at hl 1 rfl) ?_
            refine hk_get (v := .int (mg14 U1)) C hP 0 5 14 i_M rfl rfl (by decide) (hk_in (by decide +kernel) rfl) rfl d_M_memory_60 ?_
            refine lv_goto (tgt := 72) hx hb d_M_memory_63 (by decide) ?_
            refine hk_ist (w2 := wM G am (f_M_memory_72 p1 p2 U1)) C hP hD hS 12 0 rfl rfl (by subst hU1; exact hk_k20 c_1 c_2) rfl d_M_memory_72 (fun H locs hP hD hS => ?_)
            obtain ⟨U5, hU5⟩ : ∃ z, (f_M_memory_72 p1 p2 U1) = z := ⟨_, rfl⟩
            rw [hU5] at hP hD
            refine lv_goto (tgt := 118) hx hb d_M_memory_73 (by decide) ?_
            refine lv_aload_n hx hb d_M_memory_118 rfl (lv_at hl 1 rfl) ?_
            refine hk_get (v := .ref (am 12)) C hP 0 5 24 i_M rfl rfl (by decide) (hk_in (by decide +kernel) rfl) rfl d_M_memory_119 ?_
            refine lv_iload hx hb d_M_memory_122 (lv_at hl 0 rfl) ?_
            refine hk_ild C hP 12 0 (v := (mg24 U5) (((5 : Int32) * p1) + p2).toNatClampNeg) rfl rfl (by subst hU1 hU5; exact hk_k20 c_1 c_2) rfl d_M_memory_124 ?_
            subst hU1 hU5
            have e : m_M_memory p1 p2 p3 u = ((mg24 (f_M_memory_72 p1 p2 (f_M_memory_2 u))) (((5 : Int32) * p1) + p2).toNatClampNeg, (f_M_memory_72 p1 p2 (f_M_memory_2 u))) := (if_neg c_1).trans ((if_neg c_2).trans ((if_neg c_3).trans ((if_pos c_4).trans ((if_pos c_7).trans (rfl)))))
            exact hk_ri C hAe hP hD hS (by rw [e]) (by rw [e]) d_M_memory_125
      · skip
        refine lv_bipush (v := (-2 : Int32)) hx hb d_M_memory_34 (by decide) ?_
        subst hU1
        have e : m_M_memory p1 p2 p3 u = ((-2 : Int32), (f_M_memory_2 u)) := (if_neg c_1).trans ((if_neg c_2).trans ((if_pos c_3).trans (rfl)))
        exact hk_ri C hAe hP hD hS (by rw [e]) (by rw [e]) d_M_memory_36
  · skip
    refine lv_iconst (v := (-1 : Int32)) hx hb d_M_memory_14 (by decide) ?_
    subst hU1
    have e : m_M_memory p1 p2 p3 u = ((-1 : Int32), (f_M_memory_2 u)) := (if_pos c_1).trans (rfl)
    exact hk_ri C hAe hP hD hS (by rw [e]) (by rw [e]) d_M_memory_15
set_option maxRecDepth 100000 in
theorem Y_M_trailer : hk_Y y_M_trailer b_M_trailer 2 (some .int) 1 := ⟨hk_in (by decide +kernel) rfl, hk_in (by decide +kernel) rfl, hk_in (by decide +kernel) rfl, hk_in (List.mem_of_getElem? (i := 712) rfl) rfl, by decide, by decide, by decide +kernel⟩
abbrev rm_M_trailer : Room := { frames := 4, cells := 0, slots := 0, locals := 87 }
set_option maxHeartbeats 4000000 in
set_option maxRecDepth 100000 in
theorem c_M_trailer (l : Launch) (G : hk_G) (am : Nat → Nat) (u : cM) (p1 : Int32) (h01 : p1 = 0 ∨ p1 = 1) : hk_I l G y_M_trailer b_M_trailer 2 (some .int) rm_M_trailer [.ref (am 0), .int p1] (wM G am u) ((m_M_trailer p1 u).1) (wM G am ((m_M_trailer p1 u).2)) := by
  refine hk_I_of (by decide) (Nat.le_of_ble_eq_true rfl) ?_
  intro p e s m below meth c A ls C hAe hA hP hD hS hl
  have hx := C.1
  have hb := C.2.1
  have hown := C.2.2.2.2.1
  have hts := C.2.2.2.2.2.1
  have hE := C.2.2.2.2.2.2.2
  have hl : lv_has ls 2 [(0, .ref (am 0)), (1, .int p1)] := hl
  refine lv_aload_n hx hb d_M_trailer_0 rfl (lv_at hl 0 rfl) ?_
  refine lv_iconst (v := (0 : Int32)) hx hb d_M_trailer_1 (by decide) ?_
  refine hk_put (w2 := wM G am (f_M_trailer_2 u)) (v := .int (0 : Int32)) (ty := .int) C hP hD hS 0 5 0 i_M t_M_ok n_M rfl rfl (by decide) (hk_in (by decide +kernel) rfl) rfl (by decide +kernel) rfl rfl (Nat.le_of_ble_eq_true rfl) rfl d_M_trailer_2 (fun H locs hP hD hS => ?_)
  obtain ⟨U1, hU1⟩ : ∃ z, (f_M_trailer_2 u) = z := ⟨_, rfl⟩
  rw [hU1] at hP hD
  refine lv_aload_n hx hb d_M_trailer_5 rfl (lv_at hl 0 rfl) ?_
  refine hk_goV (hk_kV (k := 0) (As := []) (rest := []) C (c_M_layBy l G am U1 _) Y_M_layBy (hk_in (by decide +kernel) rfl) rfl rfl ⟨Nat.le_of_ble_eq_true rfl, Nat.le_of_ble_eq_true rfl⟩ (va_recv hE.1 hP (ci := 5) (q0 := 0) rfl rfl) hP hD rfl hl.1 rfl (Nat.le_of_ble_eq_true rfl) d_M_trailer_6 ⟨Nat.zero_le _, Nat.zero_le _⟩) hD hS hA (fun H locs hP hD hS => ?_)
  obtain ⟨U2, hU2⟩ : ∃ z, (m_M_layBy U1) = z := ⟨_, rfl⟩
  rw [hU2] at hP hD
  refine lv_aload_n hx hb d_M_trailer_9 rfl (lv_at hl 0 rfl) ?_
  refine lv_iload_n hx hb d_M_trailer_10 rfl (lv_at hl 1 rfl) ?_
  refine hk_put (w2 := wM G am (f_M_trailer_11 p1 U2)) (v := .int p1) (ty := .boolean) C hP hD hS 0 5 4 i_M t_M_ok n_M rfl rfl (by decide) (hk_in (by decide +kernel) rfl) rfl (by decide +kernel) (hk_nb h01) (hk_fb h01) (Nat.le_of_ble_eq_true rfl) rfl d_M_trailer_11 (fun H locs hP hD hS => ?_)
  obtain ⟨U3, hU3⟩ : ∃ z, (f_M_trailer_11 p1 U2) = z := ⟨_, rfl⟩
  rw [hU3] at hP hD
  refine lv_aload_n hx hb d_M_trailer_14 rfl (lv_at hl 0 rfl) ?_
  refine hk_goI (hk_kV (k := 0) (As := []) (rest := []) C (c_M_others l G am U3 _) Y_M_others (hk_in (by decide +kernel) rfl) rfl rfl ⟨Nat.le_of_ble_eq_true rfl, Nat.le_of_ble_eq_true rfl⟩ (va_recv hE.1 hP (ci := 5) (q0 := 0) rfl rfl) hP hD rfl hl.1 rfl (Nat.le_of_ble_eq_true rfl) d_M_trailer_15 ⟨Nat.zero_le _, Nat.zero_le _⟩) hD hS hA (fun H locs hP hD hS => ?_)
  subst hU1 hU2 hU3
  have e : m_M_trailer p1 u = (m_M_others (f_M_trailer_11 p1 (m_M_layBy (f_M_trailer_2 u))), (f_M_trailer_11 p1 (m_M_layBy (f_M_trailer_2 u)))) := rfl
  exact hk_ri C hAe hP hD hS (by rw [e]) (by rw [e]) d_M_trailer_18
set_option maxRecDepth 100000 in
theorem Y_M_state : hk_Y y_M_state b_M_state 2 (some .int) 1 := ⟨hk_in (by decide +kernel) rfl, hk_in (by decide +kernel) rfl, hk_in (by decide +kernel) rfl, hk_in (List.mem_of_getElem? (i := 716) rfl) rfl, by decide, by decide, by decide +kernel⟩
abbrev rm_M_state : Room := { frames := 1, cells := 0, slots := 0, locals := 22 }
set_option maxHeartbeats 4000000 in
set_option maxRecDepth 100000 in
theorem c_M_state (l : Launch) (G : hk_G) (am : Nat → Nat) (u : cM) (p1 : Int32) : hk_I l G y_M_state b_M_state 2 (some .int) rm_M_state [.ref (am 0), .int p1] (wM G am u) ((m_M_state p1 u).1) (wM G am ((m_M_state p1 u).2)) := by
  refine hk_I_of (by decide) (Nat.le_of_ble_eq_true rfl) ?_
  intro p e s m below meth c A ls C hAe hA hP hD hS hl
  have hx := C.1
  have hb := C.2.1
  have hown := C.2.2.2.2.1
  have hts := C.2.2.2.2.2.1
  have hE := C.2.2.2.2.2.2.2
  have hl : lv_has ls 2 [(0, .ref (am 0)), (1, .int p1)] := hl
  refine lv_aload_n hx hb d_M_state_0 rfl (lv_at hl 0 rfl) ?_
  refine lv_iconst (v := (0 : Int32)) hx hb d_M_state_1 (by decide) ?_
  refine hk_put (w2 := wM G am (f_M_state_2 u)) (v := .int (0 : Int32)) (ty := .int) C hP hD hS 0 5 0 i_M t_M_ok n_M rfl rfl (by decide) (hk_in (by decide +kernel) rfl) rfl (by decide +kernel) rfl rfl (Nat.le_of_ble_eq_true rfl) rfl d_M_state_2 (fun H locs hP hD hS => ?_)
  obtain ⟨U1, hU1⟩ : ∃ z, (f_M_state_2 u) = z := ⟨_, rfl⟩
  rw [hU1] at hP hD
  refine lv_iload_n hx hb d_M_state_5 rfl (lv_at hl 1 rfl) ?_
  refine lv_iconst (v := (0 : Int32)) hx hb d_M_state_6 (by decide) ?_
  refine lv_bipush (v := (9 : Int32)) hx hb d_M_state_7 (by decide) ?_
  refine hk_goIe (hk_kS (k := 3) (As := [.int p1, .int (0 : Int32), .int (9 : Int32)]) (rest := []) C (c_M_within l G p1 (0 : Int32) (9 : Int32) _) Y_M_within (hk_in (by decide +kernel) rfl) rfl rfl ⟨Nat.le_of_ble_eq_true rfl, Nat.le_of_ble_eq_true rfl⟩ hk_Pn (hk_Dn (A := A)) rfl hl.1 rfl (Nat.le_of_ble_eq_true rfl) d_M_state_9 ⟨Nat.zero_le _, Nat.zero_le _⟩) hP hS hA (fun H locs hP hS => ?_)
  refine lv_if_ne (tgt := 18) hx hb d_M_state_12 (by decide) (fun c_1 => ?_) (fun c_1 => ?_)
  · skip
    refine lv_iload_n hx hb d_M_state_18 rfl (lv_at hl 1 rfl) ?_
    refine lv_iconst (v := (4 : Int32)) hx hb d_M_state_19 (by decide) ?_
    refine lv_icmp_ge (tgt := 32) hx hb d_M_state_20 (by decide) (fun c_2 => ?_) (fun c_2 => ?_)
    · skip
      refine lv_iload_n hx hb d_M_state_32 rfl (lv_at hl 1 rfl) ?_
      refine lv_iconst (v := (4 : Int32)) hx hb d_M_state_33 (by decide) ?_
      refine lv_icmp_ne (tgt := 44) hx hb d_M_state_34 (by decide) (fun c_3 => ?_) (fun c_3 => ?_)
      · skip
        refine lv_iload_n hx hb d_M_state_44 rfl (lv_at hl 1 rfl) ?_
        refine lv_iconst (v := (5 : Int32)) hx hb d_M_state_45 (by decide) ?_
        refine lv_icmp_ne (tgt := 56) hx hb d_M_state_46 (by decide) (fun c_4 => ?_) (fun c_4 => ?_)
        · skip
          refine lv_iload_n hx hb d_M_state_56 rfl (lv_at hl 1 rfl) ?_
          refine lv_bipush (v := (8 : Int32)) hx hb d_M_state_57 (by decide) ?_
          refine lv_icmp_ge (tgt := 74) hx hb d_M_state_59 (by decide) (fun c_5 => ?_) (fun c_5 => ?_)
          · skip
            refine lv_iload_n hx hb d_M_state_74 rfl (lv_at hl 1 rfl) ?_
            refine lv_bipush (v := (8 : Int32)) hx hb d_M_state_75 (by decide) ?_
            refine lv_icmp_ne (tgt := 95) hx hb d_M_state_77 (by decide) (fun c_6 => ?_) (fun c_6 => ?_)
            · skip
              refine lv_aload_n hx hb d_M_state_95 rfl (lv_at hl 0 rfl) ?_
              refine hk_get (v := .int (mg6 U1)) C hP 0 5 6 i_M rfl rfl (by decide) (hk_in (by decide +kernel) rfl) rfl d_M_state_96 ?_
              subst hU1
              have e : m_M_state p1 u = (mg6 (f_M_state_2 u), (f_M_state_2 u)) := (if_neg c_1).trans ((if_pos c_2).trans ((if_neg c_3).trans ((if_neg c_4).trans ((if_pos c_5).trans ((if_neg c_6).trans (rfl))))))
              exact hk_ri C hAe hP hD hS (by rw [e]) (by rw [e]) d_M_state_99
            · skip
              refine lv_aload_n hx hb d_M_state_80 rfl (lv_at hl 0 rfl) ?_
              refine hk_get (v := .int (mg2 U1)) C hP 0 5 2 i_M rfl rfl (by decide) (hk_in (by decide +kernel) rfl) rfl d_M_state_81 ?_
              refine lv_if_eq (tgt := 91) hx hb d_M_state_84 (by decide) (fun c_7 => ?_) (fun c_7 => ?_)
              · skip
                refine lv_iconst (v := (0 : Int32)) hx hb d_M_state_91 (by decide) ?_
                refine lv_goto (tgt := 99) hx hb d_M_state_92 (by decide) ?_
                subst hU1
                have e : m_M_state p1 u = ((0 : Int32), (f_M_state_2 u)) := (if_neg c_1).trans ((if_pos c_2).trans ((if_neg c_3).trans ((if_neg c_4).trans ((if_pos c_5).trans ((if_pos c_6).trans ((if_pos c_7).trans (rfl)))))))
                exact hk_ri C hAe hP hD hS (by rw [e]) (by rw [e]) d_M_state_99
              · skip
                refine lv_iconst (v := (1 : Int32)) hx hb d_M_state_87 (by decide) ?_
                refine lv_goto (tgt := 99) hx hb d_M_state_88 (by decide) ?_
                subst hU1
                have e : m_M_state p1 u = ((1 : Int32), (f_M_state_2 u)) := (if_neg c_1).trans ((if_pos c_2).trans ((if_neg c_3).trans ((if_neg c_4).trans ((if_pos c_5).trans ((if_pos c_6).trans ((if_neg c_7).trans (rfl)))))))
                exact hk_ri C hAe hP hD hS (by rw [e]) (by rw [e]) d_M_state_99
          · skip
            refine lv_aload_n hx hb d_M_state_62 rfl (lv_at hl 0 rfl) ?_
            refine hk_get (v := .ref (am 4)) C hP 0 5 9 i_M rfl rfl (by decide) (hk_in (by decide +kernel) rfl) rfl d_M_state_63 ?_
            refine lv_iload_n hx hb d_M_state_66 rfl (lv_at hl 1 rfl) ?_
            refine lv_bipush (v := (6 : Int32)) hx hb d_M_state_67 (by decide) ?_
            refine lv_isub hx hb d_M_state_69 ?_
            refine hk_ild C hP 4 0 (v := (mg9 U1) (p1 - (6 : Int32)).toNatClampNeg) rfl rfl (by subst hU1; exact hk_s67 c_1 c_2 c_3 c_4 c_5) rfl d_M_state_70 ?_
            refine lv_goto (tgt := 99) hx hb d_M_state_71 (by decide) ?_
            subst hU1
            have e : m_M_state p1 u = ((mg9 (f_M_state_2 u)) (p1 - (6 : Int32)).toNatClampNeg, (f_M_state_2 u)) := (if_neg c_1).trans ((if_pos c_2).trans ((if_neg c_3).trans ((if_neg c_4).trans ((if_neg c_5).trans (rfl)))))
            exact hk_ri C hAe hP hD hS (by rw [e]) (by rw [e]) d_M_state_99
        · skip
          refine lv_aload_n hx hb d_M_state_49 rfl (lv_at hl 0 rfl) ?_
          refine hk_get (v := .int (mg12 U1)) C hP 0 5 12 i_M rfl rfl (by decide) (hk_in (by decide +kernel) rfl) rfl d_M_state_50 ?_
          refine lv_goto (tgt := 99) hx hb d_M_state_53 (by decide) ?_
          subst hU1
          have e : m_M_state p1 u = (mg12 (f_M_state_2 u), (f_M_state_2 u)) := (if_neg c_1).trans ((if_pos c_2).trans ((if_neg c_3).trans ((if_pos c_4).trans (rfl))))
          exact hk_ri C hAe hP hD hS (by rw [e]) (by rw [e]) d_M_state_99
      · skip
        refine lv_aload_n hx hb d_M_state_37 rfl (lv_at hl 0 rfl) ?_
        refine hk_get (v := .int (mg11 U1)) C hP 0 5 11 i_M rfl rfl (by decide) (hk_in (by decide +kernel) rfl) rfl d_M_state_38 ?_
        refine lv_goto (tgt := 99) hx hb d_M_state_41 (by decide) ?_
        subst hU1
        have e : m_M_state p1 u = (mg11 (f_M_state_2 u), (f_M_state_2 u)) := (if_neg c_1).trans ((if_pos c_2).trans ((if_pos c_3).trans (rfl)))
        exact hk_ri C hAe hP hD hS (by rw [e]) (by rw [e]) d_M_state_99
    · skip
      refine lv_aload_n hx hb d_M_state_23 rfl (lv_at hl 0 rfl) ?_
      refine hk_get (v := .ref (am 6)) C hP 0 5 15 i_M rfl rfl (by decide) (hk_in (by decide +kernel) rfl) rfl d_M_state_24 ?_
      refine lv_iload_n hx hb d_M_state_27 rfl (lv_at hl 1 rfl) ?_
      refine hk_ild C hP 6 0 (v := (mg15 U1) p1.toNatClampNeg) rfl rfl (by subst hU1; exact hk_s4 c_1 c_2) rfl d_M_state_28 ?_
      refine lv_goto (tgt := 99) hx hb d_M_state_29 (by decide) ?_
      subst hU1
      have e : m_M_state p1 u = ((mg15 (f_M_state_2 u)) p1.toNatClampNeg, (f_M_state_2 u)) := (if_neg c_1).trans ((if_neg c_2).trans (rfl))
      exact hk_ri C hAe hP hD hS (by rw [e]) (by rw [e]) d_M_state_99
  · skip
    refine lv_bipush (v := (-2 : Int32)) hx hb d_M_state_15 (by decide) ?_
    subst hU1
    have e : m_M_state p1 u = ((-2 : Int32), (f_M_state_2 u)) := (if_pos c_1).trans (rfl)
    exact hk_ri C hAe hP hD hS (by rw [e]) (by rw [e]) d_M_state_17
