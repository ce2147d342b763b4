theorem Y_B_input : hk_Y y_B_input b_B_input 3 (some .int) 2 := ⟨hk_in (by decide +kernel) rfl, hk_in (by decide +kernel) rfl, hk_in (by decide +kernel) rfl, hk_in (List.mem_of_getElem? (i := 203) rfl) rfl, by decide, by decide, by decide +kernel⟩
abbrev rm_B_input : Room := { frames := 5, cells := 0, slots := 0, locals := 105 }
set_option maxHeartbeats 4000000 in
set_option maxRecDepth 100000 in
theorem tl_B_input_67 {p : Program} {l : Launch} {e : Env} {s : State} {m : MethodId} {below : List Frame} {meth : Method} {c : Code} {A : Nat → Prop} {H : Heap} {locs : List Loc} {ls : Array Slot} {w0 w1 : va_W} {r : Int32} (G : hk_G) (ad : Nat → Nat) (u : cB) (p1 : Int32) (p2 : Int32) (hI : Iv u) (C : hk_C p s m meth c R_B b_B_input 3 (some .int) ([.ref (ad 0), .int p1, .int p2] : List Value).toArray G) (hAe : va_A w0 s.heap.size = A) (hA : ∀ q : Nat, s.heap.size ≤ q → A q) (hP : va_P (hk_D G) classes (wB G ad u) H) (hD : va_D A (wB G ad u)) (hS : va_S A s.heap H locs) (hl : lv_has ls 3 [(0, .ref (ad 0)), (1, .int p1), (2, .int p2)]) (hr : r = (g_B_input_67 p1 p2 u).1) (hw : w1 = wB G ad ((g_B_input_67 p1 p2 u).2)) : W p l e rm_B_input s m ([.ref (ad 0), .int p1, .int p2] : List Value).toArray below meth c H locs 0 0 (MQ below (va_Qi (fun (x : Int32) (_ : Unit) => x = r) (hk_B G w0 w1 s.heap.size) A) ([.ref (ad 0), .int p1, .int p2] : List Value).toArray s 0 0 A) (F0 m 67 ls []) := by
  subst hr
  subst hw
  have hx := C.1
  have hb := C.2.1
  have hown := C.2.2.2.2.1
  have hts := C.2.2.2.2.2.1
  have hE := C.2.2.2.2.2.2.2
  refine lv_aload_n hx hb d_B_input_67 rfl (lv_at hl 0 rfl) ?_
  refine hk_goI (hk_kV (k := 0) (As := []) (rest := []) C (c_B_countChangedOutputs l G ad u hI _) Y_B_countChangedOutputs (hk_in (by decide +kernel) rfl) rfl rfl ⟨Nat.le_of_ble_eq_true rfl, Nat.le_of_ble_eq_true rfl⟩ (va_recv hE.1 hP (ci := 4) (q0 := 0) rfl rfl) hP hD rfl hl.1 rfl (Nat.le_of_ble_eq_true rfl) d_B_input_68 ⟨Nat.zero_le _, Nat.zero_le _⟩) hD hS hA (fun H locs hP hD hS => ?_)
  have e : g_B_input_67 p1 p2 u = (m_B_countChangedOutputs u, u) := rfl
  exact hk_ri C hAe hP hD hS (by rw [e]) (by rw [e]) d_B_input_71
set_option maxHeartbeats 4000000 in
set_option maxRecDepth 100000 in
theorem tl_B_input_47 {p : Program} {l : Launch} {e : Env} {s : State} {m : MethodId} {below : List Frame} {meth : Method} {c : Code} {A : Nat → Prop} {H : Heap} {locs : List Loc} {ls : Array Slot} {w0 w1 : va_W} {r : Int32} (G : hk_G) (ad : Nat → Nat) (u : cB) (p1 : Int32) (p2 : Int32) (hI : Iv u) (C : hk_C p s m meth c R_B b_B_input 3 (some .int) ([.ref (ad 0), .int p1, .int p2] : List Value).toArray G) (hAe : va_A w0 s.heap.size = A) (hA : ∀ q : Nat, s.heap.size ≤ q → A q) (hP : va_P (hk_D G) classes (wB G ad u) H) (hD : va_D A (wB G ad u)) (hS : va_S A s.heap H locs) (hl : lv_has ls 3 [(0, .ref (ad 0)), (1, .int p1), (2, .int p2)]) (hr : r = (g_B_input_47 p1 p2 u).1) (hw : w1 = wB G ad ((g_B_input_47 p1 p2 u).2)) : W p l e rm_B_input s m ([.ref (ad 0), .int p1, .int p2] : List Value).toArray below meth c H locs 0 0 (MQ below (va_Qi (fun (x : Int32) (_ : Unit) => x = r) (hk_B G w0 w1 s.heap.size) A) ([.ref (ad 0), .int p1, .int p2] : List Value).toArray s 0 0 A) (F0 m 47 ls []) := by
  subst hr
  subst hw
  have hx := C.1
  have hb := C.2.1
  have hown := C.2.2.2.2.1
  have hts := C.2.2.2.2.2.1
  have hE := C.2.2.2.2.2.2.2
  refine lv_aload_n hx hb d_B_input_47 rfl (lv_at hl 0 rfl) ?_
  refine hk_goV (hk_kV (k := 0) (As := []) (rest := []) C (c_B_beginWantedSides l G ad u hI _) Y_B_beginWantedSides (hk_in (by decide +kernel) rfl) rfl rfl ⟨Nat.le_of_ble_eq_true rfl, Nat.le_of_ble_eq_true rfl⟩ (va_recv hE.1 hP (ci := 4) (q0 := 0) rfl rfl) hP hD rfl hl.1 rfl (Nat.le_of_ble_eq_true rfl) d_B_input_48 ⟨Nat.zero_le _, Nat.zero_le _⟩) hD hS hA (fun H locs hP hD hS => ?_)
  have hI1 : Iv (m_B_beginWantedSides u) := (km_B_beginWantedSides hI)
  obtain ⟨U1, hU1⟩ : ∃ z, (m_B_beginWantedSides u) = z := ⟨_, rfl⟩
  rw [hU1] at hP hD hI1
  refine lv_iload_n hx hb d_B_input_51 rfl (lv_at hl 1 rfl) ?_
  refine lv_iconst (v := (2 : Int32)) hx hb d_B_input_52 (by decide) ?_
  refine lv_icmp_ne (tgt := 67) hx hb d_B_input_53 (by decide) (fun c_1 => ?_) (fun c_1 => ?_)
  · skip
    subst hU1
    have e : g_B_input_47 p1 p2 u = (g_B_input_67 p1 p2 (m_B_beginWantedSides u)) := (if_neg c_1).trans (rfl)
    exact tl_B_input_67 G ad (m_B_beginWantedSides u) p1 p2 hI1 C hAe hA hP hD hS (lv_sub hl [0, 1, 2] rfl) (by rw [e]) (by rw [e])
  · skip
    refine lv_iload_n hx hb d_B_input_56 rfl (lv_at hl 2 rfl) ?_
    refine lv_if_eq (tgt := 67) hx hb d_B_input_57 (by decide) (fun c_2 => ?_) (fun c_2 => ?_)
    · skip
      subst hU1
      have e : g_B_input_47 p1 p2 u = (g_B_input_67 p1 p2 (m_B_beginWantedSides u)) := (if_pos c_1).trans ((if_pos c_2).trans (rfl))
      exact tl_B_input_67 G ad (m_B_beginWantedSides u) p1 p2 hI1 C hAe hA hP hD hS (lv_sub hl [0, 1, 2] rfl) (by rw [e]) (by rw [e])
    · skip
      refine lv_aload_n hx hb d_B_input_60 rfl (lv_at hl 0 rfl) ?_
      refine lv_iconst (v := (2 : Int32)) hx hb d_B_input_61 (by decide) ?_
      refine lv_iload_n hx hb d_B_input_62 rfl (lv_at hl 2 rfl) ?_
      refine lv_isub hx hb d_B_input_63 ?_
      refine hk_goV (hk_kV (k := 1) (As := [.int ((2 : Int32) - p2)]) (rest := []) C (c_B_endUnwantedSide l G ad U1 ((2 : Int32) - p2) hI1 _) Y_B_endUnwantedSide (hk_in (by decide +kernel) rfl) rfl rfl ⟨Nat.le_of_ble_eq_true rfl, Nat.le_of_ble_eq_true rfl⟩ (va_recv hE.1 hP (ci := 4) (q0 := 0) rfl rfl) hP hD rfl hl.1 rfl (Nat.le_of_ble_eq_true rfl) d_B_input_64 ⟨Nat.zero_le _, Nat.zero_le _⟩) hD hS hA (fun H locs hP hD hS => ?_)
      have hI2 : Iv (m_B_endUnwantedSide ((2 : Int32) - p2) U1) := (km_B_endUnwantedSide hI1)
      obtain ⟨U2, hU2⟩ : ∃ z, (m_B_endUnwantedSide ((2 : Int32) - p2) U1) = z := ⟨_, rfl⟩
      rw [hU2] at hP hD hI2
      subst hU1 hU2
      have e : g_B_input_47 p1 p2 u = (g_B_input_67 p1 p2 (m_B_endUnwantedSide ((2 : Int32) - p2) (m_B_beginWantedSides u))) := (if_pos c_1).trans ((if_neg c_2).trans (rfl))
      exact tl_B_input_67 G ad (m_B_endUnwantedSide ((2 : Int32) - p2) (m_B_beginWantedSides u)) p1 p2 hI2 C hAe hA hP hD hS (lv_sub hl [0, 1, 2] rfl) (by rw [e]) (by rw [e])
set_option maxHeartbeats 4000000 in
set_option maxRecDepth 100000 in
theorem c_B_input (l : Launch) (G : hk_G) (tz : Nat) (ad : Nat → Nat) (u : cB) (p1 : Int32) (p2 : Int32) (hI : Iv u) : hk_IZ l G y_B_input b_B_input 3 (some .int) rm_B_input [.ref (ad 0), .int p1, .int p2] (wB G ad u) ((m_B_input p1 p2 u).1) (wB G ad ((m_B_input p1 p2 u).2)) (hk_Z1 tz) := by
  refine hk_IZ_of (by decide) (Nat.le_of_ble_eq_true rfl) ?_
  intro p e s m below meth c A ls C hAe hA hP hD hS hl hZT
  have hx := C.1
  have hb := C.2.1
  have hown := C.2.2.2.2.1
  have hts := C.2.2.2.2.2.1
  have hE := C.2.2.2.2.2.2.2
  have hl : lv_has ls 3 [(0, .ref (ad 0)), (1, .int p1), (2, .int p2)] := hl
  have hZ1 := hZT.1
  have hT1 := hZT.2
  refine lv_iload_n hx hb d_B_input_0 rfl (lv_at hl 1 rfl) ?_
  refine lv_bipush (v := (9 : Int32)) hx hb d_B_input_1 (by decide) ?_
  refine hk_goIe (hk_kS (k := 2) (As := [.int p1, .int (9 : Int32)]) (rest := []) C (c_B_isBelow l G p1 (9 : Int32) _) Y_B_isBelow (hk_in (by decide +kernel) rfl) rfl rfl ⟨Nat.le_of_ble_eq_true rfl, Nat.le_of_ble_eq_true rfl⟩ hk_Pn (hk_Dn (A := A)) rfl hl.1 rfl (Nat.le_of_ble_eq_true rfl) d_B_input_3 ⟨Nat.zero_le _, Nat.zero_le _⟩) hP hS hA (fun H locs hP hS => ?_)
  refine lv_if_ne (tgt := 11) hx hb d_B_input_6 (by decide) (fun c_1 => ?_) (fun c_1 => ?_)
  · skip
    refine lv_iload_n hx hb d_B_input_11 rfl (lv_at hl 2 rfl) ?_
    refine va_gets hx hb hZ1 hS hown (hts _ (hk_in (by decide +kernel) rfl)) (fun _ h9 => h9) d_B_input_12 ?_
    refine lv_iload_n hx hb d_B_input_15 rfl (lv_at hl 1 rfl) ?_
    refine va_ti hx hb hT1 hS (v := .int (k_great p1.toNatClampNeg)) (hk_ib c_1 (N := 9) rfl) rfl d_B_input_16 ?_
    refine hk_goIe (hk_kS (k := 2) (As := [.int p2, .int (k_great p1.toNatClampNeg)]) (rest := []) C (c_B_isUpTo l G p2 (k_great p1.toNatClampNeg) _) Y_B_isUpTo (hk_in (by decide +kernel) rfl) rfl rfl ⟨Nat.le_of_ble_eq_true rfl, Nat.le_of_ble_eq_true rfl⟩ hk_Pn (hk_Dn (A := A)) rfl hl.1 rfl (Nat.le_of_ble_eq_true rfl) d_B_input_17 ⟨Nat.zero_le _, Nat.zero_le _⟩) hP hS hA (fun H locs hP hS => ?_)
    refine lv_if_ne (tgt := 26) hx hb d_B_input_20 (by decide) (fun c_2 => ?_) (fun c_2 => ?_)
    · skip
      refine lv_aload_n hx hb d_B_input_26 rfl (lv_at hl 0 rfl) ?_
      refine hk_goV (hk_kV (k := 0) (As := []) (rest := []) C (c_B_noteOutputs l G ad u hI _) Y_B_noteOutputs (hk_in (by decide +kernel) rfl) rfl rfl ⟨Nat.le_of_ble_eq_true rfl, Nat.le_of_ble_eq_true rfl⟩ (va_recv hE.1 hP (ci := 4) (q0 := 0) rfl rfl) hP hD rfl hl.1 rfl (Nat.le_of_ble_eq_true rfl) d_B_input_27 ⟨Nat.zero_le _, Nat.zero_le _⟩) hD hS hA (fun H locs hP hD hS => ?_)
      have hI1 : Iv (m_B_noteOutputs u) := (km_B_noteOutputs hI)
      obtain ⟨U1, hU1⟩ : ∃ z, (m_B_noteOutputs u) = z := ⟨_, rfl⟩
      rw [hU1] at hP hD hI1
      refine lv_aload_n hx hb d_B_input_30 rfl (lv_at hl 0 rfl) ?_
      refine hk_get (v := .ref (ad 1)) C hP 0 4 0 i_B rfl rfl (by decide) (hk_in (by decide +kernel) rfl) rfl d_B_input_31 ?_
      refine lv_iload_n hx hb d_B_input_34 rfl (lv_at hl 1 rfl) ?_
      refine lv_iload_n hx hb d_B_input_35 rfl (lv_at hl 2 rfl) ?_
      refine hk_ist (w2 := wB G ad (f_B_input_36 p1 p2 U1)) C hP hD hS 1 0 rfl rfl (by subst hU1; exact hk_ib c_1 (N := 9) rfl) rfl d_B_input_36 (fun H locs hP hD hS => ?_)
      have hI2 : Iv (f_B_input_36 p1 p2 U1) := (Iv_of (k2_f_B_input_36 _ _ _) (k6_f_B_input_36 _ _ _) hI1)
      obtain ⟨U2, hU2⟩ : ∃ z, (f_B_input_36 p1 p2 U1) = z := ⟨_, rfl⟩
      rw [hU2] at hP hD hI2
      refine lv_iload_n hx hb d_B_input_37 rfl (lv_at hl 1 rfl) ?_
      refine lv_iconst (v := (1 : Int32)) hx hb d_B_input_38 (by decide) ?_
      refine lv_icmp_ne (tgt := 47) hx hb d_B_input_39 (by decide) (fun c_3 => ?_) (fun c_3 => ?_)
      · skip
        subst hU1 hU2
        have e : m_B_input p1 p2 u = (g_B_input_47 p1 p2 (f_B_input_36 p1 p2 (m_B_noteOutputs u))) := (if_neg c_1).trans ((if_neg c_2).trans ((if_neg c_3).trans (rfl)))
        exact tl_B_input_47 G ad (f_B_input_36 p1 p2 (m_B_noteOutputs u)) p1 p2 hI2 C hAe hA hP hD hS (lv_sub hl [0, 1, 2] rfl) (by rw [e]) (by rw [e])
      · skip
        refine lv_aload_n hx hb d_B_input_42 rfl (lv_at hl 0 rfl) ?_
        refine lv_iload_n hx hb d_B_input_43 rfl (lv_at hl 2 rfl) ?_
        refine hk_goV (hk_kV (k := 1) (As := [.int p2]) (rest := []) C (c_B_followBrightness l G ad U2 p2 hI2 _) Y_B_followBrightness (hk_in (by decide +kernel) rfl) rfl rfl ⟨Nat.le_of_ble_eq_true rfl, Nat.le_of_ble_eq_true rfl⟩ (va_recv hE.1 hP (ci := 4) (q0 := 0) rfl rfl) hP hD rfl hl.1 rfl (Nat.le_of_ble_eq_true rfl) d_B_input_44 ⟨Nat.zero_le _, Nat.zero_le _⟩) hD hS hA (fun H locs hP hD hS => ?_)
        have hI3 : Iv (m_B_followBrightness p2 U2) := (km_B_followBrightness hI2)
        obtain ⟨U3, hU3⟩ : ∃ z, (m_B_followBrightness p2 U2) = z := ⟨_, rfl⟩
        rw [hU3] at hP hD hI3
        subst hU1 hU2 hU3
        have e : m_B_input p1 p2 u = (g_B_input_47 p1 p2 (m_B_followBrightness p2 (f_B_input_36 p1 p2 (m_B_noteOutputs u)))) := (if_neg c_1).trans ((if_neg c_2).trans ((if_pos c_3).trans (rfl)))
        exact tl_B_input_47 G ad (m_B_followBrightness p2 (f_B_input_36 p1 p2 (m_B_noteOutputs u))) p1 p2 hI3 C hAe hA hP hD hS (lv_sub hl [0, 1, 2] rfl) (by rw [e]) (by rw [e])
    · skip
      refine lv_bipush (v := (-2 : Int32)) hx hb d_B_input_23 (by decide) ?_
      have e : m_B_input p1 p2 u = ((-2 : Int32), u) := (if_neg c_1).trans ((if_pos c_2).trans (rfl))
      exact hk_ri C hAe hP hD hS (by rw [e]) (by rw [e]) d_B_input_25
  · skip
    refine lv_iconst (v := (-1 : Int32)) hx hb d_B_input_9 (by decide) ?_
    have e : m_B_input p1 p2 u = ((-1 : Int32), u) := (if_pos c_1).trans (rfl)
    exact hk_ri C hAe hP hD hS (by rw [e]) (by rw [e]) d_B_input_10
theorem Y_B_step : hk_Y y_B_step b_B_step 3 (some .int) 1 := ⟨hk_in (by decide +kernel) rfl, hk_in (by decide +kernel) rfl, hk_in (by decide +kernel) rfl, hk_in (List.mem_of_getElem? (i := 277) rfl) rfl, by decide, by decide, by decide +kernel⟩
abbrev rm_B_step : Room := { frames := 5, cells := 0, slots := 0, locals := 105 }
set_option maxHeartbeats 4000000 in
set_option maxRecDepth 100000 in
theorem lp_B_step_19 {p : Program} {l : Launch} {e : Env} {s : State} {m : MethodId} {below : List Frame} {meth : Method} {c : Code} {A : Nat → Prop} {Q : State → Prop} (G : hk_G) (ad : Nat → Nat) (u : cB) (p1 : Int32) (hI : Iv u) (C : hk_C p s m meth c R_B b_B_step 3 (some .int) ([.ref (ad 0), .int p1] : List Value).toArray G) (hA : ∀ q : Nat, s.heap.size ≤ q → A q) (n : Nat) (hn : n < 2 ^ 31) (hbn : p1 = nI n)
    (kx : ∀ (H : Heap) (locs : List Loc) (ls : Array Slot), va_P (hk_D G) classes (wB G ad (li_B_step_19 p1 u n)) H → va_D A (wB G ad (li_B_step_19 p1 u n)) → va_S A s.heap H locs → lv_has ls 3 [(0, .ref (ad 0)), (1, .int p1), (2, .int (nI n))] → W p l e rm_B_step s m ([.ref (ad 0), .int p1] : List Value).toArray below meth c H locs 0 0 Q (F0 m 34 ls [])) :
    ∀ (j k : Nat), k ≤ n → n + 1 ≤ k + j → ∀ (H : Heap) (locs : List Loc) (ls : Array Slot), va_P (hk_D G) classes (wB G ad (li_B_step_19 p1 u k)) H → va_D A (wB G ad (li_B_step_19 p1 u k)) → va_S A s.heap H locs → lv_has ls 3 [(0, .ref (ad 0)), (1, .int p1), (2, .int (nI k))] → W p l e rm_B_step s m ([.ref (ad 0), .int p1] : List Value).toArray below meth c H locs 0 0 Q (F0 m 19 ls []) := by
  have hx := C.1
  have hb := C.2.1
  have hown := C.2.2.2.2.1
  have hts := C.2.2.2.2.2.1
  have hE := C.2.2.2.2.2.2.2
  intro j
  induction j with
  | zero =>
    intro k h1 h2
    exact absurd h2 (by omega)
  | succ j ih =>
    intro k hkn hj H locs ls hP hD hS hl
    refine lv_iload_n hx hb d_B_step_19 rfl (lv_at hl 2 rfl) ?_
    refine lv_iload_n hx hb d_B_step_20 rfl (lv_at hl 1 rfl) ?_
    refine lv_icmp_ge (tgt := 34) hx hb d_B_step_21 (by decide) (fun c_0 => ?_) (fun c_0 => ?_)
    · obtain rfl := hk_exit (n := n) hbn hn hkn c_0
      exact kx H locs ls hP hD hS (lv_sub hl [0, 1, 2] rfl)
    · have hlt := hk_stay (n := n) hbn hn hkn c_0
      refine lv_aload_n hx hb d_B_step_24 rfl (lv_at hl 0 rfl) ?_
      refine hk_goV (hk_kV (k := 0) (As := []) (rest := []) C (c_B_tick l G ad (li_B_step_19 p1 u k) (iv_step p1 hI k) _) Y_B_tick (hk_in (by decide +kernel) rfl) rfl rfl ⟨Nat.le_of_ble_eq_true rfl, Nat.le_of_ble_eq_true rfl⟩ (va_recv hE.1 hP (ci := 4) (q0 := 0) rfl rfl) hP hD rfl hl.1 rfl (Nat.le_of_ble_eq_true rfl) d_B_step_25 ⟨Nat.zero_le _, Nat.zero_le _⟩) hD hS hA (fun H locs hP hD hS => ?_)
      have hI1 : Iv (m_B_tick (li_B_step_19 p1 u k)) := (km_B_tick (iv_step p1 hI k))
      obtain ⟨U1, hU1⟩ : ∃ z, (m_B_tick (li_B_step_19 p1 u k)) = z := ⟨_, rfl⟩
      rw [hU1] at hP hD hI1
      refine lv_iinc (v := nI (k + 1)) (lv' := [(2, .int (nI (k + 1))), (0, .ref (ad 0)), (1, .int p1)]) hx hb d_B_step_28 hl (k := 2) rfl (nI_1 k) (by decide) rfl (fun ls hl => ?_)
      refine lv_goto (tgt := 19) hx hb d_B_step_31 (by decide) ?_
      subst hU1
      have e : li_B_step_19 p1 u (k + 1) = (m_B_tick (li_B_step_19 p1 u k)) := rfl
      exact ih (k + 1) hlt (by omega) _ _ _ (by rw [e]; exact hP) (by rw [e]; exact hD) hS (lv_sub hl [1, 2, 0] rfl)
set_option maxHeartbeats 4000000 in
set_option maxRecDepth 100000 in
theorem c_B_step (l : Launch) (G : hk_G) (ad : Nat → Nat) (u : cB) (p1 : Int32) (hI : Iv u) : hk_I l G y_B_step b_B_step 3 (some .int) rm_B_step [.ref (ad 0), .int p1] (wB G ad u) ((m_B_step p1 u).1) (wB G ad ((m_B_step p1 u).2)) := by
  refine hk_I_of (by decide) (Nat.le_of_ble_eq_true rfl) ?_
  intro p e s m below meth c A ls C hAe hA hP hD hS hl
  have hx := C.1
  have hb := C.2.1
  have hown := C.2.2.2.2.1
  have hts := C.2.2.2.2.2.1
  have hE := C.2.2.2.2.2.2.2
  have hl : lv_has ls 3 [(0, .ref (ad 0)), (1, .int p1)] := hl
  refine lv_iload_n hx hb d_B_step_0 rfl (lv_at hl 1 rfl) ?_
  refine lv_sipush (v := (1000 : Int32)) hx hb d_B_step_1 (by decide) ?_
  refine hk_goIe (hk_kS (k := 2) (As := [.int p1, .int (1000 : Int32)]) (rest := []) C (c_B_isUpTo l G p1 (1000 : Int32) _) Y_B_isUpTo (hk_in (by decide +kernel) rfl) rfl rfl ⟨Nat.le_of_ble_eq_true rfl, Nat.le_of_ble_eq_true rfl⟩ hk_Pn (hk_Dn (A := A)) rfl hl.1 rfl (Nat.le_of_ble_eq_true rfl) d_B_step_4 ⟨Nat.zero_le _, Nat.zero_le _⟩) hP hS hA (fun H locs hP hS => ?_)
  refine lv_if_ne (tgt := 13) hx hb d_B_step_7 (by decide) (fun c_1 => ?_) (fun c_1 => ?_)
  · skip
    refine lv_aload_n hx hb d_B_step_13 rfl (lv_at hl 0 rfl) ?_
    refine hk_goV (hk_kV (k := 0) (As := []) (rest := []) C (c_B_noteOutputs l G ad u hI _) Y_B_noteOutputs (hk_in (by decide +kernel) rfl) rfl rfl ⟨Nat.le_of_ble_eq_true rfl, Nat.le_of_ble_eq_true rfl⟩ (va_recv hE.1 hP (ci := 4) (q0 := 0) rfl rfl) hP hD rfl hl.1 rfl (Nat.le_of_ble_eq_true rfl) d_B_step_14 ⟨Nat.zero_le _, Nat.zero_le _⟩) hD hS hA (fun H locs hP hD hS => ?_)
    have hI1 : Iv (m_B_noteOutputs u) := (km_B_noteOutputs hI)
    obtain ⟨U1, hU1⟩ : ∃ z, (m_B_noteOutputs u) = z := ⟨_, rfl⟩
    rw [hU1] at hP hD hI1
    refine lv_iconst (v := (0 : Int32)) hx hb d_B_step_17 (by decide) ?_
    refine lv_istore_n (lv' := [(2, .int (0 : Int32)), (0, .ref (ad 0)), (1, .int p1)]) hx hb d_B_step_18 rfl hl (by decide) rfl (fun ls hl => ?_)
    refine lp_B_step_19 G ad U1 p1 hI1 C hA p1.toNatClampNeg (hk_u c_1 (N := 1000) (by decide) (by decide)).1 (hk_u c_1 (N := 1000) (by decide) (by decide)).2 (fun H locs ls hP hD hS hl => ?_) (p1.toNatClampNeg + 1) 0 (Nat.zero_le _) (by omega) _ _ _ hP hD hS (lv_sub hl [1, 2, 0] rfl)
    refine lv_aload_n hx hb d_B_step_34 rfl (lv_at hl 0 rfl) ?_
    refine hk_goI (hk_kV (k := 0) (As := []) (rest := []) C (c_B_countChangedOutputs l G ad (li_B_step_19 p1 U1 p1.toNatClampNeg) (iv_step p1 hI1 p1.toNatClampNeg) _) Y_B_countChangedOutputs (hk_in (by decide +kernel) rfl) rfl rfl ⟨Nat.le_of_ble_eq_true rfl, Nat.le_of_ble_eq_true rfl⟩ (va_recv hE.1 hP (ci := 4) (q0 := 0) rfl rfl) hP hD rfl hl.1 rfl (Nat.le_of_ble_eq_true rfl) d_B_step_35 ⟨Nat.zero_le _, Nat.zero_le _⟩) hD hS hA (fun H locs hP hD hS => ?_)
    subst hU1
    have e : m_B_step p1 u = (m_B_countChangedOutputs (li_B_step_19 p1 (m_B_noteOutputs u) p1.toNatClampNeg), (li_B_step_19 p1 (m_B_noteOutputs u) p1.toNatClampNeg)) := (if_neg c_1).trans (rfl)
    exact hk_ri C hAe hP hD hS (by rw [e]) (by rw [e]) d_B_step_38
  · skip
    refine lv_bipush (v := (-2 : Int32)) hx hb d_B_step_10 (by decide) ?_
    have e : m_B_step p1 u = ((-2 : Int32), u) := (if_pos c_1).trans (rfl)
    exact hk_ri C hAe hP hD hS (by rw [e]) (by rw [e]) d_B_step_12
theorem Y_B_pinch : hk_Y y_B_pinch b_B_pinch 3 (some .int) 2 := ⟨hk_in (by decide +kernel) rfl, hk_in (by decide +kernel) rfl, hk_in (by decide +kernel) rfl, hk_in (List.mem_of_getElem? (i := 330) rfl) rfl, by decide, by decide, by decide +kernel⟩
abbrev rm_B_pinch : Room := { frames := 2, cells := 0, slots := 0, locals := 42 }
set_option maxHeartbeats 4000000 in
set_option maxRecDepth 100000 in
theorem c_B_pinch (l : Launch) (G : hk_G) (ad : Nat → Nat) (u : cB) (p1 : Int32) (p2 : Int32) (hI : Iv u) : hk_I l G y_B_pinch b_B_pinch 3 (some .int) rm_B_pinch [.ref (ad 0), .int p1, .int p2] (wB G ad u) ((m_B_pinch p1 p2 u).1) (wB G ad ((m_B_pinch p1 p2 u).2)) := by
  refine hk_I_of (by decide) (Nat.le_of_ble_eq_true rfl) ?_
  intro p e s m below meth c A ls C hAe hA hP hD hS hl
  have hx := C.1
  have hb := C.2.1
  have hown := C.2.2.2.2.1
  have hts := C.2.2.2.2.2.1
  have hE := C.2.2.2.2.2.2.2
  have hl : lv_has ls 3 [(0, .ref (ad 0)), (1, .int p1), (2, .int p2)] := hl
  refine lv_iload_n hx hb d_B_pinch_0 rfl (lv_at hl 1 rfl) ?_
  refine lv_iconst (v := (4 : Int32)) hx hb d_B_pinch_1 (by decide) ?_
  refine hk_goIe (hk_kS (k := 2) (As := [.int p1, .int (4 : Int32)]) (rest := []) C (c_B_isBelow l G p1 (4 : Int32) _) Y_B_isBelow (hk_in (by decide +kernel) rfl) rfl rfl ⟨Nat.le_of_ble_eq_true rfl, Nat.le_of_ble_eq_true rfl⟩ hk_Pn (hk_Dn (A := A)) rfl hl.1 rfl (Nat.le_of_ble_eq_true rfl) d_B_pinch_2 ⟨Nat.zero_le _, Nat.zero_le _⟩) hP hS hA (fun H locs hP hS => ?_)
  refine lv_if_ne (tgt := 10) hx hb d_B_pinch_5 (by decide) (fun c_1 => ?_) (fun c_1 => ?_)
  · skip
    refine lv_iload_n hx hb d_B_pinch_10 rfl (lv_at hl 2 rfl) ?_
    refine lv_sipush (v := (1000 : Int32)) hx hb d_B_pinch_11 (by decide) ?_
    refine hk_goIe (hk_kS (k := 2) (As := [.int p2, .int (1000 : Int32)]) (rest := []) C (c_B_isUpTo l G p2 (1000 : Int32) _) Y_B_isUpTo (hk_in (by decide +kernel) rfl) rfl rfl ⟨Nat.le_of_ble_eq_true rfl, Nat.le_of_ble_eq_true rfl⟩ hk_Pn (hk_Dn (A := A)) rfl hl.1 rfl (Nat.le_of_ble_eq_true rfl) d_B_pinch_14 ⟨Nat.zero_le _, Nat.zero_le _⟩) hP hS hA (fun H locs hP hS => ?_)
    refine lv_if_ne (tgt := 23) hx hb d_B_pinch_17 (by decide) (fun c_2 => ?_) (fun c_2 => ?_)
    · skip
      rcases hk_b4 c_1 with rfl | rfl | rfl | rfl
      · skip
        refine lv_aload_n hx hb d_B_pinch_23 rfl (lv_at hl 0 rfl) ?_
        refine hk_get (v := .ref (ad 8)) C hP 0 4 5 i_B rfl rfl (by decide) (hk_in (by decide +kernel) rfl) rfl d_B_pinch_24 ?_
        refine lv_iload_n hx hb d_B_pinch_27 rfl (lv_at hl 1 rfl) ?_
        refine hk_ald C hP 8 3 (v := (ad 9)) rfl rfl (hk_inl (by decide)) rfl d_B_pinch_28 ?_
        refine lv_iload_n hx hb d_B_pinch_29 rfl (lv_at hl 2 rfl) ?_
        refine hk_goI1 9 (w2 := wB G ad (f_B_pinch_30 (0 : Int32) p2 u)) (hk_kN (host := "BodyRows2") (k := 1) (As := [.int p2]) (rest := []) C (c_Window_reverseAt l G (ad 9) (b5 u 0) p2 _) Y_Window_reverseAt (by decide +kernel) rfl rfl ⟨Nat.le_of_ble_eq_true rfl, Nat.le_of_ble_eq_true rfl⟩ (va_recv hE.1 hP (ci := 2) (q0 := 9) rfl rfl) (hP.sub (ws' := (wN (ad 9) (b5 u 0))) [9] rfl) (hD.sub (ws' := (wN (ad 9) (b5 u 0))) [9] (by decide) rfl) rfl hl.1 rfl (Nat.le_of_ble_eq_true rfl) d_B_pinch_30 ⟨Nat.zero_le _, Nat.zero_le _⟩) hP hD hS hA rfl rfl (fun H locs hP hD hS => ?_)
        have hI1 : Iv (f_B_pinch_30 (0 : Int32) p2 u) := (Iv_of (k2_f_B_pinch_30 _ _ _) (k6_f_B_pinch_30 _ _ _) hI)
        obtain ⟨U1, hU1⟩ : ∃ z, (f_B_pinch_30 (0 : Int32) p2 u) = z := ⟨_, rfl⟩
        rw [hU1] at hP hD hI1
        refine hk_goIe (hk_kS (k := 1) (As := [.int ((m_Window_reverseAt p2 (b5 u 0)).1)]) (rest := []) C (c_B_bit l G ((m_Window_reverseAt p2 (b5 u 0)).1) _) Y_B_bit (hk_in (by decide +kernel) rfl) rfl rfl ⟨Nat.le_of_ble_eq_true rfl, Nat.le_of_ble_eq_true rfl⟩ hk_Pn (hk_Dn (A := A)) rfl hl.1 rfl (Nat.le_of_ble_eq_true rfl) d_B_pinch_33 ⟨Nat.zero_le _, Nat.zero_le _⟩) hP hS hA (fun H locs hP hS => ?_)
        subst hU1
        have e : m_B_pinch (0 : Int32) p2 u = (m_B_bit ((m_Window_reverseAt p2 (b5 u 0)).1), (f_B_pinch_30 (0 : Int32) p2 u)) := (if_neg c_1).trans ((if_neg c_2).trans (rfl))
        exact hk_ri C hAe hP hD hS (by rw [e]) (by rw [e]) d_B_pinch_36
      · skip
        refine lv_aload_n hx hb d_B_pinch_23 rfl (lv_at hl 0 rfl) ?_
        refine hk_get (v := .ref (ad 8)) C hP 0 4 5 i_B rfl rfl (by decide) (hk_in (by decide +kernel) rfl) rfl d_B_pinch_24 ?_
        refine lv_iload_n hx hb d_B_pinch_27 rfl (lv_at hl 1 rfl) ?_
        refine hk_ald C hP 8 3 (v := (ad 10)) rfl rfl (hk_inl (by decide)) rfl d_B_pinch_28 ?_
        refine lv_iload_n hx hb d_B_pinch_29 rfl (lv_at hl 2 rfl) ?_
        refine hk_goI1 10 (w2 := wB G ad (f_B_pinch_30 (1 : Int32) p2 u)) (hk_kN (host := "BodyRows2") (k := 1) (As := [.int p2]) (rest := []) C (c_Window_reverseAt l G (ad 10) (b5 u 1) p2 _) Y_Window_reverseAt (by decide +kernel) rfl rfl ⟨Nat.le_of_ble_eq_true rfl, Nat.le_of_ble_eq_true rfl⟩ (va_recv hE.1 hP (ci := 2) (q0 := 10) rfl rfl) (hP.sub (ws' := (wN (ad 10) (b5 u 1))) [10] rfl) (hD.sub (ws' := (wN (ad 10) (b5 u 1))) [10] (by decide) rfl) rfl hl.1 rfl (Nat.le_of_ble_eq_true rfl) d_B_pinch_30 ⟨Nat.zero_le _, Nat.zero_le _⟩) hP hD hS hA rfl rfl (fun H locs hP hD hS => ?_)
        have hI2 : Iv (f_B_pinch_30 (1 : Int32) p2 u) := (Iv_of (k2_f_B_pinch_30 _ _ _) (k6_f_B_pinch_30 _ _ _) hI)
        obtain ⟨U2, hU2⟩ : ∃ z, (f_B_pinch_30 (1 : Int32) p2 u) = z := ⟨_, rfl⟩
        rw [hU2] at hP hD hI2
        refine hk_goIe (hk_kS (k := 1) (As := [.int ((m_Window_reverseAt p2 (b5 u 1)).1)]) (rest := []) C (c_B_bit l G ((m_Window_reverseAt p2 (b5 u 1)).1) _) Y_B_bit (hk_in (by decide +kernel) rfl) rfl rfl ⟨Nat.le_of_ble_eq_true rfl, Nat.le_of_ble_eq_true rfl⟩ hk_Pn (hk_Dn (A := A)) rfl hl.1 rfl (Nat.le_of_ble_eq_true rfl) d_B_pinch_33 ⟨Nat.zero_le _, Nat.zero_le _⟩) hP hS hA (fun H locs hP hS => ?_)
        subst hU2
        have e : m_B_pinch (1 : Int32) p2 u = (m_B_bit ((m_Window_reverseAt p2 (b5 u 1)).1), (f_B_pinch_30 (1 : Int32) p2 u)) := (if_neg c_1).trans ((if_neg c_2).trans (rfl))
        exact hk_ri C hAe hP hD hS (by rw [e]) (by rw [e]) d_B_pinch_36
      · skip
        refine lv_aload_n hx hb d_B_pinch_23 rfl (lv_at hl 0 rfl) ?_
        refine hk_get (v := .ref (ad 8)) C hP 0 4 5 i_B rfl rfl (by decide) (hk_in (by decide +kernel) rfl) rfl d_B_pinch_24 ?_
        refine lv_iload_n hx hb d_B_pinch_27 rfl (lv_at hl 1 rfl) ?_
        refine hk_ald C hP 8 3 (v := (ad 11)) rfl rfl (hk_inl (by decide)) rfl d_B_pinch_28 ?_
        refine lv_iload_n hx hb d_B_pinch_29 rfl (lv_at hl 2 rfl) ?_
        refine hk_goI1 11 (w2 := wB G ad (f_B_pinch_30 (2 : Int32) p2 u)) (hk_kN (host := "BodyRows2") (k := 1) (As := [.int p2]) (rest := []) C (c_Window_reverseAt l G (ad 11) (b5 u 2) p2 _) Y_Window_reverseAt (by decide +kernel) rfl rfl ⟨Nat.le_of_ble_eq_true rfl, Nat.le_of_ble_eq_true rfl⟩ (va_recv hE.1 hP (ci := 2) (q0 := 11) rfl rfl) (hP.sub (ws' := (wN (ad 11) (b5 u 2))) [11] rfl) (hD.sub (ws' := (wN (ad 11) (b5 u 2))) [11] (by decide) rfl) rfl hl.1 rfl (Nat.le_of_ble_eq_true rfl) d_B_pinch_30 ⟨Nat.zero_le _, Nat.zero_le _⟩) hP hD hS hA rfl rfl (fun H locs hP hD hS => ?_)
        have hI3 : Iv (f_B_pinch_30 (2 : Int32) p2 u) := (Iv_of (k2_f_B_pinch_30 _ _ _) (k6_f_B_pinch_30 _ _ _) hI)
        obtain ⟨U3, hU3⟩ : ∃ z, (f_B_pinch_30 (2 : Int32) p2 u) = z := ⟨_, rfl⟩
        rw [hU3] at hP hD hI3
        refine hk_goIe (hk_kS (k := 1) (As := [.int ((m_Window_reverseAt p2 (b5 u 2)).1)]) (rest := []) C (c_B_bit l G ((m_Window_reverseAt p2 (b5 u 2)).1) _) Y_B_bit (hk_in (by decide +kernel) rfl) rfl rfl ⟨Nat.le_of_ble_eq_true rfl, Nat.le_of_ble_eq_true rfl⟩ hk_Pn (hk_Dn (A := A)) rfl hl.1 rfl (Nat.le_of_ble_eq_true rfl) d_B_pinch_33 ⟨Nat.zero_le _, Nat.zero_le _⟩) hP hS hA (fun H locs hP hS => ?_)
        subst hU3
        have e : m_B_pinch (2 : Int32) p2 u = (m_B_bit ((m_Window_reverseAt p2 (b5 u 2)).1), (f_B_pinch_30 (2 : Int32) p2 u)) := (if_neg c_1).trans ((if_neg c_2).trans (rfl))
        exact hk_ri C hAe hP hD hS (by rw [e]) (by rw [e]) d_B_pinch_36
      · skip
        refine lv_aload_n hx hb d_B_pinch_23 rfl (lv_at hl 0 rfl) ?_
        refine hk_get (v := .ref (ad 8)) C hP 0 4 5 i_B rfl rfl (by decide) (hk_in (by decide +kernel) rfl) rfl d_B_pinch_24 ?_
        refine lv_iload_n hx hb d_B_pinch_27 rfl (lv_at hl 1 rfl) ?_
        refine hk_ald C hP 8 3 (v := (ad 12)) rfl rfl (hk_inl (by decide)) rfl d_B_pinch_28 ?_
        refine lv_iload_n hx hb d_B_pinch_29 rfl (lv_at hl 2 rfl) ?_
        refine hk_goI1 12 (w2 := wB G ad (f_B_pinch_30 (3 : Int32) p2 u)) (hk_kN (host := "BodyRows2") (k := 1) (As := [.int p2]) (rest := []) C (c_Window_reverseAt l G (ad 12) (b5 u 3) p2 _) Y_Window_reverseAt (by decide +kernel) rfl rfl ⟨Nat.le_of_ble_eq_true rfl, Nat.le_of_ble_eq_true rfl⟩ (va_recv hE.1 hP (ci := 2) (q0 := 12) rfl rfl) (hP.sub (ws' := (wN (ad 12) (b5 u 3))) [12] rfl) (hD.sub (ws' := (wN (ad 12) (b5 u 3))) [12] (by decide) rfl) rfl hl.1 rfl (Nat.le_of_ble_eq_true rfl) d_B_pinch_30 ⟨Nat.zero_le _, Nat.zero_le _⟩) hP hD hS hA rfl rfl (fun H locs hP hD hS => ?_)
        have hI4 : Iv (f_B_pinch_30 (3 : Int32) p2 u) := (Iv_of (k2_f_B_pinch_30 _ _ _) (k6_f_B_pinch_30 _ _ _) hI)
        obtain ⟨U4, hU4⟩ : ∃ z, (f_B_pinch_30 (3 : Int32) p2 u) = z := ⟨_, rfl⟩
        rw [hU4] at hP hD hI4
        refine hk_goIe (hk_kS (k := 1) (As := [.int ((m_Window_reverseAt p2 (b5 u 3)).1)]) (rest := []) C (c_B_bit l G ((m_Window_reverseAt p2 (b5 u 3)).1) _) Y_B_bit (hk_in (by decide +kernel) rfl) rfl rfl ⟨Nat.le_of_ble_eq_true rfl, Nat.le_of_ble_eq_true rfl⟩ hk_Pn (hk_Dn (A := A)) rfl hl.1 rfl (Nat.le_of_ble_eq_true rfl) d_B_pinch_33 ⟨Nat.zero_le _, Nat.zero_le _⟩) hP hS hA (fun H locs hP hS => ?_)
        subst hU4
        have e : m_B_pinch (3 : Int32) p2 u = (m_B_bit ((m_Window_reverseAt p2 (b5 u 3)).1), (f_B_pinch_30 (3 : Int32) p2 u)) := (if_neg c_1).trans ((if_neg c_2).trans (rfl))
        exact hk_ri C hAe hP hD hS (by rw [e]) (by rw [e]) d_B_pinch_36
    · skip
      refine lv_bipush (v := (-2 : Int32)) hx hb d_B_pinch_20 (by decide) ?_
      have e : m_B_pinch p1 p2 u = ((-2 : Int32), u) := (if_neg c_1).trans ((if_pos c_2).trans (rfl))
      exact hk_ri C hAe hP hD hS (by rw [e]) (by rw [e]) d_B_pinch_22
  · skip
    refine lv_iconst (v := (-1 : Int32)) hx hb d_B_pinch_8 (by decide) ?_
    have e : m_B_pinch p1 p2 u = ((-1 : Int32), u) := (if_pos c_1).trans (rfl)
    exact hk_ri C hAe hP hD hS (by rw [e]) (by rw [e]) d_B_pinch_9
theorem Y_B_learn : hk_Y y_B_learn b_B_learn 2 (some .int) 1 := ⟨hk_in (by decide +kernel) rfl, hk_in (by decide +kernel) rfl, hk_in (by decide +kernel) rfl, hk_in (List.mem_of_getElem? (i := 338) rfl) rfl, by decide, by decide, by decide +kernel⟩
abbrev rm_B_learn : Room := { frames := 1, cells := 0, slots := 0, locals := 21 }
set_option maxHeartbeats 4000000 in
set_option maxRecDepth 100000 in
theorem c_B_learn (l : Launch) (G : hk_G) (ad : Nat → Nat) (u : cB) (p1 : Int32) (hI : Iv u) : hk_I l G y_B_learn b_B_learn 2 (some .int) rm_B_learn [.ref (ad 0), .int p1] (wB G ad u) ((m_B_learn p1 u).1) (wB G ad ((m_B_learn p1 u).2)) := by
  refine hk_I_of (by decide) (Nat.le_of_ble_eq_true rfl) ?_
  intro p e s m below meth c A ls C hAe hA hP hD hS hl
  have hx := C.1
  have hb := C.2.1
  have hown := C.2.2.2.2.1
  have hts := C.2.2.2.2.2.1
  have hE := C.2.2.2.2.2.2.2
  have hl : lv_has ls 2 [(0, .ref (ad 0)), (1, .int p1)] := hl
  refine lv_iload_n hx hb d_B_learn_0 rfl (lv_at hl 1 rfl) ?_
  refine lv_iconst (v := (4 : Int32)) hx hb d_B_learn_1 (by decide) ?_
  refine hk_goIe (hk_kS (k := 2) (As := [.int p1, .int (4 : Int32)]) (rest := []) C (c_B_isBelow l G p1 (4 : Int32) _) Y_B_isBelow (hk_in (by decide +kernel) rfl) rfl rfl ⟨Nat.le_of_ble_eq_true rfl, Nat.le_of_ble_eq_true rfl⟩ hk_Pn (hk_Dn (A := A)) rfl hl.1 rfl (Nat.le_of_ble_eq_true rfl) d_B_learn_2 ⟨Nat.zero_le _, Nat.zero_le _⟩) hP hS hA (fun H locs hP hS => ?_)
  refine lv_if_ne (tgt := 10) hx hb d_B_learn_5 (by decide) (fun c_1 => ?_) (fun c_1 => ?_)
  · skip
    rcases hk_b4 c_1 with rfl | rfl | rfl | rfl
    · skip
      refine lv_aload_n hx hb d_B_learn_10 rfl (lv_at hl 0 rfl) ?_
      refine hk_get (v := .ref (ad 8)) C hP 0 4 5 i_B rfl rfl (by decide) (hk_in (by decide +kernel) rfl) rfl d_B_learn_11 ?_
      refine lv_iload_n hx hb d_B_learn_14 rfl (lv_at hl 1 rfl) ?_
      refine hk_ald C hP 8 3 (v := (ad 9)) rfl rfl (hk_inl (by decide)) rfl d_B_learn_15 ?_
      refine hk_goI1 9 (w2 := wB G ad (f_B_learn_16 (0 : Int32) u)) (hk_kN (host := "BodyRows2") (k := 0) (As := []) (rest := []) C (c_Window_learnAtEnd l G (ad 9) (b5 u 0) _) Y_Window_learnAtEnd (by decide +kernel) rfl rfl ⟨Nat.le_of_ble_eq_true rfl, Nat.le_of_ble_eq_true rfl⟩ (va_recv hE.1 hP (ci := 2) (q0 := 9) rfl rfl) (hP.sub (ws' := (wN (ad 9) (b5 u 0))) [9] rfl) (hD.sub (ws' := (wN (ad 9) (b5 u 0))) [9] (by decide) rfl) rfl hl.1 rfl (Nat.le_of_ble_eq_true rfl) d_B_learn_16 ⟨Nat.zero_le _, Nat.zero_le _⟩) hP hD hS hA rfl rfl (fun H locs hP hD hS => ?_)
      have hI1 : Iv (f_B_learn_16 (0 : Int32) u) := (Iv_of (k2_f_B_learn_16 _ _) (k6_f_B_learn_16 _ _) hI)
      obtain ⟨U1, hU1⟩ : ∃ z, (f_B_learn_16 (0 : Int32) u) = z := ⟨_, rfl⟩
      rw [hU1] at hP hD hI1
      refine hk_goIe (hk_kS (k := 1) (As := [.int ((m_Window_learnAtEnd (b5 u 0)).1)]) (rest := []) C (c_B_bit l G ((m_Window_learnAtEnd (b5 u 0)).1) _) Y_B_bit (hk_in (by decide +kernel) rfl) rfl rfl ⟨Nat.le_of_ble_eq_true rfl, Nat.le_of_ble_eq_true rfl⟩ hk_Pn (hk_Dn (A := A)) rfl hl.1 rfl (Nat.le_of_ble_eq_true rfl) d_B_learn_19 ⟨Nat.zero_le _, Nat.zero_le _⟩) hP hS hA (fun H locs hP hS => ?_)
      subst hU1
      have e : m_B_learn (0 : Int32) u = (m_B_bit ((m_Window_learnAtEnd (b5 u 0)).1), (f_B_learn_16 (0 : Int32) u)) := (if_neg c_1).trans (rfl)
      exact hk_ri C hAe hP hD hS (by rw [e]) (by rw [e]) d_B_learn_22
    · skip
      refine lv_aload_n hx hb d_B_learn_10 rfl (lv_at hl 0 rfl) ?_
      refine hk_get (v := .ref (ad 8)) C hP 0 4 5 i_B rfl rfl (by decide) (hk_in (by decide +kernel) rfl) rfl d_B_learn_11 ?_
      refine lv_iload_n hx hb d_B_learn_14 rfl (lv_at hl 1 rfl) ?_
      refine hk_ald C hP 8 3 (v := (ad 10)) rfl rfl (hk_inl (by decide)) rfl d_B_learn_15 ?_
      refine hk_goI1 10 (w2 := wB G ad (f_B_learn_16 (1 : Int32) u)) (hk_kN (host := "BodyRows2") (k := 0) (As := []) (rest := []) C (c_Window_learnAtEnd l G (ad 10) (b5 u 1) _) Y_Window_learnAtEnd (by decide +kernel) rfl rfl ⟨Nat.le_of_ble_eq_true rfl, Nat.le_of_ble_eq_true rfl⟩ (va_recv hE.1 hP (ci := 2) (q0 := 10) rfl rfl) (hP.sub (ws' := (wN (ad 10) (b5 u 1))) [10] rfl) (hD.sub (ws' := (wN (ad 10) (b5 u 1))) [10] (by decide) rfl) rfl hl.1 rfl (Nat.le_of_ble_eq_true rfl) d_B_learn_16 ⟨Nat.zero_le _, Nat.zero_le _⟩) hP hD hS hA rfl rfl (fun H locs hP hD hS => ?_)
      have hI2 : Iv (f_B_learn_16 (1 : Int32) u) := (Iv_of (k2_f_B_learn_16 _ _) (k6_f_B_learn_16 _ _) hI)
      obtain ⟨U2, hU2⟩ : ∃ z, (f_B_learn_16 (1 : Int32) u) = z := ⟨_, rfl⟩
      rw [hU2] at hP hD hI2
      refine hk_goIe (hk_kS (k := 1) (As := [.int ((m_Window_learnAtEnd (b5 u 1)).1)]) (rest := []) C (c_B_bit l G ((m_Window_learnAtEnd (b5 u 1)).1) _) Y_B_bit (hk_in (by decide +kernel) rfl) rfl rfl ⟨Nat.le_of_ble_eq_true rfl, Nat.le_of_ble_eq_true rfl⟩ hk_Pn (hk_Dn (A := A)) rfl hl.1 rfl (Nat.le_of_ble_eq_true rfl) d_B_learn_19 ⟨Nat.zero_le _, Nat.zero_le _⟩) hP hS hA (fun H locs hP hS => ?_)
      subst hU2
      have e : m_B_learn (1 : Int32) u = (m_B_bit ((m_Window_learnAtEnd (b5 u 1)).1), (f_B_learn_16 (1 : Int32) u)) := (if_neg c_1).trans (rfl)
      exact hk_ri C hAe hP hD hS (by rw [e]) (by rw [e]) d_B_learn_22
    · skip
      refine lv_aload_n hx hb d_B_learn_10 rfl (lv_at hl 0 rfl) ?_
      refine hk_get (v := .ref (ad 8)) C hP 0 4 5 i_B rfl rfl (by decide) (hk_in (by decide +kernel) rfl) rfl d_B_learn_11 ?_
      refine lv_iload_n hx hb d_B_learn_14 rfl (lv_at hl 1 rfl) ?_
      refine hk_ald C hP 8 3 (v := (ad 11)) rfl rfl (hk_inl (by decide)) rfl d_B_learn_15 ?_
      refine hk_goI1 11 (w2 := wB G ad (f_B_learn_16 (2 : Int32) u)) (hk_kN (host := "BodyRows2") (k := 0) (As := []) (rest := []) C (c_Window_learnAtEnd l G (ad 11) (b5 u 2) _) Y_Window_learnAtEnd (by decide +kernel) rfl rfl ⟨Nat.le_of_ble_eq_true rfl, Nat.le_of_ble_eq_true rfl⟩ (va_recv hE.1 hP (ci := 2) (q0 := 11) rfl rfl) (hP.sub (ws' := (wN (ad 11) (b5 u 2))) [11] rfl) (hD.sub (ws' := (wN (ad 11) (b5 u 2))) [11] (by decide) rfl) rfl hl.1 rfl (Nat.le_of_ble_eq_true rfl) d_B_learn_16 ⟨Nat.zero_le _, Nat.zero_le _⟩) hP hD hS hA rfl rfl (fun H locs hP hD hS => ?_)
      have hI3 : Iv (f_B_learn_16 (2 : Int32) u) := (Iv_of (k2_f_B_learn_16 _ _) (k6_f_B_learn_16 _ _) hI)
      obtain ⟨U3, hU3⟩ : ∃ z, (f_B_learn_16 (2 : Int32) u) = z := ⟨_, rfl⟩
      rw [hU3] at hP hD hI3
      refine hk_goIe (hk_kS (k := 1) (As := [.int ((m_Window_learnAtEnd (b5 u 2)).1)]) (rest := []) C (c_B_bit l G ((m_Window_learnAtEnd (b5 u 2)).1) _) Y_B_bit (hk_in (by decide +kernel) rfl) rfl rfl ⟨Nat.le_of_ble_eq_true rfl, Nat.le_of_ble_eq_true rfl⟩ hk_Pn (hk_Dn (A := A)) rfl hl.1 rfl (Nat.le_of_ble_eq_true rfl) d_B_learn_19 ⟨Nat.zero_le _, Nat.zero_le _⟩) hP hS hA (fun H locs hP hS => ?_)
      subst hU3
      have e : m_B_learn (2 : Int32) u = (m_B_bit ((m_Window_learnAtEnd (b5 u 2)).1), (f_B_learn_16 (2 : Int32) u)) := (if_neg c_1).trans (rfl)
      exact hk_ri C hAe hP hD hS (by rw [e]) (by rw [e]) d_B_learn_22
    · skip
      refine lv_aload_n hx hb d_B_learn_10 rfl (lv_at hl 0 rfl) ?_
      refine hk_get (v := .ref (ad 8)) C hP 0 4 5 i_B rfl rfl (by decide) (hk_in (by decide +kernel) rfl) rfl d_B_learn_11 ?_
      refine lv_iload_n hx hb d_B_learn_14 rfl (lv_at hl 1 rfl) ?_
      refine hk_ald C hP 8 3 (v := (ad 12)) rfl rfl (hk_inl (by decide)) rfl d_B_learn_15 ?_
      refine hk_goI1 12 (w2 := wB G ad (f_B_learn_16 (3 : Int32) u)) (hk_kN (host := "BodyRows2") (k := 0) (As := []) (rest := []) C (c_Window_learnAtEnd l G (ad 12) (b5 u 3) _) Y_Window_learnAtEnd (by decide +kernel) rfl rfl ⟨Nat.le_of_ble_eq_true rfl, Nat.le_of_ble_eq_true rfl⟩ (va_recv hE.1 hP (ci := 2) (q0 := 12) rfl rfl) (hP.sub (ws' := (wN (ad 12) (b5 u 3))) [12] rfl) (hD.sub (ws' := (wN (ad 12) (b5 u 3))) [12] (by decide) rfl) rfl hl.1 rfl (Nat.le_of_ble_eq_true rfl) d_B_learn_16 ⟨Nat.zero_le _, Nat.zero_le _⟩) hP hD hS hA rfl rfl (fun H locs hP hD hS => ?_)
      have hI4 : Iv (f_B_learn_16 (3 : Int32) u) := (Iv_of (k2_f_B_learn_16 _ _) (k6_f_B_learn_16 _ _) hI)
      obtain ⟨U4, hU4⟩ : ∃ z, (f_B_learn_16 (3 : Int32) u) = z := ⟨_, rfl⟩
      rw [hU4] at hP hD hI4
      refine hk_goIe (hk_kS (k := 1) (As := [.int ((m_Window_learnAtEnd (b5 u 3)).1)]) (rest := []) C (c_B_bit l G ((m_Window_learnAtEnd (b5 u 3)).1) _) Y_B_bit (hk_in (by decide +kernel) rfl) rfl rfl ⟨Nat.le_of_ble_eq_true rfl, Nat.le_of_ble_eq_true rfl⟩ hk_Pn (hk_Dn (A := A)) rfl hl.1 rfl (Nat.le_of_ble_eq_true rfl) d_B_learn_19 ⟨Nat.zero_le _, Nat.zero_le _⟩) hP hS hA (fun H locs hP hS => ?_)
      subst hU4
      have e : m_B_learn (3 : Int32) u = (m_B_bit ((m_Window_learnAtEnd (b5 u 3)).1), (f_B_learn_16 (3 : Int32) u)) := (if_neg c_1).trans (rfl)
      exact hk_ri C hAe hP hD hS (by rw [e]) (by rw [e]) d_B_learn_22
  · skip
    refine lv_iconst (v := (-1 : Int32)) hx hb d_B_learn_8 (by decide) ?_
    have e : m_B_learn p1 u = ((-1 : Int32), u) := (if_pos c_1).trans (rfl)
    exact hk_ri C hAe hP hD hS (by rw [e]) (by rw [e]) d_B_learn_9
theorem Y_B_shed : hk_Y y_B_shed b_B_shed 2 (some .int) 1 := ⟨hk_in (by decide +kernel) rfl, hk_in (by decide +kernel) rfl, hk_in (by decide +kernel) rfl, hk_in (List.mem_of_getElem? (i := 346) rfl) rfl, by decide, by decide, by decide +kernel⟩
abbrev rm_B_shed : Room := { frames := 2, cells := 0, slots := 0, locals := 43 }
set_option maxHeartbeats 4000000 in
set_option maxRecDepth 100000 in
theorem c_B_shed (l : Launch) (G : hk_G) (ad : Nat → Nat) (u : cB) (p1 : Int32) (hI : Iv u) : hk_I l G y_B_shed b_B_shed 2 (some .int) rm_B_shed [.ref (ad 0), .int p1] (wB G ad u) ((m_B_shed p1 u).1) (wB G ad ((m_B_shed p1 u).2)) := by
  refine hk_I_of (by decide) (Nat.le_of_ble_eq_true rfl) ?_
  intro p e s m below meth c A ls C hAe hA hP hD hS hl
  have hx := C.1
  have hb := C.2.1
  have hown := C.2.2.2.2.1
  have hts := C.2.2.2.2.2.1
  have hE := C.2.2.2.2.2.2.2
  have hl : lv_has ls 2 [(0, .ref (ad 0)), (1, .int p1)] := hl
  refine lv_iload_n hx hb d_B_shed_0 rfl (lv_at hl 1 rfl) ?_
  refine lv_sipush (v := (20000 : Int32)) hx hb d_B_shed_1 (by decide) ?_
  refine hk_goIe (hk_kS (k := 2) (As := [.int p1, .int (20000 : Int32)]) (rest := []) C (c_B_isUpTo l G p1 (20000 : Int32) _) Y_B_isUpTo (hk_in (by decide +kernel) rfl) rfl rfl ⟨Nat.le_of_ble_eq_true rfl, Nat.le_of_ble_eq_true rfl⟩ hk_Pn (hk_Dn (A := A)) rfl hl.1 rfl (Nat.le_of_ble_eq_true rfl) d_B_shed_4 ⟨Nat.zero_le _, Nat.zero_le _⟩) hP hS hA (fun H locs hP hS => ?_)
  refine lv_if_ne (tgt := 13) hx hb d_B_shed_7 (by decide) (fun c_1 => ?_) (fun c_1 => ?_)
  · skip
    refine lv_aload_n hx hb d_B_shed_13 rfl (lv_at hl 0 rfl) ?_
    refine hk_get (v := .ref (ad 13)) C hP 0 4 6 i_B rfl rfl (by decide) (hk_in (by decide +kernel) rfl) rfl d_B_shed_14 ?_
    refine lv_iload_n hx hb d_B_shed_17 rfl (lv_at hl 1 rfl) ?_
    refine hk_goVc (w2 := wB G ad (f_B_shed_18 p1 u)) (hk_kN (host := "BodyRows2") (k := 1) (As := [.int p1]) (rest := []) C (c_Loads_measure l G (ad 13) (ad 14) (ad 15) (ad 16) (b6 u) p1 (hI).2 _) Y_Loads_measure (by decide +kernel) rfl rfl ⟨Nat.le_of_ble_eq_true rfl, Nat.le_of_ble_eq_true rfl⟩ (va_recv hE.1 hP (ci := 3) (q0 := 13) rfl rfl) (hP.sub (ws' := (wL G (ad 13) (ad 14) (ad 15) (ad 16) (b6 u))) [13, 14, 15, 16] rfl) (hD.sub (ws' := (wL G (ad 13) (ad 14) (ad 15) (ad 16) (b6 u))) [13, 14, 15, 16] (by decide) rfl) rfl hl.1 rfl (Nat.le_of_ble_eq_true rfl) d_B_shed_18 ⟨Nat.zero_le _, Nat.zero_le _⟩) hP hD hS hA [13, 14, 15, 16] [0, 1, 2, 3, 4, 5, 6, 7, 8, 9, 10, 11, 12, 17, 18, 19, 20, 21] [0, 1, 2, 3, 4, 5, 6, 7, 8, 9, 10, 11, 12, 18, 19, 20, 21, 13, 14, 15, 16, 17] rfl rfl (by decide) (by decide) rfl (by decide) (fun H locs hP hD hS => ?_)
    have hI1 : Iv (f_B_shed_18 p1 u) := (kmL hI)
    obtain ⟨U1, hU1⟩ : ∃ z, (f_B_shed_18 p1 u) = z := ⟨_, rfl⟩
    rw [hU1] at hP hD hI1
    refine lv_aload_n hx hb d_B_shed_21 rfl (lv_at hl 0 rfl) ?_
    refine hk_get (v := .ref (ad 13)) C hP 0 4 6 i_B rfl rfl (by decide) (hk_in (by decide +kernel) rfl) rfl d_B_shed_22 ?_
    refine hk_goIc (w2 := wB G ad U1) (hk_kN (host := "BodyRows2") (k := 0) (As := []) (rest := []) C (c_Loads_countOff l G (ad 13) (ad 14) (ad 15) (ad 16) (b6 U1) (hI1).2 _) Y_Loads_countOff (by decide +kernel) rfl rfl ⟨Nat.le_of_ble_eq_true rfl, Nat.le_of_ble_eq_true rfl⟩ (va_recv hE.1 hP (ci := 3) (q0 := 13) rfl rfl) (hP.sub (ws' := (wL G (ad 13) (ad 14) (ad 15) (ad 16) (b6 U1))) [13, 14, 15, 16] rfl) (hD.sub (ws' := (wL G (ad 13) (ad 14) (ad 15) (ad 16) (b6 U1))) [13, 14, 15, 16] (by decide) rfl) rfl hl.1 rfl (Nat.le_of_ble_eq_true rfl) d_B_shed_25 ⟨Nat.zero_le _, Nat.zero_le _⟩) hP hD hS hA [13, 14, 15, 16] [0, 1, 2, 3, 4, 5, 6, 7, 8, 9, 10, 11, 12, 17, 18, 19, 20, 21] [0, 1, 2, 3, 4, 5, 6, 7, 8, 9, 10, 11, 12, 18, 19, 20, 21, 13, 14, 15, 16, 17] rfl rfl (by decide) (by decide) rfl (by decide) (fun H locs hP hD hS => ?_)
    subst hU1
    have e : m_B_shed p1 u = (m_Loads_countOff (b6 (f_B_shed_18 p1 u)), (f_B_shed_18 p1 u)) := (if_neg c_1).trans (rfl)
    exact hk_ri C hAe hP hD hS (by rw [e]) (by rw [e]) d_B_shed_28
  · skip
    refine lv_bipush (v := (-2 : Int32)) hx hb d_B_shed_10 (by decide) ?_
    have e : m_B_shed p1 u = ((-2 : Int32), u) := (if_pos c_1).trans (rfl)
    exact hk_ri C hAe hP hD hS (by rw [e]) (by rw [e]) d_B_shed_12
theorem Y_B_load : hk_Y y_B_load b_B_load 3 (some .int) 2 := ⟨hk_in (by decide +kernel) rfl, hk_in (by decide +kernel) rfl, hk_in (by decide +kernel) rfl, hk_in (List.mem_of_getElem? (i := 370) rfl) rfl, by decide, by decide, by decide +kernel⟩
abbrev rm_B_load : Room := { frames := 1, cells := 0, slots := 0, locals := 22 }
set_option maxHeartbeats 4000000 in
set_option maxRecDepth 100000 in
theorem c_B_load (l : Launch) (G : hk_G) (ad : Nat → Nat) (u : cB) (p1 : Int32) (p2 : Int32) (hI : Iv u) (h01 : p2 = 0 ∨ p2 = 1) : hk_I l G y_B_load b_B_load 3 (some .int) rm_B_load [.ref (ad 0), .int p1, .int p2] (wB G ad u) ((m_B_load p1 p2 u).1) (wB G ad ((m_B_load p1 p2 u).2)) := by
  refine hk_I_of (by decide) (Nat.le_of_ble_eq_true rfl) ?_
  intro p e s m below meth c A ls C hAe hA hP hD hS hl
  have hx := C.1
  have hb := C.2.1
  have hown := C.2.2.2.2.1
  have hts := C.2.2.2.2.2.1
  have hE := C.2.2.2.2.2.2.2
  have hl : lv_has ls 3 [(0, .ref (ad 0)), (1, .int p1), (2, .int p2)] := hl
  refine lv_iload_n hx hb d_B_load_0 rfl (lv_at hl 1 rfl) ?_
  refine lv_bipush (v := (9 : Int32)) hx hb d_B_load_1 (by decide) ?_
  refine hk_goIe (hk_kS (k := 2) (As := [.int p1, .int (9 : Int32)]) (rest := []) C (c_B_isUpTo l G p1 (9 : Int32) _) Y_B_isUpTo (hk_in (by decide +kernel) rfl) rfl rfl ⟨Nat.le_of_ble_eq_true rfl, Nat.le_of_ble_eq_true rfl⟩ hk_Pn (hk_Dn (A := A)) rfl hl.1 rfl (Nat.le_of_ble_eq_true rfl) d_B_load_3 ⟨Nat.zero_le _, Nat.zero_le _⟩) hP hS hA (fun H locs hP hS => ?_)
  refine lv_if_ne (tgt := 12) hx hb d_B_load_6 (by decide) (fun c_1 => ?_) (fun c_1 => ?_)
  · skip
    refine lv_aload_n hx hb d_B_load_12 rfl (lv_at hl 0 rfl) ?_
    refine hk_get (v := .ref (ad 13)) C hP 0 4 6 i_B rfl rfl (by decide) (hk_in (by decide +kernel) rfl) rfl d_B_load_13 ?_
    refine lv_iload_n hx hb d_B_load_16 rfl (lv_at hl 1 rfl) ?_
    refine lv_iload_n hx hb d_B_load_17 rfl (lv_at hl 2 rfl) ?_
    refine hk_goIc (w2 := wB G ad (f_B_load_18 p1 p2 u)) (hk_kN (host := "BodyRows2") (k := 2) (As := [.int p1, .int p2]) (rest := []) C (c_Loads_add l G (ad 13) (ad 14) (ad 15) (ad 16) (b6 u) p1 p2 (hI).2 h01 _) Y_Loads_add (by decide +kernel) rfl rfl ⟨Nat.le_of_ble_eq_true rfl, Nat.le_of_ble_eq_true rfl⟩ (va_recv hE.1 hP (ci := 3) (q0 := 13) rfl rfl) (hP.sub (ws' := (wL G (ad 13) (ad 14) (ad 15) (ad 16) (b6 u))) [13, 14, 15, 16] rfl) (hD.sub (ws' := (wL G (ad 13) (ad 14) (ad 15) (ad 16) (b6 u))) [13, 14, 15, 16] (by decide) rfl) rfl hl.1 rfl (Nat.le_of_ble_eq_true rfl) d_B_load_18 ⟨Nat.zero_le _, Nat.zero_le _⟩) hP hD hS hA [13, 14, 15, 16] [0, 1, 2, 3, 4, 5, 6, 7, 8, 9, 10, 11, 12, 17, 18, 19, 20, 21] [0, 1, 2, 3, 4, 5, 6, 7, 8, 9, 10, 11, 12, 18, 19, 20, 21, 13, 14, 15, 16, 17] rfl rfl (by decide) (by decide) rfl (by decide) (fun H locs hP hD hS => ?_)
    obtain ⟨U1, hU1⟩ : ∃ z, (f_B_load_18 p1 p2 u) = z := ⟨_, rfl⟩
    rw [hU1] at hP hD
    subst hU1
    have e : m_B_load p1 p2 u = ((m_Loads_add p1 p2 (b6 u)).1, (f_B_load_18 p1 p2 u)) := (if_neg c_1).trans (rfl)
    exact hk_ri C hAe hP hD hS (by rw [e]) (by rw [e]) d_B_load_21
  · skip
    refine lv_bipush (v := (-2 : Int32)) hx hb d_B_load_9 (by decide) ?_
    have e : m_B_load p1 p2 u = ((-2 : Int32), u) := (if_pos c_1).trans (rfl)
    exact hk_ri C hAe hP hD hS (by rw [e]) (by rw [e]) d_B_load_11
theorem Y_B_isOn : hk_Y y_B_isOn b_B_isOn 2 (some .int) 1 := ⟨hk_in (by decide +kernel) rfl, hk_in (by decide +kernel) rfl, hk_in (by decide +kernel) rfl, hk_in (List.mem_of_getElem? (i := 378) rfl) rfl, by decide, by decide, by decide +kernel⟩
abbrev rm_B_isOn : Room := { frames := 2, cells := 0, slots := 0, locals := 42 }
set_option maxHeartbeats 4000000 in
set_option maxRecDepth 100000 in
theorem c_B_isOn (l : Launch) (G : hk_G) (ad : Nat → Nat) (u : cB) (p1 : Int32) (hI : Iv u) : hk_I l G y_B_isOn b_B_isOn 2 (some .int) rm_B_isOn [.ref (ad 0), .int p1] (wB G ad u) (m_B_isOn p1 u) (wB G ad u) := by
  refine hk_I_of (by decide) (Nat.le_of_ble_eq_true rfl) ?_
  intro p e s m below meth c A ls C hAe hA hP hD hS hl
  have hx := C.1
  have hb := C.2.1
  have hown := C.2.2.2.2.1
  have hts := C.2.2.2.2.2.1
  have hE := C.2.2.2.2.2.2.2
  have hl : lv_has ls 2 [(0, .ref (ad 0)), (1, .int p1)] := hl
  refine lv_aload_n hx hb d_B_isOn_0 rfl (lv_at hl 0 rfl) ?_
  refine hk_get (v := .ref (ad 13)) C hP 0 4 6 i_B rfl rfl (by decide) (hk_in (by decide +kernel) rfl) rfl d_B_isOn_1 ?_
  refine lv_iload_n hx hb d_B_isOn_4 rfl (lv_at hl 1 rfl) ?_
  refine hk_goIc (w2 := wB G ad u) (hk_kN (host := "BodyRows2") (k := 1) (As := [.int p1]) (rest := []) C (c_Loads_has l G (ad 13) (ad 14) (ad 15) (ad 16) (b6 u) p1 (hI).2 _) Y_Loads_has (by decide +kernel) rfl rfl ⟨Nat.le_of_ble_eq_true rfl, Nat.le_of_ble_eq_true rfl⟩ (va_recv hE.1 hP (ci := 3) (q0 := 13) rfl rfl) (hP.sub (ws' := (wL G (ad 13) (ad 14) (ad 15) (ad 16) (b6 u))) [13, 14, 15, 16] rfl) (hD.sub (ws' := (wL G (ad 13) (ad 14) (ad 15) (ad 16) (b6 u))) [13, 14, 15, 16] (by decide) rfl) rfl hl.1 rfl (Nat.le_of_ble_eq_true rfl) d_B_isOn_5 ⟨Nat.zero_le _, Nat.zero_le _⟩) hP hD hS hA [13, 14, 15, 16] [0, 1, 2, 3, 4, 5, 6, 7, 8, 9, 10, 11, 12, 17, 18, 19, 20, 21] [0, 1, 2, 3, 4, 5, 6, 7, 8, 9, 10, 11, 12, 18, 19, 20, 21, 13, 14, 15, 16, 17] rfl rfl (by decide) (by decide) rfl (by decide) (fun H locs hP hD hS => ?_)
  refine lv_if_ne (tgt := 13) hx hb d_B_isOn_8 (by decide) (fun c_1 => ?_) (fun c_1 => ?_)
  · skip
    refine lv_aload_n hx hb d_B_isOn_13 rfl (lv_at hl 0 rfl) ?_
    refine hk_get (v := .ref (ad 13)) C hP 0 4 6 i_B rfl rfl (by decide) (hk_in (by decide +kernel) rfl) rfl d_B_isOn_14 ?_
    refine lv_iload_n hx hb d_B_isOn_17 rfl (lv_at hl 1 rfl) ?_
    refine hk_goIc (w2 := wB G ad u) (hk_kN (host := "BodyRows2") (k := 1) (As := [.int p1]) (rest := []) C (c_Loads_runs l G (ad 13) (ad 14) (ad 15) (ad 16) (b6 u) p1 (hI).2 _) Y_Loads_runs (by decide +kernel) rfl rfl ⟨Nat.le_of_ble_eq_true rfl, Nat.le_of_ble_eq_true rfl⟩ (va_recv hE.1 hP (ci := 3) (q0 := 13) rfl rfl) (hP.sub (ws' := (wL G (ad 13) (ad 14) (ad 15) (ad 16) (b6 u))) [13, 14, 15, 16] rfl) (hD.sub (ws' := (wL G (ad 13) (ad 14) (ad 15) (ad 16) (b6 u))) [13, 14, 15, 16] (by decide) rfl) rfl hl.1 rfl (Nat.le_of_ble_eq_true rfl) d_B_isOn_18 ⟨Nat.zero_le _, Nat.zero_le _⟩) hP hD hS hA [13, 14, 15, 16] [0, 1, 2, 3, 4, 5, 6, 7, 8, 9, 10, 11, 12, 17, 18, 19, 20, 21] [0, 1, 2, 3, 4, 5, 6, 7, 8, 9, 10, 11, 12, 18, 19, 20, 21, 13, 14, 15, 16, 17] rfl rfl (by decide) (by decide) rfl (by decide) (fun H locs hP hD hS => ?_)
    refine hk_goIe (hk_kS (k := 1) (As := [.int (m_Loads_runs p1 (b6 u))]) (rest := []) C (c_B_bit l G (m_Loads_runs p1 (b6 u)) _) Y_B_bit (hk_in (by decide +kernel) rfl) rfl rfl ⟨Nat.le_of_ble_eq_true rfl, Nat.le_of_ble_eq_true rfl⟩ hk_Pn (hk_Dn (A := A)) rfl hl.1 rfl (Nat.le_of_ble_eq_true rfl) d_B_isOn_21 ⟨Nat.zero_le _, Nat.zero_le _⟩) hP hS hA (fun H locs hP hS => ?_)
    have e : m_B_isOn p1 u = m_B_bit (m_Loads_runs p1 (b6 u)) := (if_neg c_1).trans (rfl)
    exact hk_ri C hAe hP hD hS e.symm rfl d_B_isOn_24
  · skip
    refine lv_iconst (v := (-1 : Int32)) hx hb d_B_isOn_11 (by decide) ?_
    have e : m_B_isOn p1 u = (-1 : Int32) := (if_pos c_1).trans (rfl)
    exact hk_ri C hAe hP hD hS e.symm rfl d_B_isOn_12
theorem Y_B_bulb : hk_Y y_B_bulb b_B_bulb 4 (some .int) 2 := ⟨hk_in (by decide +kernel) rfl, hk_in (by decide +kernel) rfl, hk_in (by decide +kernel) rfl, hk_in (List.mem_of_getElem? (i := 391) rfl) rfl, by decide, by decide, by decide +kernel⟩
abbrev rm_B_bulb : Room := { frames := 1, cells := 0, slots := 0, locals := 21 }
set_option maxHeartbeats 4000000 in
set_option maxRecDepth 100000 in
theorem c_B_bulb (l : Launch) (G : hk_G) (tz : Nat) (ad : Nat → Nat) (u : cB) (p1 : Int32) (p2 : Int32) (hI : Iv u) : hk_IZ l G y_B_bulb b_B_bulb 4 (some .int) rm_B_bulb [.ref (ad 0), .int p1, .int p2] (wB G ad u) ((m_B_bulb p1 p2 u).1) (wB G ad ((m_B_bulb p1 p2 u).2)) (hk_Z2 tz) := by
  refine hk_IZ_of (by decide) (Nat.le_of_ble_eq_true rfl) ?_
  intro p e s m below meth c A ls C hAe hA hP hD hS hl hZT
  have hx := C.1
  have hb := C.2.1
  have hown := C.2.2.2.2.1
  have hts := C.2.2.2.2.2.1
  have hE := C.2.2.2.2.2.2.2
  have hl : lv_has ls 4 [(0, .ref (ad 0)), (1, .int p1), (2, .int p2)] := hl
  have hZ2 := hZT.1
  have hT2 := hZT.2
  refine lv_iload_n hx hb d_B_bulb_0 rfl (lv_at hl 1 rfl) ?_
  refine lv_bipush (v := (6 : Int32)) hx hb d_B_bulb_1 (by decide) ?_
  refine hk_goIe (hk_kS (k := 2) (As := [.int p1, .int (6 : Int32)]) (rest := []) C (c_B_isBelow l G p1 (6 : Int32) _) Y_B_isBelow (hk_in (by decide +kernel) rfl) rfl rfl ⟨Nat.le_of_ble_eq_true rfl, Nat.le_of_ble_eq_true rfl⟩ hk_Pn (hk_Dn (A := A)) rfl hl.1 rfl (Nat.le_of_ble_eq_true rfl) d_B_bulb_3 ⟨Nat.zero_le _, Nat.zero_le _⟩) hP hS hA (fun H locs hP hS => ?_)
  refine lv_if_ne (tgt := 11) hx hb d_B_bulb_6 (by decide) (fun c_1 => ?_) (fun c_1 => ?_)
  · skip
    refine lv_aload_n hx hb d_B_bulb_11 rfl (lv_at hl 0 rfl) ?_
    refine hk_get (v := .ref (ad 3)) C hP 0 4 2 i_B rfl rfl (by decide) (hk_in (by decide +kernel) rfl) rfl d_B_bulb_12 ?_
    refine lv_iload_n hx hb d_B_bulb_15 rfl (lv_at hl 1 rfl) ?_
    refine lv_iload_n hx hb d_B_bulb_16 rfl (lv_at hl 2 rfl) ?_
    refine lv_if_ne (tgt := 24) hx hb d_B_bulb_17 (by decide) (fun c_2 => ?_) (fun c_2 => ?_)
    · skip
      refine lv_iconst (v := (0 : Int32)) hx hb d_B_bulb_24 (by decide) ?_
      refine hk_zst (w2 := wB G ad (f_B_bulb_25_1 p1 u)) C hP hD hS 3 1 rfl rfl (hk_ib c_1 (N := 6) rfl) (Or.inl rfl) rfl d_B_bulb_25 (fun H locs hP hD hS => ?_)
      obtain ⟨U1, hU1⟩ : ∃ z, (f_B_bulb_25_1 p1 u) = z := ⟨_, rfl⟩
      rw [hU1] at hP hD
      refine va_gets hx hb hZ2 hS hown (hts _ (hk_in (by decide +kernel) rfl)) (fun _ h9 => h9) d_B_bulb_26 ?_
      refine lv_iload_n hx hb d_B_bulb_29 rfl (lv_at hl 1 rfl) ?_
      refine va_ti hx hb hT2 hS (v := .int (k_subst p1.toNatClampNeg)) (by subst hU1; exact hk_ib c_1 (N := 6) rfl) rfl d_B_bulb_30 ?_
      refine lv_istore_n (lv' := [(3, .int (k_subst p1.toNatClampNeg)), (0, .ref (ad 0)), (1, .int p1), (2, .int p2)]) hx hb d_B_bulb_31 rfl hl (by decide) rfl (fun ls hl => ?_)
      refine lv_iload_n hx hb d_B_bulb_32 rfl (lv_at hl 3 rfl) ?_
      refine lv_if_ne (tgt := 45) hx hb d_B_bulb_33 (by decide) (fun c_3 => ?_) (fun c_3 => ?_)
      · skip
        refine lv_iconst (v := (0 : Int32)) hx hb d_B_bulb_45 (by decide) ?_
        refine lv_goto (tgt := 52) hx hb d_B_bulb_46 (by decide) ?_
        subst hU1
        have e : m_B_bulb p1 p2 u = ((0 : Int32), (f_B_bulb_25_1 p1 u)) := (if_neg c_1).trans ((if_neg c_2).trans ((if_neg c_3).trans (rfl)))
        exact hk_ri C hAe hP hD hS (by rw [e]) (by rw [e]) d_B_bulb_52
      · skip
        refine lv_aload_n hx hb d_B_bulb_36 rfl (lv_at hl 1 rfl) ?_
        refine hk_get (v := .ref (ad 3)) C hP 0 4 2 i_B rfl rfl (by decide) (hk_in (by decide +kernel) rfl) rfl d_B_bulb_37 ?_
        refine lv_iload_n hx hb d_B_bulb_40 rfl (lv_at hl 0 rfl) ?_
        refine hk_zld C hP 3 1 (v := (b2 U1) (k_subst p1.toNatClampNeg).toNatClampNeg) rfl rfl (by subst hU1; exact hk_sub _) rfl d_B_bulb_41 ?_
        refine lv_if_eq (tgt := 49) hx hb d_B_bulb_42 (by decide) (fun c_4 => ?_) (fun c_4 => ?_)
        · skip
          refine lv_iload_n hx hb d_B_bulb_49 rfl (lv_at hl 0 rfl) ?_
          refine lv_iconst (v := (1 : Int32)) hx hb d_B_bulb_50 (by decide) ?_
          refine lv_iadd hx hb d_B_bulb_51 ?_
          subst hU1
          have e : m_B_bulb p1 p2 u = ((k_subst p1.toNatClampNeg) + (1 : Int32), (f_B_bulb_25_1 p1 u)) := (if_neg c_1).trans ((if_neg c_2).trans ((if_pos c_3).trans ((if_pos c_4).trans (rfl))))
          exact hk_ri C hAe hP hD hS (by rw [e]) (by rw [e]) d_B_bulb_52
        · skip
          refine lv_iconst (v := (0 : Int32)) hx hb d_B_bulb_45 (by decide) ?_
          refine lv_goto (tgt := 52) hx hb d_B_bulb_46 (by decide) ?_
          subst hU1
          have e : m_B_bulb p1 p2 u = ((0 : Int32), (f_B_bulb_25_1 p1 u)) := (if_neg c_1).trans ((if_neg c_2).trans ((if_pos c_3).trans ((if_neg c_4).trans (rfl))))
          exact hk_ri C hAe hP hD hS (by rw [e]) (by rw [e]) d_B_bulb_52
    · skip
      refine lv_iconst (v := (1 : Int32)) hx hb d_B_bulb_20 (by decide) ?_
      refine lv_goto (tgt := 25) hx hb d_B_bulb_21 (by decide) ?_
      refine hk_zst (w2 := wB G ad (f_B_bulb_25 p1 u)) C hP hD hS 3 1 rfl rfl (hk_ib c_1 (N := 6) rfl) (Or.inr rfl) rfl d_B_bulb_25 (fun H locs hP hD hS => ?_)
      obtain ⟨U2, hU2⟩ : ∃ z, (f_B_bulb_25 p1 u) = z := ⟨_, rfl⟩
      rw [hU2] at hP hD
      refine va_gets hx hb hZ2 hS hown (hts _ (hk_in (by decide +kernel) rfl)) (fun _ h9 => h9) d_B_bulb_26 ?_
      refine lv_iload_n hx hb d_B_bulb_29 rfl (lv_at hl 1 rfl) ?_
      refine va_ti hx hb hT2 hS (v := .int (k_subst p1.toNatClampNeg)) (by subst hU2; exact hk_ib c_1 (N := 6) rfl) rfl d_B_bulb_30 ?_
      refine lv_istore_n (lv' := [(3, .int (k_subst p1.toNatClampNeg)), (0, .ref (ad 0)), (1, .int p1), (2, .int p2)]) hx hb d_B_bulb_31 rfl hl (by decide) rfl (fun ls hl => ?_)
      refine lv_iload_n hx hb d_B_bulb_32 rfl (lv_at hl 3 rfl) ?_
      refine lv_if_ne (tgt := 45) hx hb d_B_bulb_33 (by decide) (fun c_5 => ?_) (fun c_5 => ?_)
      · skip
        refine lv_iconst (v := (0 : Int32)) hx hb d_B_bulb_45 (by decide) ?_
        refine lv_goto (tgt := 52) hx hb d_B_bulb_46 (by decide) ?_
        subst hU2
        have e : m_B_bulb p1 p2 u = ((0 : Int32), (f_B_bulb_25 p1 u)) := (if_neg c_1).trans ((if_pos c_2).trans ((if_neg c_5).trans (rfl)))
        exact hk_ri C hAe hP hD hS (by rw [e]) (by rw [e]) d_B_bulb_52
      · skip
        refine lv_aload_n hx hb d_B_bulb_36 rfl (lv_at hl 1 rfl) ?_
        refine hk_get (v := .ref (ad 3)) C hP 0 4 2 i_B rfl rfl (by decide) (hk_in (by decide +kernel) rfl) rfl d_B_bulb_37 ?_
        refine lv_iload_n hx hb d_B_bulb_40 rfl (lv_at hl 0 rfl) ?_
        refine hk_zld C hP 3 1 (v := (b2 U2) (k_subst p1.toNatClampNeg).toNatClampNeg) rfl rfl (by subst hU2; exact hk_sub _) rfl d_B_bulb_41 ?_
        refine lv_if_eq (tgt := 49) hx hb d_B_bulb_42 (by decide) (fun c_6 => ?_) (fun c_6 => ?_)
        · skip
          refine lv_iload_n hx hb d_B_bulb_49 rfl (lv_at hl 0 rfl) ?_
          refine lv_iconst (v := (1 : Int32)) hx hb d_B_bulb_50 (by decide) ?_
          refine lv_iadd hx hb d_B_bulb_51 ?_
          subst hU2
          have e : m_B_bulb p1 p2 u = ((k_subst p1.toNatClampNeg) + (1 : Int32), (f_B_bulb_25 p1 u)) := (if_neg c_1).trans ((if_pos c_2).trans ((if_pos c_5).trans ((if_pos c_6).trans (rfl))))
          exact hk_ri C hAe hP hD hS (by rw [e]) (by rw [e]) d_B_bulb_52
        · skip
          refine lv_iconst (v := (0 : Int32)) hx hb d_B_bulb_45 (by decide) ?_
          refine lv_goto (tgt := 52) hx hb d_B_bulb_46 (by decide) ?_
          subst hU2
          have e : m_B_bulb p1 p2 u = ((0 : Int32), (f_B_bulb_25 p1 u)) := (if_neg c_1).trans ((if_pos c_2).trans ((if_pos c_5).trans ((if_neg c_6).trans (rfl))))
          exact hk_ri C hAe hP hD hS (by rw [e]) (by rw [e]) d_B_bulb_52
  · skip
    refine lv_iconst (v := (-1 : Int32)) hx hb d_B_bulb_9 (by decide) ?_
    have e : m_B_bulb p1 p2 u = ((-1 : Int32), u) := (if_pos c_1).trans (rfl)
    exact hk_ri C hAe hP hD hS (by rw [e]) (by rw [e]) d_B_bulb_10
theorem Y_B_rain : hk_Y y_B_rain b_B_rain 3 (some .int) 1 := ⟨hk_in (by decide +kernel) rfl, hk_in (by decide +kernel) rfl, hk_in (by decide +kernel) rfl, hk_in (List.mem_of_getElem? (i := 397) rfl) rfl, by decide, by decide, by decide +kernel⟩
abbrev rm_B_rain : Room := { frames := 1, cells := 0, slots := 0, locals := 21 }
set_option maxHeartbeats 4000000 in
set_option maxRecDepth 100000 in
theorem c_B_rain (l : Launch) (G : hk_G) (ad : Nat → Nat) (u : cB) (p1 : Int32) (hI : Iv u) : hk_I l G y_B_rain b_B_rain 3 (some .int) rm_B_rain [.ref (ad 0), .int p1] (wB G ad u) ((m_B_rain p1 u).1) (wB G ad ((m_B_rain p1 u).2)) := by
  refine hk_I_of (by decide) (Nat.le_of_ble_eq_true rfl) ?_
  intro p e s m below meth c A ls C hAe hA hP hD hS hl
  have hx := C.1
  have hb := C.2.1
  have hown := C.2.2.2.2.1
  have hts := C.2.2.2.2.2.1
  have hE := C.2.2.2.2.2.2.2
  have hl : lv_has ls 3 [(0, .ref (ad 0)), (1, .int p1)] := hl
  refine lv_iload_n hx hb d_B_rain_0 rfl (lv_at hl 1 rfl) ?_
  refine lv_bipush (v := (9 : Int32)) hx hb d_B_rain_1 (by decide) ?_
  refine hk_goIe (hk_kS (k := 2) (As := [.int p1, .int (9 : Int32)]) (rest := []) C (c_B_isUpTo l G p1 (9 : Int32) _) Y_B_isUpTo (hk_in (by decide +kernel) rfl) rfl rfl ⟨Nat.le_of_ble_eq_true rfl, Nat.le_of_ble_eq_true rfl⟩ hk_Pn (hk_Dn (A := A)) rfl hl.1 rfl (Nat.le_of_ble_eq_true rfl) d_B_rain_3 ⟨Nat.zero_le _, Nat.zero_le _⟩) hP hS hA (fun H locs hP hS => ?_)
  refine lv_if_ne (tgt := 12) hx hb d_B_rain_6 (by decide) (fun c_1 => ?_) (fun c_1 => ?_)
  · skip
    refine lv_aload_n hx hb d_B_rain_12 rfl (lv_at hl 0 rfl) ?_
    refine hk_get (v := .int (b8 u)) C hP 0 4 8 i_B rfl rfl (by decide) (hk_in (by decide +kernel) rfl) rfl d_B_rain_13 ?_
    refine lv_istore_n (lv' := [(2, .int (b8 u)), (0, .ref (ad 0)), (1, .int p1)]) hx hb d_B_rain_16 rfl hl (by decide) rfl (fun ls hl => ?_)
    refine lv_aload_n hx hb d_B_rain_17 rfl (lv_at hl 1 rfl) ?_
    refine lv_iload_n hx hb d_B_rain_18 rfl (lv_at hl 2 rfl) ?_
    refine hk_put (w2 := wB G ad (f_B_rain_19 p1 u)) (v := .int p1) (ty := .int) C hP hD hS 0 4 8 i_B t_B_ok n_B rfl rfl (by decide) (hk_in (by decide +kernel) rfl) rfl (by decide +kernel) rfl rfl (Nat.le_of_ble_eq_true rfl) rfl d_B_rain_19 (fun H locs hP hD hS => ?_)
    have hI1 : Iv (f_B_rain_19 p1 u) := (Iv_of (k2_f_B_rain_19 _ _) (k6_f_B_rain_19 _ _) hI)
    obtain ⟨U1, hU1⟩ : ∃ z, (f_B_rain_19 p1 u) = z := ⟨_, rfl⟩
    rw [hU1] at hP hD hI1
    refine lv_iload_n hx hb d_B_rain_22 rfl (lv_at hl 0 rfl) ?_
    subst hU1
    have e : m_B_rain p1 u = (b8 u, (f_B_rain_19 p1 u)) := (if_neg c_1).trans (rfl)
    exact hk_ri C hAe hP hD hS (by rw [e]) (by rw [e]) d_B_rain_23
  · skip
    refine lv_bipush (v := (-2 : Int32)) hx hb d_B_rain_9 (by decide) ?_
    have e : m_B_rain p1 u = ((-2 : Int32), u) := (if_pos c_1).trans (rfl)
    exact hk_ri C hAe hP hD hS (by rw [e]) (by rw [e]) d_B_rain_11
theorem Y_B_window : hk_Y y_B_window b_B_window 3 (some .int) 2 := ⟨hk_in (by decide +kernel) rfl, hk_in (by decide +kernel) rfl, hk_in (by decide +kernel) rfl, hk_in (List.mem_of_getElem? (i := 401) rfl) rfl, by decide, by decide, by decide +kernel⟩
abbrev rm_B_window : Room := { frames := 2, cells := 0, slots := 0, locals := 42 }
set_option maxHeartbeats 4000000 in
set_option maxRecDepth 100000 in
theorem c_B_window (l : Launch) (G : hk_G) (ad : Nat → Nat) (u : cB) (p1 : Int32) (p2 : Int32) (hI : Iv u) : hk_I l G y_B_window b_B_window 3 (some .int) rm_B_window [.ref (ad 0), .int p1, .int p2] (wB G ad u) ((m_B_window p1 p2 u).1) (wB G ad ((m_B_window p1 p2 u).2)) := by
  refine hk_I_of (by decide) (Nat.le_of_ble_eq_true rfl) ?_
  intro p e s m below meth c A ls C hAe hA hP hD hS hl
  have hx := C.1
  have hb := C.2.1
  have hown := C.2.2.2.2.1
  have hts := C.2.2.2.2.2.1
  have hE := C.2.2.2.2.2.2.2
  have hl : lv_has ls 3 [(0, .ref (ad 0)), (1, .int p1), (2, .int p2)] := hl
  refine lv_iload_n hx hb d_B_window_0 rfl (lv_at hl 1 rfl) ?_
  refine lv_iconst (v := (4 : Int32)) hx hb d_B_window_1 (by decide) ?_
  refine hk_goIe (hk_kS (k := 2) (As := [.int p1, .int (4 : Int32)]) (rest := []) C (c_B_isBelow l G p1 (4 : Int32) _) Y_B_isBelow (hk_in (by decide +kernel) rfl) rfl rfl ⟨Nat.le_of_ble_eq_true rfl, Nat.le_of_ble_eq_true rfl⟩ hk_Pn (hk_Dn (A := A)) rfl hl.1 rfl (Nat.le_of_ble_eq_true rfl) d_B_window_2 ⟨Nat.zero_le _, Nat.zero_le _⟩) hP hS hA (fun H locs hP hS => ?_)
  refine lv_if_ne (tgt := 10) hx hb d_B_window_5 (by decide) (fun c_1 => ?_) (fun c_1 => ?_)
  · skip
    refine lv_iload_n hx hb d_B_window_10 rfl (lv_at hl 2 rfl) ?_
    refine lv_sipush (v := (200 : Int32)) hx hb d_B_window_11 (by decide) ?_
    refine hk_goIe (hk_kS (k := 2) (As := [.int p2, .int (200 : Int32)]) (rest := []) C (c_B_isUpTo l G p2 (200 : Int32) _) Y_B_isUpTo (hk_in (by decide +kernel) rfl) rfl rfl ⟨Nat.le_of_ble_eq_true rfl, Nat.le_of_ble_eq_true rfl⟩ hk_Pn (hk_Dn (A := A)) rfl hl.1 rfl (Nat.le_of_ble_eq_true rfl) d_B_window_14 ⟨Nat.zero_le _, Nat.zero_le _⟩) hP hS hA (fun H locs hP hS => ?_)
    refine lv_if_ne (tgt := 23) hx hb d_B_window_17 (by decide) (fun c_2 => ?_) (fun c_2 => ?_)
    · skip
      rcases hk_b4 c_1 with rfl | rfl | rfl | rfl
      · skip
        refine lv_aload_n hx hb d_B_window_23 rfl (lv_at hl 0 rfl) ?_
        refine hk_get (v := .ref (ad 8)) C hP 0 4 5 i_B rfl rfl (by decide) (hk_in (by decide +kernel) rfl) rfl d_B_window_24 ?_
        refine lv_iload_n hx hb d_B_window_27 rfl (lv_at hl 1 rfl) ?_
        refine hk_ald C hP 8 3 (v := (ad 9)) rfl rfl (hk_inl (by decide)) rfl d_B_window_28 ?_
        refine lv_iload_n hx hb d_B_window_29 rfl (lv_at hl 2 rfl) ?_
        refine hk_putN (host := "BodyRows2") (w2 := wB G ad (f_B_window_30 (0 : Int32) p2 u)) (v := .int p2) (ty := .int) C hP hD hS 9 2 1 i_Window t_Window_ok n_Window rfl rfl (by decide) (by decide +kernel) rfl (by decide +kernel) rfl rfl (Nat.le_of_ble_eq_true rfl) rfl d_B_window_30 (fun H locs hP hD hS => ?_)
        have hI1 : Iv (f_B_window_30 (0 : Int32) p2 u) := (Iv_of (k2_f_B_window_30 _ _ _) (k6_f_B_window_30 _ _ _) hI)
        obtain ⟨U1, hU1⟩ : ∃ z, (f_B_window_30 (0 : Int32) p2 u) = z := ⟨_, rfl⟩
        rw [hU1] at hP hD hI1
        refine lv_aload_n hx hb d_B_window_33 rfl (lv_at hl 0 rfl) ?_
        refine hk_get (v := .ref (ad 8)) C hP 0 4 5 i_B rfl rfl (by decide) (hk_in (by decide +kernel) rfl) rfl d_B_window_34 ?_
        refine lv_iload_n hx hb d_B_window_37 rfl (lv_at hl 1 rfl) ?_
        refine hk_ald C hP 8 3 (v := (ad 9)) rfl rfl (hk_inl (by decide)) rfl d_B_window_38 ?_
        refine hk_goI1 9 (w2 := wB G ad U1) (hk_kN (host := "BodyRows2") (k := 0) (As := []) (rest := []) C (c_Window_ticksToWish l G (ad 9) (b5 U1 0) _) Y_Window_ticksToWish (by decide +kernel) rfl rfl ⟨Nat.le_of_ble_eq_true rfl, Nat.le_of_ble_eq_true rfl⟩ (va_recv hE.1 hP (ci := 2) (q0 := 9) rfl rfl) (hP.sub (ws' := (wN (ad 9) (b5 U1 0))) [9] rfl) (hD.sub (ws' := (wN (ad 9) (b5 U1 0))) [9] (by decide) rfl) rfl hl.1 rfl (Nat.le_of_ble_eq_true rfl) d_B_window_39 ⟨Nat.zero_le _, Nat.zero_le _⟩) hP hD hS hA rfl rfl (fun H locs hP hD hS => ?_)
        subst hU1
        have e : m_B_window (0 : Int32) p2 u = (m_Window_ticksToWish (b5 (f_B_window_30 (0 : Int32) p2 u) 0), (f_B_window_30 (0 : Int32) p2 u)) := (if_neg c_1).trans ((if_neg c_2).trans (rfl))
        exact hk_ri C hAe hP hD hS (by rw [e]) (by rw [e]) d_B_window_42
      · skip
        refine lv_aload_n hx hb d_B_window_23 rfl (lv_at hl 0 rfl) ?_
        refine hk_get (v := .ref (ad 8)) C hP 0 4 5 i_B rfl rfl (by decide) (hk_in (by decide +kernel) rfl) rfl d_B_window_24 ?_
        refine lv_iload_n hx hb d_B_window_27 rfl (lv_at hl 1 rfl) ?_
        refine hk_ald C hP 8 3 (v := (ad 10)) rfl rfl (hk_inl (by decide)) rfl d_B_window_28 ?_
        refine lv_iload_n hx hb d_B_window_29 rfl (lv_at hl 2 rfl) ?_
        refine hk_putN (host := "BodyRows2") (w2 := wB G ad (f_B_window_30 (1 : Int32) p2 u)) (v := .int p2) (ty := .int) C hP hD hS 10 2 1 i_Window t_Window_ok n_Window rfl rfl (by decide) (by decide +kernel) rfl (by decide +kernel) rfl rfl (Nat.le_of_ble_eq_true rfl) rfl d_B_window_30 (fun H locs hP hD hS => ?_)
        have hI2 : Iv (f_B_window_30 (1 : Int32) p2 u) := (Iv_of (k2_f_B_window_30 _ _ _) (k6_f_B_window_30 _ _ _) hI)
        obtain ⟨U2, hU2⟩ : ∃ z, (f_B_window_30 (1 : Int32) p2 u) = z := ⟨_, rfl⟩
        rw [hU2] at hP hD hI2
        refine lv_aload_n hx hb d_B_window_33 rfl (lv_at hl 0 rfl) ?_
        refine hk_get (v := .ref (ad 8)) C hP 0 4 5 i_B rfl rfl (by decide) (hk_in (by decide +kernel) rfl) rfl d_B_window_34 ?_
        refine lv_iload_n hx hb d_B_window_37 rfl (lv_at hl 1 rfl) ?_
        refine hk_ald C hP 8 3 (v := (ad 10)) rfl rfl (hk_inl (by decide)) rfl d_B_window_38 ?_
        refine hk_goI1 10 (w2 := wB G ad U2) (hk_kN (host := "BodyRows2") (k := 0) (As := []) (rest := []) C (c_Window_ticksToWish l G (ad 10) (b5 U2 1) _) Y_Window_ticksToWish (by decide +kernel) rfl rfl ⟨Nat.le_of_ble_eq_true rfl, Nat.le_of_ble_eq_true rfl⟩ (va_recv hE.1 hP (ci := 2) (q0 := 10) rfl rfl) (hP.sub (ws' := (wN (ad 10) (b5 U2 1))) [10] rfl) (hD.sub (ws' := (wN (ad 10) (b5 U2 1))) [10] (by decide) rfl) rfl hl.1 rfl (Nat.le_of_ble_eq_true rfl) d_B_window_39 ⟨Nat.zero_le _, Nat.zero_le _⟩) hP hD hS hA rfl rfl (fun H locs hP hD hS => ?_)
        subst hU2
        have e : m_B_window (1 : Int32) p2 u = (m_Window_ticksToWish (b5 (f_B_window_30 (1 : Int32) p2 u) 1), (f_B_window_30 (1 : Int32) p2 u)) := (if_neg c_1).trans ((if_neg c_2).trans (rfl))
        exact hk_ri C hAe hP hD hS (by rw [e]) (by rw [e]) d_B_window_42
      · skip
        refine lv_aload_n hx hb d_B_window_23 rfl (lv_at hl 0 rfl) ?_
        refine hk_get (v := .ref (ad 8)) C hP 0 4 5 i_B rfl rfl (by decide) (hk_in (by decide +kernel) rfl) rfl d_B_window_24 ?_
        refine lv_iload_n hx hb d_B_window_27 rfl (lv_at hl 1 rfl) ?_
        refine hk_ald C hP 8 3 (v := (ad 11)) rfl rfl (hk_inl (by decide)) rfl d_B_window_28 ?_
        refine lv_iload_n hx hb d_B_window_29 rfl (lv_at hl 2 rfl) ?_
        refine hk_putN (host := "BodyRows2") (w2 := wB G ad (f_B_window_30 (2 : Int32) p2 u)) (v := .int p2) (ty := .int) C hP hD hS 11 2 1 i_Window t_Window_ok n_Window rfl rfl (by decide) (by decide +kernel) rfl (by decide +kernel) rfl rfl (Nat.le_of_ble_eq_true rfl) rfl d_B_window_30 (fun H locs hP hD hS => ?_)
        have hI3 : Iv (f_B_window_30 (2 : Int32) p2 u) := (Iv_of (k2_f_B_window_30 _ _ _) (k6_f_B_window_30 _ _ _) hI)
        obtain ⟨U3, hU3⟩ : ∃ z, (f_B_window_30 (2 : Int32) p2 u) = z := ⟨_, rfl⟩
        rw [hU3] at hP hD hI3
        refine lv_aload_n hx hb d_B_window_33 rfl (lv_at hl 0 rfl) ?_
        refine hk_get (v := .ref (ad 8)) C hP 0 4 5 i_B rfl rfl (by decide) (hk_in (by decide +kernel) rfl) rfl d_B_window_34 ?_
        refine lv_iload_n hx hb d_B_window_37 rfl (lv_at hl 1 rfl) ?_
        refine hk_ald C hP 8 3 (v := (ad 11)) rfl rfl (hk_inl (by decide)) rfl d_B_window_38 ?_
        refine hk_goI1 11 (w2 := wB G ad U3) (hk_kN (host := "BodyRows2") (k := 0) (As := []) (rest := []) C (c_Window_ticksToWish l G (ad 11) (b5 U3 2) _) Y_Window_ticksToWish (by decide +kernel) rfl rfl ⟨Nat.le_of_ble_eq_true rfl, Nat.le_of_ble_eq_true rfl⟩ (va_recv hE.1 hP (ci := 2) (q0 := 11) rfl rfl) (hP.sub (ws' := (wN (ad 11) (b5 U3 2))) [11] rfl) (hD.sub (ws' := (wN (ad 11) (b5 U3 2))) [11] (by decide) rfl) rfl hl.1 rfl (Nat.le_of_ble_eq_true rfl) d_B_window_39 ⟨Nat.zero_le _, Nat.zero_le _⟩) hP hD hS hA rfl rfl (fun H locs hP hD hS => ?_)
        subst hU3
        have e : m_B_window (2 : Int32) p2 u = (m_Window_ticksToWish (b5 (f_B_window_30 (2 : Int32) p2 u) 2), (f_B_window_30 (2 : Int32) p2 u)) := (if_neg c_1).trans ((if_neg c_2).trans (rfl))
        exact hk_ri C hAe hP hD hS (by rw [e]) (by rw [e]) d_B_window_42
      · skip
        refine lv_aload_n hx hb d_B_window_23 rfl (lv_at hl 0 rfl) ?_
        refine hk_get (v := .ref (ad 8)) C hP 0 4 5 i_B rfl rfl (by decide) (hk_in (by decide +kernel) rfl) rfl d_B_window_24 ?_
        refine lv_iload_n hx hb d_B_window_27 rfl (lv_at hl 1 rfl) ?_
        refine hk_ald C hP 8 3 (v := (ad 12)) rfl rfl (hk_inl (by decide)) rfl d_B_window_28 ?_
        refine lv_iload_n hx hb d_B_window_29 rfl (lv_at hl 2 rfl) ?_
        refine hk_putN (host := "BodyRows2") (w2 := wB G ad (f_B_window_30 (3 : Int32) p2 u)) (v := .int p2) (ty := .int) C hP hD hS 12 2 1 i_Window t_Window_ok n_Window rfl rfl (by decide) (by decide +kernel) rfl (by decide +kernel) rfl rfl (Nat.le_of_ble_eq_true rfl) rfl d_B_window_30 (fun H locs hP hD hS => ?_)
        have hI4 : Iv (f_B_window_30 (3 : Int32) p2 u) := (Iv_of (k2_f_B_window_30 _ _ _) (k6_f_B_window_30 _ _ _) hI)
        obtain ⟨U4, hU4⟩ : ∃ z, (f_B_window_30 (3 : Int32) p2 u) = z := ⟨_, rfl⟩
        rw [hU4] at hP hD hI4
        refine lv_aload_n hx hb d_B_window_33 rfl (lv_at hl 0 rfl) ?_
        refine hk_get (v := .ref (ad 8)) C hP 0 4 5 i_B rfl rfl (by decide) (hk_in (by decide +kernel) rfl) rfl d_B_window_34 ?_
        refine lv_iload_n hx hb d_B_window_37 rfl (lv_at hl 1 rfl) ?_
        refine hk_ald C hP 8 3 (v := (ad 12)) rfl rfl (hk_inl (by decide)) rfl d_B_window_38 ?_
        refine hk_goI1 12 (w2 := wB G ad U4) (hk_kN (host := "BodyRows2") (k := 0) (As := []) (rest := []) C (c_Window_ticksToWish l G (ad 12) (b5 U4 3) _) Y_Window_ticksToWish (by decide +kernel) rfl rfl ⟨Nat.le_of_ble_eq_true rfl, Nat.le_of_ble_eq_true rfl⟩ (va_recv hE.1 hP (ci := 2) (q0 := 12) rfl rfl) (hP.sub (ws' := (wN (ad 12) (b5 U4 3))) [12] rfl) (hD.sub (ws' := (wN (ad 12) (b5 U4 3))) [12] (by decide) rfl) rfl hl.1 rfl (Nat.le_of_ble_eq_true rfl) d_B_window_39 ⟨Nat.zero_le _, Nat.zero_le _⟩) hP hD hS hA rfl rfl (fun H locs hP hD hS => ?_)
        subst hU4
        have e : m_B_window (3 : Int32) p2 u = (m_Window_ticksToWish (b5 (f_B_window_30 (3 : Int32) p2 u) 3), (f_B_window_30 (3 : Int32) p2 u)) := (if_neg c_1).trans ((if_neg c_2).trans (rfl))
        exact hk_ri C hAe hP hD hS (by rw [e]) (by rw [e]) d_B_window_42
    · skip
      refine lv_bipush (v := (-2 : Int32)) hx hb d_B_window_20 (by decide) ?_
      have e : m_B_window p1 p2 u = ((-2 : Int32), u) := (if_neg c_1).trans ((if_pos c_2).trans (rfl))
      exact hk_ri C hAe hP hD hS (by rw [e]) (by rw [e]) d_B_window_22
  · skip
    refine lv_iconst (v := (-1 : Int32)) hx hb d_B_window_8 (by decide) ?_
    have e : m_B_window p1 p2 u = ((-1 : Int32), u) := (if_pos c_1).trans (rfl)
    exact hk_ri C hAe hP hD hS (by rw [e]) (by rw [e]) d_B_window_9
