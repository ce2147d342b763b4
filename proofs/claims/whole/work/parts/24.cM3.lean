set_option maxRecDepth 100000 in
theorem Y_M_input : hk_Y y_M_input b_M_input 4 (some .int) 2 := ⟨hk_in (by decide +kernel) rfl, hk_in (by decide +kernel) rfl, hk_in (by decide +kernel) rfl, hk_in (List.mem_of_getElem? (i := 614) rfl) rfl, by decide, by decide, by decide +kernel⟩
abbrev rm_M_input : Room := { frames := 4, cells := 0, slots := 0, locals := 87 }
set_option maxHeartbeats 4000000 in
set_option maxRecDepth 100000 in
theorem tl_M_input_126 {p : Program} {l : Launch} {e : Env} {s : State} {m : MethodId} {below : List Frame} {meth : Method} {c : Code} {A : Nat → Prop} {H : Heap} {locs : List Loc} {ls : Array Slot} {w0 w1 : va_W} {r : Int32} (G : hk_G) (am : Nat → Nat) (u : cM) (p1 : Int32) (p2 : Int32) (C : hk_C p s m meth c R_M b_M_input 4 (some .int) ([.ref (am 0), .int p1, .int p2] : List Value).toArray G) (hAe : va_A w0 s.heap.size = A) (hA : ∀ q : Nat, s.heap.size ≤ q → A q) (hP : va_P (hk_D G) classes (wM G am u) H) (hD : va_D A (wM G am u)) (hS : va_S A s.heap H locs) (hl : lv_has ls 4 [(0, .ref (am 0)), (1, .int p1), (2, .int p2)]) (hr : r = (g_M_input_126 p1 p2 u).1) (hw : w1 = wM G am ((g_M_input_126 p1 p2 u).2)) : W p l e rm_M_input s m ([.ref (am 0), .int p1, .int p2] : List Value).toArray below meth c H locs 0 0 (MQ below (va_Qi (fun (x : Int32) (_ : Unit) => x = r) (hk_B G w0 w1 s.heap.size) A) ([.ref (am 0), .int p1, .int p2] : List Value).toArray s 0 0 A) (F0 m 126 ls []) := by
  subst hr
  subst hw
  have hx := C.1
  have hb := C.2.1
  have hown := C.2.2.2.2.1
  have hts := C.2.2.2.2.2.1
  have hE := C.2.2.2.2.2.2.2
  refine lv_aload_n hx hb d_M_input_126 rfl (lv_at hl 0 rfl) ?_
  refine hk_goV (hk_kV (k := 0) (As := []) (rest := []) C (c_M_begin l G am u _) Y_M_begin (hk_in (by decide +kernel) rfl) rfl rfl ⟨Nat.le_of_ble_eq_true rfl, Nat.le_of_ble_eq_true rfl⟩ (va_recv hE.1 hP (ci := 5) (q0 := 0) rfl rfl) hP hD rfl hl.1 rfl (Nat.le_of_ble_eq_true rfl) d_M_input_127 ⟨Nat.zero_le _, Nat.zero_le _⟩) hD hS hA (fun H locs hP hD hS => ?_)
  obtain ⟨U1, hU1⟩ : ∃ z, (m_M_begin u) = z := ⟨_, rfl⟩
  rw [hU1] at hP hD
  refine lv_aload_n hx hb d_M_input_130 rfl (lv_at hl 0 rfl) ?_
  refine hk_goI (hk_kV (k := 0) (As := []) (rest := []) C (c_M_others l G am U1 _) Y_M_others (hk_in (by decide +kernel) rfl) rfl rfl ⟨Nat.le_of_ble_eq_true rfl, Nat.le_of_ble_eq_true rfl⟩ (va_recv hE.1 hP (ci := 5) (q0 := 0) rfl rfl) hP hD rfl hl.1 rfl (Nat.le_of_ble_eq_true rfl) d_M_input_131 ⟨Nat.zero_le _, Nat.zero_le _⟩) hD hS hA (fun H locs hP hD hS => ?_)
  subst hU1
  have e : g_M_input_126 p1 p2 u = (m_M_others (m_M_begin u), (m_M_begin u)) := rfl
  exact hk_ri C hAe hP hD hS (by rw [e]) (by rw [e]) d_M_input_134
set_option maxHeartbeats 4000000 in
set_option maxRecDepth 100000 in
theorem tl_M_input_78 {p : Program} {l : Launch} {e : Env} {s : State} {m : MethodId} {below : List Frame} {meth : Method} {c : Code} {A : Nat → Prop} {H : Heap} {locs : List Loc} {ls : Array Slot} {w0 w1 : va_W} {r : Int32} (G : hk_G) (am : Nat → Nat) (u : cM) (p1 : Int32) (p2 : Int32) (C : hk_C p s m meth c R_M b_M_input 4 (some .int) ([.ref (am 0), .int p1, .int p2] : List Value).toArray G) (hAe : va_A w0 s.heap.size = A) (hA : ∀ q : Nat, s.heap.size ≤ q → A q) (hP : va_P (hk_D G) classes (wM G am u) H) (hD : va_D A (wM G am u)) (hS : va_S A s.heap H locs) (hl : lv_has ls 4 [(0, .ref (am 0)), (1, .int p1), (2, .int p2)]) (hr : r = (g_M_input_78 p1 p2 u).1) (hw : w1 = wM G am ((g_M_input_78 p1 p2 u).2)) : W p l e rm_M_input s m ([.ref (am 0), .int p1, .int p2] : List Value).toArray below meth c H locs 0 0 (MQ below (va_Qi (fun (x : Int32) (_ : Unit) => x = r) (hk_B G w0 w1 s.heap.size) A) ([.ref (am 0), .int p1, .int p2] : List Value).toArray s 0 0 A) (F0 m 78 ls []) := by
  subst hr
  subst hw
  have hx := C.1
  have hb := C.2.1
  have hown := C.2.2.2.2.1
  have hts := C.2.2.2.2.2.1
  have hE := C.2.2.2.2.2.2.2
  refine lv_iload_n hx hb d_M_input_78 rfl (lv_at hl 1 rfl) ?_
  refine lv_iconst (v := (2 : Int32)) hx hb d_M_input_79 (by decide) ?_
  refine lv_icmp_ne (tgt := 126) hx hb d_M_input_80 (by decide) (fun c_1 => ?_) (fun c_1 => ?_)
  · skip
    have e : g_M_input_78 p1 p2 u = (g_M_input_126 p1 p2 u) := (if_neg c_1).trans (rfl)
    exact tl_M_input_126 G am u p1 p2 C hAe hA hP hD hS (lv_sub hl [0, 1, 2] rfl) (by rw [e]) (by rw [e])
  · skip
    refine lv_iload_n hx hb d_M_input_83 rfl (lv_at hl 2 rfl) ?_
    refine lv_if_le (tgt := 126) hx hb d_M_input_84 (by decide) (fun c_2 => ?_) (fun c_2 => ?_)
    · skip
      have e : g_M_input_78 p1 p2 u = (g_M_input_126 p1 p2 u) := (if_pos c_1).trans ((if_pos c_2).trans (rfl))
      exact tl_M_input_126 G am u p1 p2 C hAe hA hP hD hS (lv_sub hl [0, 1, 2] rfl) (by rw [e]) (by rw [e])
    · skip
      refine lv_iload_n hx hb d_M_input_87 rfl (lv_at hl 2 rfl) ?_
      refine lv_iconst (v := (1 : Int32)) hx hb d_M_input_88 (by decide) ?_
      refine lv_icmp_ne (tgt := 96) hx hb d_M_input_89 (by decide) (fun c_3 => ?_) (fun c_3 => ?_)
      · skip
        refine lv_iconst (v := (0 : Int32)) hx hb d_M_input_96 (by decide) ?_
        refine lv_istore_n (lv' := [(3, .int (0 : Int32)), (0, .ref (am 0)), (1, .int p1), (2, .int p2)]) hx hb d_M_input_97 rfl hl (by decide) rfl (fun ls hl => ?_)
        refine lv_aload_n hx hb d_M_input_98 rfl (lv_at hl 1 rfl) ?_
        refine hk_get (v := .ref (am 2)) C hP 0 5 7 i_M rfl rfl (by decide) (hk_in (by decide +kernel) rfl) rfl d_M_input_99 ?_
        refine lv_iload_n hx hb d_M_input_102 rfl (lv_at hl 0 rfl) ?_
        refine lv_aload_n hx hb d_M_input_103 rfl (lv_at hl 1 rfl) ?_
        refine hk_get (v := .ref (am 2)) C hP 0 5 7 i_M rfl rfl (by decide) (hk_in (by decide +kernel) rfl) rfl d_M_input_104 ?_
        refine lv_iload_n hx hb d_M_input_107 rfl (lv_at hl 0 rfl) ?_
        refine hk_zld C hP 2 1 (v := (mg7 u) 0) rfl rfl (hk_inl (by decide)) rfl d_M_input_108 ?_
        refine lv_if_eq (tgt := 124) hx hb d_M_input_109 (by decide) (fun c_4 => ?_) (fun c_4 => ?_)
        · skip
          refine lv_iconst (v := (0 : Int32)) hx hb d_M_input_124 (by decide) ?_
          refine hk_zst (w2 := wM G am (f_M_input_125_2 u)) C hP hD hS 2 1 rfl rfl (hk_inl (by decide)) (Or.inl rfl) rfl d_M_input_125 (fun H locs hP hD hS => ?_)
          obtain ⟨U1, hU1⟩ : ∃ z, (f_M_input_125_2 u) = z := ⟨_, rfl⟩
          rw [hU1] at hP hD
          subst hU1
          have e : g_M_input_78 p1 p2 u = (g_M_input_126 p1 p2 (f_M_input_125_2 u)) := (if_pos c_1).trans ((if_neg c_2).trans ((if_neg c_3).trans ((if_pos c_4).trans (rfl))))
          exact tl_M_input_126 G am (f_M_input_125_2 u) p1 p2 C hAe hA hP hD hS (lv_sub hl [1, 2, 3] rfl) (by rw [e]) (by rw [e])
        · skip
          refine lv_aload_n hx hb d_M_input_112 rfl (lv_at hl 1 rfl) ?_
          refine lv_iload_n hx hb d_M_input_113 rfl (lv_at hl 0 rfl) ?_
          refine hk_goI (hk_kV (k := 1) (As := [.int (0 : Int32)]) (rest := [.int (0 : Int32), .ref (am 2)]) C (c_M_isWanted l G am u (0 : Int32) _) Y_M_isWanted (hk_in (by decide +kernel) rfl) rfl rfl ⟨Nat.le_of_ble_eq_true rfl, Nat.le_of_ble_eq_true rfl⟩ (va_recv hE.1 hP (ci := 5) (q0 := 0) rfl rfl) hP hD rfl hl.1 rfl (Nat.le_of_ble_eq_true rfl) d_M_input_114 ⟨Nat.zero_le _, Nat.zero_le _⟩) hD hS hA (fun H locs hP hD hS => ?_)
          refine lv_if_eq (tgt := 124) hx hb d_M_input_117 (by decide) (fun c_5 => ?_) (fun c_5 => ?_)
          · skip
            refine lv_iconst (v := (0 : Int32)) hx hb d_M_input_124 (by decide) ?_
            refine hk_zst (w2 := wM G am (f_M_input_125_2 u)) C hP hD hS 2 1 rfl rfl (hk_inl (by decide)) (Or.inl rfl) rfl d_M_input_125 (fun H locs hP hD hS => ?_)
            obtain ⟨U2, hU2⟩ : ∃ z, (f_M_input_125_2 u) = z := ⟨_, rfl⟩
            rw [hU2] at hP hD
            subst hU2
            have e : g_M_input_78 p1 p2 u = (g_M_input_126 p1 p2 (f_M_input_125_2 u)) := (if_pos c_1).trans ((if_neg c_2).trans ((if_neg c_3).trans ((if_neg c_4).trans ((if_pos c_5).trans (rfl)))))
            exact tl_M_input_126 G am (f_M_input_125_2 u) p1 p2 C hAe hA hP hD hS (lv_sub hl [1, 2, 3] rfl) (by rw [e]) (by rw [e])
          · skip
            refine lv_iconst (v := (1 : Int32)) hx hb d_M_input_120 (by decide) ?_
            refine lv_goto (tgt := 125) hx hb d_M_input_121 (by decide) ?_
            refine hk_zst (w2 := wM G am (f_M_input_125_3 u)) C hP hD hS 2 1 rfl rfl (hk_inl (by decide)) (Or.inr rfl) rfl d_M_input_125 (fun H locs hP hD hS => ?_)
            obtain ⟨U3, hU3⟩ : ∃ z, (f_M_input_125_3 u) = z := ⟨_, rfl⟩
            rw [hU3] at hP hD
            subst hU3
            have e : g_M_input_78 p1 p2 u = (g_M_input_126 p1 p2 (f_M_input_125_3 u)) := (if_pos c_1).trans ((if_neg c_2).trans ((if_neg c_3).trans ((if_neg c_4).trans ((if_neg c_5).trans (rfl)))))
            exact tl_M_input_126 G am (f_M_input_125_3 u) p1 p2 C hAe hA hP hD hS (lv_sub hl [1, 2, 3] rfl) (by rw [e]) (by rw [e])
      · skip
        refine lv_iconst (v := (1 : Int32)) hx hb d_M_input_92 (by decide) ?_
        refine lv_goto (tgt := 97) hx hb d_M_input_93 (by decide) ?_
        refine lv_istore_n (lv' := [(3, .int (1 : Int32)), (0, .ref (am 0)), (1, .int p1), (2, .int p2)]) hx hb d_M_input_97 rfl hl (by decide) rfl (fun ls hl => ?_)
        refine lv_aload_n hx hb d_M_input_98 rfl (lv_at hl 1 rfl) ?_
        refine hk_get (v := .ref (am 2)) C hP 0 5 7 i_M rfl rfl (by decide) (hk_in (by decide +kernel) rfl) rfl d_M_input_99 ?_
        refine lv_iload_n hx hb d_M_input_102 rfl (lv_at hl 0 rfl) ?_
        refine lv_aload_n hx hb d_M_input_103 rfl (lv_at hl 1 rfl) ?_
        refine hk_get (v := .ref (am 2)) C hP 0 5 7 i_M rfl rfl (by decide) (hk_in (by decide +kernel) rfl) rfl d_M_input_104 ?_
        refine lv_iload_n hx hb d_M_input_107 rfl (lv_at hl 0 rfl) ?_
        refine hk_zld C hP 2 1 (v := (mg7 u) 1) rfl rfl (hk_inl (by decide)) rfl d_M_input_108 ?_
        refine lv_if_eq (tgt := 124) hx hb d_M_input_109 (by decide) (fun c_6 => ?_) (fun c_6 => ?_)
        · skip
          refine lv_iconst (v := (0 : Int32)) hx hb d_M_input_124 (by decide) ?_
          refine hk_zst (w2 := wM G am (f_M_input_125 u)) C hP hD hS 2 1 rfl rfl (hk_inl (by decide)) (Or.inl rfl) rfl d_M_input_125 (fun H locs hP hD hS => ?_)
          obtain ⟨U4, hU4⟩ : ∃ z, (f_M_input_125 u) = z := ⟨_, rfl⟩
          rw [hU4] at hP hD
          subst hU4
          have e : g_M_input_78 p1 p2 u = (g_M_input_126 p1 p2 (f_M_input_125 u)) := (if_pos c_1).trans ((if_neg c_2).trans ((if_pos c_3).trans ((if_pos c_6).trans (rfl))))
          exact tl_M_input_126 G am (f_M_input_125 u) p1 p2 C hAe hA hP hD hS (lv_sub hl [1, 2, 3] rfl) (by rw [e]) (by rw [e])
        · skip
          refine lv_aload_n hx hb d_M_input_112 rfl (lv_at hl 1 rfl) ?_
          refine lv_iload_n hx hb d_M_input_113 rfl (lv_at hl 0 rfl) ?_
          refine hk_goI (hk_kV (k := 1) (As := [.int (1 : Int32)]) (rest := [.int (1 : Int32), .ref (am 2)]) C (c_M_isWanted l G am u (1 : Int32) _) Y_M_isWanted (hk_in (by decide +kernel) rfl) rfl rfl ⟨Nat.le_of_ble_eq_true rfl, Nat.le_of_ble_eq_true rfl⟩ (va_recv hE.1 hP (ci := 5) (q0 := 0) rfl rfl) hP hD rfl hl.1 rfl (Nat.le_of_ble_eq_true rfl) d_M_input_114 ⟨Nat.zero_le _, Nat.zero_le _⟩) hD hS hA (fun H locs hP hD hS => ?_)
          refine lv_if_eq (tgt := 124) hx hb d_M_input_117 (by decide) (fun c_7 => ?_) (fun c_7 => ?_)
          · skip
            refine lv_iconst (v := (0 : Int32)) hx hb d_M_input_124 (by decide) ?_
            refine hk_zst (w2 := wM G am (f_M_input_125 u)) C hP hD hS 2 1 rfl rfl (hk_inl (by decide)) (Or.inl rfl) rfl d_M_input_125 (fun H locs hP hD hS => ?_)
            obtain ⟨U5, hU5⟩ : ∃ z, (f_M_input_125 u) = z := ⟨_, rfl⟩
            rw [hU5] at hP hD
            subst hU5
            have e : g_M_input_78 p1 p2 u = (g_M_input_126 p1 p2 (f_M_input_125 u)) := (if_pos c_1).trans ((if_neg c_2).trans ((if_pos c_3).trans ((if_neg c_6).trans ((if_pos c_7).trans (rfl)))))
            exact tl_M_input_126 G am (f_M_input_125 u) p1 p2 C hAe hA hP hD hS (lv_sub hl [1, 2, 3] rfl) (by rw [e]) (by rw [e])
          · skip
            refine lv_iconst (v := (1 : Int32)) hx hb d_M_input_120 (by decide) ?_
            refine lv_goto (tgt := 125) hx hb d_M_input_121 (by decide) ?_
            refine hk_zst (w2 := wM G am (f_M_input_125_1 u)) C hP hD hS 2 1 rfl rfl (hk_inl (by decide)) (Or.inr rfl) rfl d_M_input_125 (fun H locs hP hD hS => ?_)
            obtain ⟨U6, hU6⟩ : ∃ z, (f_M_input_125_1 u) = z := ⟨_, rfl⟩
            rw [hU6] at hP hD
            subst hU6
            have e : g_M_input_78 p1 p2 u = (g_M_input_126 p1 p2 (f_M_input_125_1 u)) := (if_pos c_1).trans ((if_neg c_2).trans ((if_pos c_3).trans ((if_neg c_6).trans ((if_neg c_7).trans (rfl)))))
            exact tl_M_input_126 G am (f_M_input_125_1 u) p1 p2 C hAe hA hP hD hS (lv_sub hl [1, 2, 3] rfl) (by rw [e]) (by rw [e])
set_option maxHeartbeats 4000000 in
set_option maxRecDepth 100000 in
theorem c_M_input (l : Launch) (G : hk_G) (am : Nat → Nat) (u : cM) (p1 : Int32) (p2 : Int32) : hk_I l G y_M_input b_M_input 4 (some .int) rm_M_input [.ref (am 0), .int p1, .int p2] (wM G am u) ((m_M_input p1 p2 u).1) (wM G am ((m_M_input p1 p2 u).2)) := by
  refine hk_I_of (by decide) (Nat.le_of_ble_eq_true rfl) ?_
  intro p e s m below meth c A ls C hAe hA hP hD hS hl
  have hx := C.1
  have hb := C.2.1
  have hown := C.2.2.2.2.1
  have hts := C.2.2.2.2.2.1
  have hE := C.2.2.2.2.2.2.2
  have hl : lv_has ls 4 [(0, .ref (am 0)), (1, .int p1), (2, .int p2)] := hl
  refine lv_aload_n hx hb d_M_input_0 rfl (lv_at hl 0 rfl) ?_
  refine lv_iconst (v := (0 : Int32)) hx hb d_M_input_1 (by decide) ?_
  refine hk_put (w2 := wM G am (f_M_input_2 u)) (v := .int (0 : Int32)) (ty := .int) C hP hD hS 0 5 0 i_M t_M_ok n_M rfl rfl (by decide) (hk_in (by decide +kernel) rfl) rfl (by decide +kernel) rfl rfl (Nat.le_of_ble_eq_true rfl) rfl d_M_input_2 (fun H locs hP hD hS => ?_)
  obtain ⟨U1, hU1⟩ : ∃ z, (f_M_input_2 u) = z := ⟨_, rfl⟩
  rw [hU1] at hP hD
  refine lv_iload_n hx hb d_M_input_5 rfl (lv_at hl 1 rfl) ?_
  refine lv_iconst (v := (0 : Int32)) hx hb d_M_input_6 (by decide) ?_
  refine lv_bipush (v := (8 : Int32)) hx hb d_M_input_7 (by decide) ?_
  refine hk_goIe (hk_kS (k := 3) (As := [.int p1, .int (0 : Int32), .int (8 : Int32)]) (rest := []) C (c_M_within l G p1 (0 : Int32) (8 : Int32) _) Y_M_within (hk_in (by decide +kernel) rfl) rfl rfl ⟨Nat.le_of_ble_eq_true rfl, Nat.le_of_ble_eq_true rfl⟩ hk_Pn (hk_Dn (A := A)) rfl hl.1 rfl (Nat.le_of_ble_eq_true rfl) d_M_input_9 ⟨Nat.zero_le _, Nat.zero_le _⟩) hP hS hA (fun H locs hP hS => ?_)
  refine lv_if_ne (tgt := 17) hx hb d_M_input_12 (by decide) (fun c_1 => ?_) (fun c_1 => ?_)
  · skip
    refine lv_iload_n hx hb d_M_input_17 rfl (lv_at hl 2 rfl) ?_
    refine lv_iconst (v := (0 : Int32)) hx hb d_M_input_18 (by decide) ?_
    refine lv_iload_n hx hb d_M_input_19 rfl (lv_at hl 1 rfl) ?_
    refine hk_goIe (hk_kS (k := 1) (As := [.int p1]) (rest := [.int (0 : Int32), .int p2]) C (c_M_most l G p1 _) Y_M_most (hk_in (by decide +kernel) rfl) rfl rfl ⟨Nat.le_of_ble_eq_true rfl, Nat.le_of_ble_eq_true rfl⟩ hk_Pn (hk_Dn (A := A)) rfl hl.1 rfl (Nat.le_of_ble_eq_true rfl) d_M_input_20 ⟨Nat.zero_le _, Nat.zero_le _⟩) hP hS hA (fun H locs hP hS => ?_)
    refine hk_goIe (hk_kS (k := 3) (As := [.int p2, .int (0 : Int32), .int (m_M_most p1)]) (rest := []) C (c_M_within l G p2 (0 : Int32) (m_M_most p1) _) Y_M_within (hk_in (by decide +kernel) rfl) rfl rfl ⟨Nat.le_of_ble_eq_true rfl, Nat.le_of_ble_eq_true rfl⟩ hk_Pn (hk_Dn (A := A)) rfl hl.1 rfl (Nat.le_of_ble_eq_true rfl) d_M_input_23 ⟨Nat.zero_le _, Nat.zero_le _⟩) hP hS hA (fun H locs hP hS => ?_)
    refine lv_if_ne (tgt := 32) hx hb d_M_input_26 (by decide) (fun c_2 => ?_) (fun c_2 => ?_)
    · skip
      refine lv_aload_n hx hb d_M_input_32 rfl (lv_at hl 0 rfl) ?_
      refine hk_goV (hk_kV (k := 0) (As := []) (rest := []) C (c_M_layBy l G am U1 _) Y_M_layBy (hk_in (by decide +kernel) rfl) rfl rfl ⟨Nat.le_of_ble_eq_true rfl, Nat.le_of_ble_eq_true rfl⟩ (va_recv hE.1 hP (ci := 5) (q0 := 0) rfl rfl) hP hD rfl hl.1 rfl (Nat.le_of_ble_eq_true rfl) d_M_input_33 ⟨Nat.zero_le _, Nat.zero_le _⟩) hD hS hA (fun H locs hP hD hS => ?_)
      obtain ⟨U2, hU2⟩ : ∃ z, (m_M_layBy U1) = z := ⟨_, rfl⟩
      rw [hU2] at hP hD
      refine lv_aload_n hx hb d_M_input_36 rfl (lv_at hl 0 rfl) ?_
      refine hk_get (v := .ref (am 1)) C hP 0 5 1 i_M rfl rfl (by decide) (hk_in (by decide +kernel) rfl) rfl d_M_input_37 ?_
      refine lv_iload_n hx hb d_M_input_40 rfl (lv_at hl 1 rfl) ?_
      refine lv_iload_n hx hb d_M_input_41 rfl (lv_at hl 2 rfl) ?_
      refine hk_ist (w2 := wM G am (f_M_input_42 p1 p2 U2)) C hP hD hS 1 0 rfl rfl (by subst hU1 hU2; exact hk_wi c_1 (N := 8) rfl (by decide)) rfl d_M_input_42 (fun H locs hP hD hS => ?_)
      obtain ⟨U3, hU3⟩ : ∃ z, (f_M_input_42 p1 p2 U2) = z := ⟨_, rfl⟩
      rw [hU3] at hP hD
      refine lv_iload_n hx hb d_M_input_43 rfl (lv_at hl 1 rfl) ?_
      refine lv_iconst (v := (1 : Int32)) hx hb d_M_input_44 (by decide) ?_
      refine lv_icmp_ne (tgt := 78) hx hb d_M_input_45 (by decide) (fun c_3 => ?_) (fun c_3 => ?_)
      · skip
        subst hU1 hU2 hU3
        have e : m_M_input p1 p2 u = (g_M_input_78 p1 p2 (f_M_input_42 p1 p2 (m_M_layBy (f_M_input_2 u)))) := (if_neg c_1).trans ((if_neg c_2).trans ((if_neg c_3).trans (rfl)))
        exact tl_M_input_78 G am (f_M_input_42 p1 p2 (m_M_layBy (f_M_input_2 u))) p1 p2 C hAe hA hP hD hS (lv_sub hl [0, 1, 2] rfl) (by rw [e]) (by rw [e])
      · skip
        refine lv_aload_n hx hb d_M_input_48 rfl (lv_at hl 0 rfl) ?_
        refine lv_iload_n hx hb d_M_input_49 rfl (lv_at hl 2 rfl) ?_
        refine lv_sipush (v := (200 : Int32)) hx hb d_M_input_50 (by decide) ?_
        refine lv_icmp_lt (tgt := 70) hx hb d_M_input_53 (by decide) (fun c_4 => ?_) (fun c_4 => ?_)
        · skip
          refine lv_iconst (v := (1 : Int32)) hx hb d_M_input_70 (by decide) ?_
          refine lv_goto (tgt := 75) hx hb d_M_input_71 (by decide) ?_
          refine hk_put (w2 := wM G am (f_M_input_75 U3)) (v := .int (1 : Int32)) (ty := .boolean) C hP hD hS 0 5 2 i_M t_M_ok n_M rfl rfl (by decide) (hk_in (by decide +kernel) rfl) rfl (by decide +kernel) (hk_nb (Or.inr rfl)) (hk_fb (Or.inr rfl)) (Nat.le_of_ble_eq_true rfl) rfl d_M_input_75 (fun H locs hP hD hS => ?_)
          obtain ⟨U4, hU4⟩ : ∃ z, (f_M_input_75 U3) = z := ⟨_, rfl⟩
          rw [hU4] at hP hD
          subst hU1 hU2 hU3 hU4
          have e : m_M_input p1 p2 u = (g_M_input_78 p1 p2 (f_M_input_75 (f_M_input_42 p1 p2 (m_M_layBy (f_M_input_2 u))))) := (if_neg c_1).trans ((if_neg c_2).trans ((if_pos c_3).trans ((if_pos c_4).trans (rfl))))
          exact tl_M_input_78 G am (f_M_input_75 (f_M_input_42 p1 p2 (m_M_layBy (f_M_input_2 u)))) p1 p2 C hAe hA hP hD hS (lv_sub hl [0, 1, 2] rfl) (by rw [e]) (by rw [e])
        · skip
          refine lv_aload_n hx hb d_M_input_56 rfl (lv_at hl 0 rfl) ?_
          refine hk_get (v := .int (mg2 U3)) C hP 0 5 2 i_M rfl rfl (by decide) (hk_in (by decide +kernel) rfl) rfl d_M_input_57 ?_
          refine lv_if_eq (tgt := 74) hx hb d_M_input_60 (by decide) (fun c_5 => ?_) (fun c_5 => ?_)
          · skip
            refine lv_iconst (v := (0 : Int32)) hx hb d_M_input_74 (by decide) ?_
            refine hk_put (w2 := wM G am (f_M_input_75_1 U3)) (v := .int (0 : Int32)) (ty := .boolean) C hP hD hS 0 5 2 i_M t_M_ok n_M rfl rfl (by decide) (hk_in (by decide +kernel) rfl) rfl (by decide +kernel) (hk_nb (Or.inl rfl)) (hk_fb (Or.inl rfl)) (Nat.le_of_ble_eq_true rfl) rfl d_M_input_75 (fun H locs hP hD hS => ?_)
            obtain ⟨U5, hU5⟩ : ∃ z, (f_M_input_75_1 U3) = z := ⟨_, rfl⟩
            rw [hU5] at hP hD
            subst hU1 hU2 hU3 hU5
            have e : m_M_input p1 p2 u = (g_M_input_78 p1 p2 (f_M_input_75_1 (f_M_input_42 p1 p2 (m_M_layBy (f_M_input_2 u))))) := (if_neg c_1).trans ((if_neg c_2).trans ((if_pos c_3).trans ((if_neg c_4).trans ((if_pos c_5).trans (rfl)))))
            exact tl_M_input_78 G am (f_M_input_75_1 (f_M_input_42 p1 p2 (m_M_layBy (f_M_input_2 u)))) p1 p2 C hAe hA hP hD hS (lv_sub hl [0, 1, 2] rfl) (by rw [e]) (by rw [e])
          · skip
            refine lv_iload_n hx hb d_M_input_63 rfl (lv_at hl 2 rfl) ?_
            refine lv_sipush (v := (400 : Int32)) hx hb d_M_input_64 (by decide) ?_
            refine lv_icmp_gt (tgt := 74) hx hb d_M_input_67 (by decide) (fun c_6 => ?_) (fun c_6 => ?_)
            · skip
              refine lv_iconst (v := (0 : Int32)) hx hb d_M_input_74 (by decide) ?_
              refine hk_put (w2 := wM G am (f_M_input_75_1 U3)) (v := .int (0 : Int32)) (ty := .boolean) C hP hD hS 0 5 2 i_M t_M_ok n_M rfl rfl (by decide) (hk_in (by decide +kernel) rfl) rfl (by decide +kernel) (hk_nb (Or.inl rfl)) (hk_fb (Or.inl rfl)) (Nat.le_of_ble_eq_true rfl) rfl d_M_input_75 (fun H locs hP hD hS => ?_)
              obtain ⟨U6, hU6⟩ : ∃ z, (f_M_input_75_1 U3) = z := ⟨_, rfl⟩
              rw [hU6] at hP hD
              subst hU1 hU2 hU3 hU6
              have e : m_M_input p1 p2 u = (g_M_input_78 p1 p2 (f_M_input_75_1 (f_M_input_42 p1 p2 (m_M_layBy (f_M_input_2 u))))) := (if_neg c_1).trans ((if_neg c_2).trans ((if_pos c_3).trans ((if_neg c_4).trans ((if_neg c_5).trans ((if_pos c_6).trans (rfl))))))
              exact tl_M_input_78 G am (f_M_input_75_1 (f_M_input_42 p1 p2 (m_M_layBy (f_M_input_2 u)))) p1 p2 C hAe hA hP hD hS (lv_sub hl [0, 1, 2] rfl) (by rw [e]) (by rw [e])
            · skip
              refine lv_iconst (v := (1 : Int32)) hx hb d_M_input_70 (by decide) ?_
              refine lv_goto (tgt := 75) hx hb d_M_input_71 (by decide) ?_
              refine hk_put (w2 := wM G am (f_M_input_75 U3)) (v := .int (1 : Int32)) (ty := .boolean) C hP hD hS 0 5 2 i_M t_M_ok n_M rfl rfl (by decide) (hk_in (by decide +kernel) rfl) rfl (by decide +kernel) (hk_nb (Or.inr rfl)) (hk_fb (Or.inr rfl)) (Nat.le_of_ble_eq_true rfl) rfl d_M_input_75 (fun H locs hP hD hS => ?_)
              obtain ⟨U7, hU7⟩ : ∃ z, (f_M_input_75 U3) = z := ⟨_, rfl⟩
              rw [hU7] at hP hD
              subst hU1 hU2 hU3 hU7
              have e : m_M_input p1 p2 u = (g_M_input_78 p1 p2 (f_M_input_75 (f_M_input_42 p1 p2 (m_M_layBy (f_M_input_2 u))))) := (if_neg c_1).trans ((if_neg c_2).trans ((if_pos c_3).trans ((if_neg c_4).trans ((if_neg c_5).trans ((if_neg c_6).trans (rfl))))))
              exact tl_M_input_78 G am (f_M_input_75 (f_M_input_42 p1 p2 (m_M_layBy (f_M_input_2 u)))) p1 p2 C hAe hA hP hD hS (lv_sub hl [0, 1, 2] rfl) (by rw [e]) (by rw [e])
    · skip
      refine lv_bipush (v := (-2 : Int32)) hx hb d_M_input_29 (by decide) ?_
      subst hU1
      have e : m_M_input p1 p2 u = ((-2 : Int32), (f_M_input_2 u)) := (if_neg c_1).trans ((if_pos c_2).trans (rfl))
      exact hk_ri C hAe hP hD hS (by rw [e]) (by rw [e]) d_M_input_31
  · skip
    refine lv_iconst (v := (-1 : Int32)) hx hb d_M_input_15 (by decide) ?_
    subst hU1
    have e : m_M_input p1 p2 u = ((-1 : Int32), (f_M_input_2 u)) := (if_pos c_1).trans (rfl)
    exact hk_ri C hAe hP hD hS (by rw [e]) (by rw [e]) d_M_input_16
set_option maxRecDepth 100000 in
theorem Y_M_output : hk_Y y_M_output b_M_output 2 (some .int) 1 := ⟨hk_in (by decide +kernel) rfl, hk_in (by decide +kernel) rfl, hk_in (by decide +kernel) rfl, hk_in (List.mem_of_getElem? (i := 595) rfl) rfl, by decide, by decide, by decide +kernel⟩
abbrev rm_M_output : Room := { frames := 3, cells := 0, slots := 0, locals := 65 }
set_option maxHeartbeats 4000000 in
set_option maxRecDepth 100000 in
theorem c_M_output (l : Launch) (G : hk_G) (am : Nat → Nat) (u : cM) (p1 : Int32) : hk_I l G y_M_output b_M_output 2 (some .int) rm_M_output [.ref (am 0), .int p1] (wM G am u) ((m_M_output p1 u).1) (wM G am ((m_M_output p1 u).2)) := by
  refine hk_I_of (by decide) (Nat.le_of_ble_eq_true rfl) ?_
  intro p e s m below meth c A ls C hAe hA hP hD hS hl
  have hx := C.1
  have hb := C.2.1
  have hown := C.2.2.2.2.1
  have hts := C.2.2.2.2.2.1
  have hE := C.2.2.2.2.2.2.2
  have hl : lv_has ls 2 [(0, .ref (am 0)), (1, .int p1)] := hl
  refine lv_aload_n hx hb d_M_output_0 rfl (lv_at hl 0 rfl) ?_
  refine lv_iload_n hx hb d_M_output_1 rfl (lv_at hl 1 rfl) ?_
  refine lv_iconst (v := (0 : Int32)) hx hb d_M_output_2 (by decide) ?_
  refine lv_bipush (v := (9 : Int32)) hx hb d_M_output_3 (by decide) ?_
  refine hk_goIe (hk_kS (k := 3) (As := [.int p1, .int (0 : Int32), .int (9 : Int32)]) (rest := [.ref (am 0)]) C (c_M_within l G p1 (0 : Int32) (9 : Int32) _) Y_M_within (hk_in (by decide +kernel) rfl) rfl rfl ⟨Nat.le_of_ble_eq_true rfl, Nat.le_of_ble_eq_true rfl⟩ hk_Pn (hk_Dn (A := A)) rfl hl.1 rfl (Nat.le_of_ble_eq_true rfl) d_M_output_5 ⟨Nat.zero_le _, Nat.zero_le _⟩) hP hS hA (fun H locs hP hS => ?_)
  refine lv_if_eq (tgt := 15) hx hb d_M_output_8 (by decide) (fun c_1 => ?_) (fun c_1 => ?_)
  · skip
    refine lv_iconst (v := (1 : Int32)) hx hb d_M_output_15 (by decide) ?_
    refine hk_put (w2 := wM G am (f_M_output_16 u)) (v := .int (1 : Int32)) (ty := .int) C hP hD hS 0 5 0 i_M t_M_ok n_M rfl rfl (by decide) (hk_in (by decide +kernel) rfl) rfl (by decide +kernel) rfl rfl (Nat.le_of_ble_eq_true rfl) rfl d_M_output_16 (fun H locs hP hD hS => ?_)
    obtain ⟨U1, hU1⟩ : ∃ z, (f_M_output_16 u) = z := ⟨_, rfl⟩
    rw [hU1] at hP hD
    refine lv_aload_n hx hb d_M_output_19 rfl (lv_at hl 0 rfl) ?_
    refine hk_get (v := .int (mg0 U1)) C hP 0 5 0 i_M rfl rfl (by decide) (hk_in (by decide +kernel) rfl) rfl d_M_output_20 ?_
    refine lv_if_le (tgt := 30) hx hb d_M_output_23 (by decide) (fun c_2 => ?_) (fun c_2 => ?_)
    · skip
      refine lv_aload_n hx hb d_M_output_30 rfl (lv_at hl 0 rfl) ?_
      refine lv_iload_n hx hb d_M_output_31 rfl (lv_at hl 1 rfl) ?_
      refine hk_goI (hk_kV (k := 1) (As := [.int p1]) (rest := []) C (c_M_value l G am U1 p1 (absurd (show (1 : Int32) ≤ 0 from (by rw [← hU1] at c_2; exact c_2)) (by decide)) _) Y_M_value (hk_in (by decide +kernel) rfl) rfl rfl ⟨Nat.le_of_ble_eq_true rfl, Nat.le_of_ble_eq_true rfl⟩ (va_recv hE.1 hP (ci := 5) (q0 := 0) rfl rfl) hP hD rfl hl.1 rfl (Nat.le_of_ble_eq_true rfl) d_M_output_32 ⟨Nat.zero_le _, Nat.zero_le _⟩) hD hS hA (fun H locs hP hD hS => ?_)
      subst hU1
      have e : m_M_output p1 u = (m_M_value p1 (f_M_output_16 u), (f_M_output_16 u)) := (if_pos c_1).trans ((if_pos c_2).trans (rfl))
      exact hk_ri C hAe hP hD hS (by rw [e]) (by rw [e]) d_M_output_35
    · skip
      refine lv_iconst (v := (0 : Int32)) hx hb d_M_output_26 (by decide) ?_
      refine lv_goto (tgt := 35) hx hb d_M_output_27 (by decide) ?_
      subst hU1
      have e : m_M_output p1 u = ((0 : Int32), (f_M_output_16 u)) := (if_pos c_1).trans ((if_neg c_2).trans (rfl))
      exact hk_ri C hAe hP hD hS (by rw [e]) (by rw [e]) d_M_output_35
  · skip
    refine lv_iconst (v := (0 : Int32)) hx hb d_M_output_11 (by decide) ?_
    refine lv_goto (tgt := 16) hx hb d_M_output_12 (by decide) ?_
    refine hk_put (w2 := wM G am (f_M_output_16_1 u)) (v := .int (0 : Int32)) (ty := .int) C hP hD hS 0 5 0 i_M t_M_ok n_M rfl rfl (by decide) (hk_in (by decide +kernel) rfl) rfl (by decide +kernel) rfl rfl (Nat.le_of_ble_eq_true rfl) rfl d_M_output_16 (fun H locs hP hD hS => ?_)
    obtain ⟨U2, hU2⟩ : ∃ z, (f_M_output_16_1 u) = z := ⟨_, rfl⟩
    rw [hU2] at hP hD
    refine lv_aload_n hx hb d_M_output_19 rfl (lv_at hl 0 rfl) ?_
    refine hk_get (v := .int (mg0 U2)) C hP 0 5 0 i_M rfl rfl (by decide) (hk_in (by decide +kernel) rfl) rfl d_M_output_20 ?_
    refine lv_if_le (tgt := 30) hx hb d_M_output_23 (by decide) (fun c_3 => ?_) (fun c_3 => ?_)
    · skip
      refine lv_aload_n hx hb d_M_output_30 rfl (lv_at hl 0 rfl) ?_
      refine lv_iload_n hx hb d_M_output_31 rfl (lv_at hl 1 rfl) ?_
      refine hk_goI (hk_kV (k := 1) (As := [.int p1]) (rest := []) C (c_M_value l G am U2 p1 (hk_w10 c_1) _) Y_M_value (hk_in (by decide +kernel) rfl) rfl rfl ⟨Nat.le_of_ble_eq_true rfl, Nat.le_of_ble_eq_true rfl⟩ (va_recv hE.1 hP (ci := 5) (q0 := 0) rfl rfl) hP hD rfl hl.1 rfl (Nat.le_of_ble_eq_true rfl) d_M_output_32 ⟨Nat.zero_le _, Nat.zero_le _⟩) hD hS hA (fun H locs hP hD hS => ?_)
      subst hU2
      have e : m_M_output p1 u = (m_M_value p1 (f_M_output_16_1 u), (f_M_output_16_1 u)) := (if_neg c_1).trans ((if_pos c_3).trans (rfl))
      exact hk_ri C hAe hP hD hS (by rw [e]) (by rw [e]) d_M_output_35
    · skip
      refine lv_iconst (v := (0 : Int32)) hx hb d_M_output_26 (by decide) ?_
      refine lv_goto (tgt := 35) hx hb d_M_output_27 (by decide) ?_
      subst hU2
      have e : m_M_output p1 u = ((0 : Int32), (f_M_output_16_1 u)) := (if_neg c_1).trans ((if_neg c_3).trans (rfl))
      exact hk_ri C hAe hP hD hS (by rw [e]) (by rw [e]) d_M_output_35
set_option maxRecDepth 100000 in
theorem Y_M_step : hk_Y y_M_step b_M_step 3 (some .int) 1 := ⟨hk_in (by decide +kernel) rfl, hk_in (by decide +kernel) rfl, hk_in (by decide +kernel) rfl, hk_in (List.mem_of_getElem? (i := 637) rfl) rfl, by decide, by decide, by decide +kernel⟩
abbrev rm_M_step : Room := { frames := 4, cells := 0, slots := 0, locals := 87 }
set_option maxHeartbeats 4000000 in
set_option maxRecDepth 100000 in
theorem lp_M_step_25 {p : Program} {l : Launch} {e : Env} {s : State} {m : MethodId} {below : List Frame} {meth : Method} {c : Code} {A : Nat → Prop} {Q : State → Prop} (G : hk_G) (am : Nat → Nat) (u : cM) (p1 : Int32) (C : hk_C p s m meth c R_M b_M_step 3 (some .int) ([.ref (am 0), .int p1] : List Value).toArray G) (hA : ∀ q : Nat, s.heap.size ≤ q → A q) (n : Nat) (hn : n < 2 ^ 31) (hbn : p1 = nI n)
    (kx : ∀ (H : Heap) (locs : List Loc) (ls : Array Slot), va_P (hk_D G) classes (wM G am (li_M_step_25 p1 u n)) H → va_D A (wM G am (li_M_step_25 p1 u n)) → va_S A s.heap H locs → lv_has ls 3 [(0, .ref (am 0)), (1, .int p1), (2, .int (nI n))] → W p l e rm_M_step s m ([.ref (am 0), .int p1] : List Value).toArray below meth c H locs 0 0 Q (F0 m 40 ls [])) :
    ∀ (j k : Nat), k ≤ n → n + 1 ≤ k + j → ∀ (H : Heap) (locs : List Loc) (ls : Array Slot), va_P (hk_D G) classes (wM G am (li_M_step_25 p1 u k)) H → va_D A (wM G am (li_M_step_25 p1 u k)) → va_S A s.heap H locs → lv_has ls 3 [(0, .ref (am 0)), (1, .int p1), (2, .int (nI k))] → W p l e rm_M_step s m ([.ref (am 0), .int p1] : List Value).toArray below meth c H locs 0 0 Q (F0 m 25 ls []) := by
  have hx := C.1
  have hb := C.2.1
  have hown := C.2.2.2.2.1
  have hts := C.2.2.2.2.2.1
  have hE := C.2.2.2.2.2.2.2
  intro j
  induction j with
  | zero =>
    intro k h1 h2
    exact absurd h2 (by omega)
  | succ j ih =>
    intro k hkn hj H locs ls hP hD hS hl
    refine lv_iload_n hx hb d_M_step_25 rfl (lv_at hl 2 rfl) ?_
    refine lv_iload_n hx hb d_M_step_26 rfl (lv_at hl 1 rfl) ?_
    refine lv_icmp_ge (tgt := 40) hx hb d_M_step_27 (by decide) (fun c_0 => ?_) (fun c_0 => ?_)
    · obtain rfl := hk_exit (n := n) hbn hn hkn c_0
      exact kx H locs ls hP hD hS (lv_sub hl [0, 1, 2] rfl)
    · have hlt := hk_stay (n := n) hbn hn hkn c_0
      refine lv_aload_n hx hb d_M_step_30 rfl (lv_at hl 0 rfl) ?_
      refine hk_goV (hk_kV (k := 0) (As := []) (rest := []) C (c_M_tick l G am (li_M_step_25 p1 u k) _) Y_M_tick (hk_in (by decide +kernel) rfl) rfl rfl ⟨Nat.le_of_ble_eq_true rfl, Nat.le_of_ble_eq_true rfl⟩ (va_recv hE.1 hP (ci := 5) (q0 := 0) rfl rfl) hP hD rfl hl.1 rfl (Nat.le_of_ble_eq_true rfl) d_M_step_31 ⟨Nat.zero_le _, Nat.zero_le _⟩) hD hS hA (fun H locs hP hD hS => ?_)
      obtain ⟨U1, hU1⟩ : ∃ z, (m_M_tick (li_M_step_25 p1 u k)) = z := ⟨_, rfl⟩
      rw [hU1] at hP hD
      refine lv_iinc (v := nI (k + 1)) (lv' := [(2, .int (nI (k + 1))), (0, .ref (am 0)), (1, .int p1)]) hx hb d_M_step_34 hl (k := 2) rfl (nI_1 k) (by decide) rfl (fun ls hl => ?_)
      refine lv_goto (tgt := 25) hx hb d_M_step_37 (by decide) ?_
      subst hU1
      have e : li_M_step_25 p1 u (k + 1) = (m_M_tick (li_M_step_25 p1 u k)) := rfl
      exact ih (k + 1) hlt (by omega) _ _ _ (by rw [e]; exact hP) (by rw [e]; exact hD) hS (lv_sub hl [1, 2, 0] rfl)
set_option maxHeartbeats 4000000 in
set_option maxRecDepth 100000 in
theorem c_M_step (l : Launch) (G : hk_G) (am : Nat → Nat) (u : cM) (p1 : Int32) : hk_I l G y_M_step b_M_step 3 (some .int) rm_M_step [.ref (am 0), .int p1] (wM G am u) ((m_M_step p1 u).1) (wM G am ((m_M_step p1 u).2)) := by
  refine hk_I_of (by decide) (Nat.le_of_ble_eq_true rfl) ?_
  intro p e s m below meth c A ls C hAe hA hP hD hS hl
  have hx := C.1
  have hb := C.2.1
  have hown := C.2.2.2.2.1
  have hts := C.2.2.2.2.2.1
  have hE := C.2.2.2.2.2.2.2
  have hl : lv_has ls 3 [(0, .ref (am 0)), (1, .int p1)] := hl
  refine lv_aload_n hx hb d_M_step_0 rfl (lv_at hl 0 rfl) ?_
  refine lv_iconst (v := (0 : Int32)) hx hb d_M_step_1 (by decide) ?_
  refine hk_put (w2 := wM G am (f_M_step_2 u)) (v := .int (0 : Int32)) (ty := .int) C hP hD hS 0 5 0 i_M t_M_ok n_M rfl rfl (by decide) (hk_in (by decide +kernel) rfl) rfl (by decide +kernel) rfl rfl (Nat.le_of_ble_eq_true rfl) rfl d_M_step_2 (fun H locs hP hD hS => ?_)
  obtain ⟨U1, hU1⟩ : ∃ z, (f_M_step_2 u) = z := ⟨_, rfl⟩
  rw [hU1] at hP hD
  refine lv_iload_n hx hb d_M_step_5 rfl (lv_at hl 1 rfl) ?_
  refine lv_iconst (v := (0 : Int32)) hx hb d_M_step_6 (by decide) ?_
  refine lv_sipush (v := (1000 : Int32)) hx hb d_M_step_7 (by decide) ?_
  refine hk_goIe (hk_kS (k := 3) (As := [.int p1, .int (0 : Int32), .int (1000 : Int32)]) (rest := []) C (c_M_within l G p1 (0 : Int32) (1000 : Int32) _) Y_M_within (hk_in (by decide +kernel) rfl) rfl rfl ⟨Nat.le_of_ble_eq_true rfl, Nat.le_of_ble_eq_true rfl⟩ hk_Pn (hk_Dn (A := A)) rfl hl.1 rfl (Nat.le_of_ble_eq_true rfl) d_M_step_10 ⟨Nat.zero_le _, Nat.zero_le _⟩) hP hS hA (fun H locs hP hS => ?_)
  refine lv_if_ne (tgt := 19) hx hb d_M_step_13 (by decide) (fun c_1 => ?_) (fun c_1 => ?_)
  · skip
    refine lv_aload_n hx hb d_M_step_19 rfl (lv_at hl 0 rfl) ?_
    refine hk_goV (hk_kV (k := 0) (As := []) (rest := []) C (c_M_layBy l G am U1 _) Y_M_layBy (hk_in (by decide +kernel) rfl) rfl rfl ⟨Nat.le_of_ble_eq_true rfl, Nat.le_of_ble_eq_true rfl⟩ (va_recv hE.1 hP (ci := 5) (q0 := 0) rfl rfl) hP hD rfl hl.1 rfl (Nat.le_of_ble_eq_true rfl) d_M_step_20 ⟨Nat.zero_le _, Nat.zero_le _⟩) hD hS hA (fun H locs hP hD hS => ?_)
    obtain ⟨U2, hU2⟩ : ∃ z, (m_M_layBy U1) = z := ⟨_, rfl⟩
    rw [hU2] at hP hD
    refine lv_iconst (v := (0 : Int32)) hx hb d_M_step_23 (by decide) ?_
    refine lv_istore_n (lv' := [(2, .int (0 : Int32)), (0, .ref (am 0)), (1, .int p1)]) hx hb d_M_step_24 rfl hl (by decide) rfl (fun ls hl => ?_)
    refine lp_M_step_25 G am U2 p1 C hA p1.toNatClampNeg (hk_wu c_1 (N := 1000) rfl (by decide)).1 (hk_wu c_1 (N := 1000) rfl (by decide)).2 (fun H locs ls hP hD hS hl => ?_) (p1.toNatClampNeg + 1) 0 (Nat.zero_le _) (by omega) _ _ _ hP hD hS (lv_sub hl [1, 2, 0] rfl)
    refine lv_aload_n hx hb d_M_step_40 rfl (lv_at hl 0 rfl) ?_
    refine hk_goI (hk_kV (k := 0) (As := []) (rest := []) C (c_M_others l G am (li_M_step_25 p1 U2 p1.toNatClampNeg) _) Y_M_others (hk_in (by decide +kernel) rfl) rfl rfl ⟨Nat.le_of_ble_eq_true rfl, Nat.le_of_ble_eq_true rfl⟩ (va_recv hE.1 hP (ci := 5) (q0 := 0) rfl rfl) hP hD rfl hl.1 rfl (Nat.le_of_ble_eq_true rfl) d_M_step_41 ⟨Nat.zero_le _, Nat.zero_le _⟩) hD hS hA (fun H locs hP hD hS => ?_)
    subst hU1 hU2
    have e : m_M_step p1 u = (m_M_others (li_M_step_25 p1 (m_M_layBy (f_M_step_2 u)) p1.toNatClampNeg), (li_M_step_25 p1 (m_M_layBy (f_M_step_2 u)) p1.toNatClampNeg)) := (if_neg c_1).trans (rfl)
    exact hk_ri C hAe hP hD hS (by rw [e]) (by rw [e]) d_M_step_44
  · skip
    refine lv_bipush (v := (-2 : Int32)) hx hb d_M_step_16 (by decide) ?_
    subst hU1
    have e : m_M_step p1 u = ((-2 : Int32), (f_M_step_2 u)) := (if_pos c_1).trans (rfl)
    exact hk_ri C hAe hP hD hS (by rw [e]) (by rw [e]) d_M_step_18
set_option maxRecDepth 100000 in
theorem Y_M_pinch : hk_Y y_M_pinch b_M_pinch 3 (some .int) 2 := ⟨hk_in (by decide +kernel) rfl, hk_in (by decide +kernel) rfl, hk_in (by decide +kernel) rfl, hk_in (List.mem_of_getElem? (i := 661) rfl) rfl, by decide, by decide, by decide +kernel⟩
abbrev rm_M_pinch : Room := { frames := 2, cells := 0, slots := 0, locals := 42 }
set_option maxHeartbeats 4000000 in
set_option maxRecDepth 100000 in
theorem c_M_pinch (l : Launch) (G : hk_G) (am : Nat → Nat) (u : cM) (p1 : Int32) (p2 : Int32) : hk_I l G y_M_pinch b_M_pinch 3 (some .int) rm_M_pinch [.ref (am 0), .int p1, .int p2] (wM G am u) ((m_M_pinch p1 p2 u).1) (wM G am ((m_M_pinch p1 p2 u).2)) := by
  refine hk_I_of (by decide) (Nat.le_of_ble_eq_true rfl) ?_
  intro p e s m below meth c A ls C hAe hA hP hD hS hl
  have hx := C.1
  have hb := C.2.1
  have hown := C.2.2.2.2.1
  have hts := C.2.2.2.2.2.1
  have hE := C.2.2.2.2.2.2.2
  have hl : lv_has ls 3 [(0, .ref (am 0)), (1, .int p1), (2, .int p2)] := hl
  refine lv_aload_n hx hb d_M_pinch_0 rfl (lv_at hl 0 rfl) ?_
  refine lv_iconst (v := (0 : Int32)) hx hb d_M_pinch_1 (by decide) ?_
  refine hk_put (w2 := wM G am (f_M_pinch_2 u)) (v := .int (0 : Int32)) (ty := .int) C hP hD hS 0 5 0 i_M t_M_ok n_M rfl rfl (by decide) (hk_in (by decide +kernel) rfl) rfl (by decide +kernel) rfl rfl (Nat.le_of_ble_eq_true rfl) rfl d_M_pinch_2 (fun H locs hP hD hS => ?_)
  obtain ⟨U1, hU1⟩ : ∃ z, (f_M_pinch_2 u) = z := ⟨_, rfl⟩
  rw [hU1] at hP hD
  refine lv_iload_n hx hb d_M_pinch_5 rfl (lv_at hl 1 rfl) ?_
  refine hk_goIe (hk_kS (k := 1) (As := [.int p1]) (rest := []) C (c_M_isWindow l G p1 _) Y_M_isWindow (hk_in (by decide +kernel) rfl) rfl rfl ⟨Nat.le_of_ble_eq_true rfl, Nat.le_of_ble_eq_true rfl⟩ hk_Pn (hk_Dn (A := A)) rfl hl.1 rfl (Nat.le_of_ble_eq_true rfl) d_M_pinch_6 ⟨Nat.zero_le _, Nat.zero_le _⟩) hP hS hA (fun H locs hP hS => ?_)
  refine lv_if_ne (tgt := 14) hx hb d_M_pinch_9 (by decide) (fun c_1 => ?_) (fun c_1 => ?_)
  · skip
    refine lv_iload_n hx hb d_M_pinch_14 rfl (lv_at hl 2 rfl) ?_
    refine lv_iconst (v := (0 : Int32)) hx hb d_M_pinch_15 (by decide) ?_
    refine lv_sipush (v := (1000 : Int32)) hx hb d_M_pinch_16 (by decide) ?_
    refine hk_goIe (hk_kS (k := 3) (As := [.int p2, .int (0 : Int32), .int (1000 : Int32)]) (rest := []) C (c_M_within l G p2 (0 : Int32) (1000 : Int32) _) Y_M_within (hk_in (by decide +kernel) rfl) rfl rfl ⟨Nat.le_of_ble_eq_true rfl, Nat.le_of_ble_eq_true rfl⟩ hk_Pn (hk_Dn (A := A)) rfl hl.1 rfl (Nat.le_of_ble_eq_true rfl) d_M_pinch_19 ⟨Nat.zero_le _, Nat.zero_le _⟩) hP hS hA (fun H locs hP hS => ?_)
    refine lv_if_ne (tgt := 28) hx hb d_M_pinch_22 (by decide) (fun c_2 => ?_) (fun c_2 => ?_)
    · skip
      refine lv_aload_n hx hb d_M_pinch_28 rfl (lv_at hl 0 rfl) ?_
      refine hk_get (v := .ref (am 7)) C hP 0 5 16 i_M rfl rfl (by decide) (hk_in (by decide +kernel) rfl) rfl d_M_pinch_29 ?_
      refine lv_iload_n hx hb d_M_pinch_32 rfl (lv_at hl 1 rfl) ?_
      refine hk_ild C hP 7 0 (v := (mg16 U1) p1.toNatClampNeg) rfl rfl (by subst hU1; exact hk_ww c_1) rfl d_M_pinch_33 ?_
      refine lv_aload_n hx hb d_M_pinch_34 rfl (lv_at hl 0 rfl) ?_
      refine hk_get (v := .ref (am 6)) C hP 0 5 15 i_M rfl rfl (by decide) (hk_in (by decide +kernel) rfl) rfl d_M_pinch_35 ?_
      refine lv_iload_n hx hb d_M_pinch_38 rfl (lv_at hl 1 rfl) ?_
      refine hk_ild C hP 6 0 (v := (mg15 U1) p1.toNatClampNeg) rfl rfl (by subst hU1; exact hk_ww c_1) rfl d_M_pinch_39 ?_
      refine lv_icmp_le (tgt := 49) hx hb d_M_pinch_40 (by decide) (fun c_3 => ?_) (fun c_3 => ?_)
      · skip
        refine lv_iconst (v := (0 : Int32)) hx hb d_M_pinch_49 (by decide) ?_
        subst hU1
        have e : m_M_pinch p1 p2 u = ((0 : Int32), (f_M_pinch_2 u)) := (if_neg c_1).trans ((if_neg c_2).trans ((if_pos c_3).trans (rfl)))
        exact hk_ri C hAe hP hD hS (by rw [e]) (by rw [e]) d_M_pinch_50
      · skip
        refine lv_iload_n hx hb d_M_pinch_43 rfl (lv_at hl 2 rfl) ?_
        refine lv_bipush (v := (100 : Int32)) hx hb d_M_pinch_44 (by decide) ?_
        refine lv_icmp_gt (tgt := 51) hx hb d_M_pinch_46 (by decide) (fun c_4 => ?_) (fun c_4 => ?_)
        · skip
          refine lv_aload_n hx hb d_M_pinch_51 rfl (lv_at hl 0 rfl) ?_
          refine hk_get (v := .ref (am 7)) C hP 0 5 16 i_M rfl rfl (by decide) (hk_in (by decide +kernel) rfl) rfl d_M_pinch_52 ?_
          refine lv_iload_n hx hb d_M_pinch_55 rfl (lv_at hl 1 rfl) ?_
          refine lv_aload_n hx hb d_M_pinch_56 rfl (lv_at hl 0 rfl) ?_
          refine hk_get (v := .ref (am 6)) C hP 0 5 15 i_M rfl rfl (by decide) (hk_in (by decide +kernel) rfl) rfl d_M_pinch_57 ?_
          refine lv_iload_n hx hb d_M_pinch_60 rfl (lv_at hl 1 rfl) ?_
          refine hk_ild C hP 6 0 (v := (mg15 U1) p1.toNatClampNeg) rfl rfl (by subst hU1; exact hk_ww c_1) rfl d_M_pinch_61 ?_
          refine lv_bipush (v := (60 : Int32)) hx hb d_M_pinch_62 (by decide) ?_
          refine lv_icmp_le (tgt := 79) hx hb d_M_pinch_64 (by decide) (fun c_5 => ?_) (fun c_5 => ?_)
          · skip
            refine lv_iconst (v := (0 : Int32)) hx hb d_M_pinch_79 (by decide) ?_
            refine hk_ist (w2 := wM G am (f_M_pinch_80 p1 U1)) C hP hD hS 7 0 rfl rfl (by subst hU1; exact hk_ww c_1) rfl d_M_pinch_80 (fun H locs hP hD hS => ?_)
            obtain ⟨U2, hU2⟩ : ∃ z, (f_M_pinch_80 p1 U1) = z := ⟨_, rfl⟩
            rw [hU2] at hP hD
            refine lv_iconst (v := (1 : Int32)) hx hb d_M_pinch_81 (by decide) ?_
            subst hU1 hU2
            have e : m_M_pinch p1 p2 u = ((1 : Int32), (f_M_pinch_80 p1 (f_M_pinch_2 u))) := (if_neg c_1).trans ((if_neg c_2).trans ((if_neg c_3).trans ((if_pos c_4).trans ((if_pos c_5).trans (rfl)))))
            exact hk_ri C hAe hP hD hS (by rw [e]) (by rw [e]) d_M_pinch_82
          · skip
            refine lv_aload_n hx hb d_M_pinch_67 rfl (lv_at hl 0 rfl) ?_
            refine hk_get (v := .ref (am 6)) C hP 0 5 15 i_M rfl rfl (by decide) (hk_in (by decide +kernel) rfl) rfl d_M_pinch_68 ?_
            refine lv_iload_n hx hb d_M_pinch_71 rfl (lv_at hl 1 rfl) ?_
            refine hk_ild C hP 6 0 (v := (mg15 U1) p1.toNatClampNeg) rfl rfl (by subst hU1; exact hk_ww c_1) rfl d_M_pinch_72 ?_
            refine lv_bipush (v := (60 : Int32)) hx hb d_M_pinch_73 (by decide) ?_
            refine lv_isub hx hb d_M_pinch_75 ?_
            refine lv_goto (tgt := 80) hx hb d_M_pinch_76 (by decide) ?_
            refine hk_ist (w2 := wM G am (f_M_pinch_80_1 p1 U1)) C hP hD hS 7 0 rfl rfl (by subst hU1; exact hk_ww c_1) rfl d_M_pinch_80 (fun H locs hP hD hS => ?_)
            obtain ⟨U3, hU3⟩ : ∃ z, (f_M_pinch_80_1 p1 U1) = z := ⟨_, rfl⟩
            rw [hU3] at hP hD
            refine lv_iconst (v := (1 : Int32)) hx hb d_M_pinch_81 (by decide) ?_
            subst hU1 hU3
            have e : m_M_pinch p1 p2 u = ((1 : Int32), (f_M_pinch_80_1 p1 (f_M_pinch_2 u))) := (if_neg c_1).trans ((if_neg c_2).trans ((if_neg c_3).trans ((if_pos c_4).trans ((if_neg c_5).trans (rfl)))))
            exact hk_ri C hAe hP hD hS (by rw [e]) (by rw [e]) d_M_pinch_82
        · skip
          refine lv_iconst (v := (0 : Int32)) hx hb d_M_pinch_49 (by decide) ?_
          subst hU1
          have e : m_M_pinch p1 p2 u = ((0 : Int32), (f_M_pinch_2 u)) := (if_neg c_1).trans ((if_neg c_2).trans ((if_neg c_3).trans ((if_neg c_4).trans (rfl))))
          exact hk_ri C hAe hP hD hS (by rw [e]) (by rw [e]) d_M_pinch_50
    · skip
      refine lv_bipush (v := (-2 : Int32)) hx hb d_M_pinch_25 (by decide) ?_
      subst hU1
      have e : m_M_pinch p1 p2 u = ((-2 : Int32), (f_M_pinch_2 u)) := (if_neg c_1).trans ((if_pos c_2).trans (rfl))
      exact hk_ri C hAe hP hD hS (by rw [e]) (by rw [e]) d_M_pinch_27
  · skip
    refine lv_iconst (v := (-1 : Int32)) hx hb d_M_pinch_12 (by decide) ?_
    subst hU1
    have e : m_M_pinch p1 p2 u = ((-1 : Int32), (f_M_pinch_2 u)) := (if_pos c_1).trans (rfl)
    exact hk_ri C hAe hP hD hS (by rw [e]) (by rw [e]) d_M_pinch_13
set_option maxRecDepth 100000 in
theorem Y_M_learn : hk_Y y_M_learn b_M_learn 3 (some .int) 1 := ⟨hk_in (by decide +kernel) rfl, hk_in (by decide +kernel) rfl, hk_in (by decide +kernel) rfl, hk_in (List.mem_of_getElem? (i := 668) rfl) rfl, by decide, by decide, by decide +kernel⟩
abbrev rm_M_learn : Room := { frames := 2, cells := 0, slots := 0, locals := 42 }
set_option maxHeartbeats 4000000 in
set_option maxRecDepth 100000 in
theorem c_M_learn (l : Launch) (G : hk_G) (am : Nat → Nat) (u : cM) (p1 : Int32) : hk_I l G y_M_learn b_M_learn 3 (some .int) rm_M_learn [.ref (am 0), .int p1] (wM G am u) ((m_M_learn p1 u).1) (wM G am ((m_M_learn p1 u).2)) := by
  refine hk_I_of (by decide) (Nat.le_of_ble_eq_true rfl) ?_
  intro p e s m below meth c A ls C hAe hA hP hD hS hl
  have hx := C.1
  have hb := C.2.1
  have hown := C.2.2.2.2.1
  have hts := C.2.2.2.2.2.1
  have hE := C.2.2.2.2.2.2.2
  have hl : lv_has ls 3 [(0, .ref (am 0)), (1, .int p1)] := hl
  refine lv_aload_n hx hb d_M_learn_0 rfl (lv_at hl 0 rfl) ?_
  refine lv_iconst (v := (0 : Int32)) hx hb d_M_learn_1 (by decide) ?_
  refine hk_put (w2 := wM G am (f_M_learn_2 u)) (v := .int (0 : Int32)) (ty := .int) C hP hD hS 0 5 0 i_M t_M_ok n_M rfl rfl (by decide) (hk_in (by decide +kernel) rfl) rfl (by decide +kernel) rfl rfl (Nat.le_of_ble_eq_true rfl) rfl d_M_learn_2 (fun H locs hP hD hS => ?_)
  obtain ⟨U1, hU1⟩ : ∃ z, (f_M_learn_2 u) = z := ⟨_, rfl⟩
  rw [hU1] at hP hD
  refine lv_iload_n hx hb d_M_learn_5 rfl (lv_at hl 1 rfl) ?_
  refine hk_goIe (hk_kS (k := 1) (As := [.int p1]) (rest := []) C (c_M_isWindow l G p1 _) Y_M_isWindow (hk_in (by decide +kernel) rfl) rfl rfl ⟨Nat.le_of_ble_eq_true rfl, Nat.le_of_ble_eq_true rfl⟩ hk_Pn (hk_Dn (A := A)) rfl hl.1 rfl (Nat.le_of_ble_eq_true rfl) d_M_learn_6 ⟨Nat.zero_le _, Nat.zero_le _⟩) hP hS hA (fun H locs hP hS => ?_)
  refine lv_if_ne (tgt := 14) hx hb d_M_learn_9 (by decide) (fun c_1 => ?_) (fun c_1 => ?_)
  · skip
    refine lv_aload_n hx hb d_M_learn_14 rfl (lv_at hl 0 rfl) ?_
    refine hk_get (v := .ref (am 6)) C hP 0 5 15 i_M rfl rfl (by decide) (hk_in (by decide +kernel) rfl) rfl d_M_learn_15 ?_
    refine lv_iload_n hx hb d_M_learn_18 rfl (lv_at hl 1 rfl) ?_
    refine hk_ild C hP 6 0 (v := (mg15 U1) p1.toNatClampNeg) rfl rfl (by subst hU1; exact hk_ww c_1) rfl d_M_learn_19 ?_
    refine lv_aload_n hx hb d_M_learn_20 rfl (lv_at hl 0 rfl) ?_
    refine hk_get (v := .ref (am 7)) C hP 0 5 16 i_M rfl rfl (by decide) (hk_in (by decide +kernel) rfl) rfl d_M_learn_21 ?_
    refine lv_iload_n hx hb d_M_learn_24 rfl (lv_at hl 1 rfl) ?_
    refine hk_ild C hP 7 0 (v := (mg16 U1) p1.toNatClampNeg) rfl rfl (by subst hU1; exact hk_ww c_1) rfl d_M_learn_25 ?_
    refine lv_icmp_ne (tgt := 54) hx hb d_M_learn_26 (by decide) (fun c_2 => ?_) (fun c_2 => ?_)
    · skip
      refine lv_iconst (v := (0 : Int32)) hx hb d_M_learn_54 (by decide) ?_
      refine lv_istore_n (lv' := [(2, .int (0 : Int32)), (0, .ref (am 0)), (1, .int p1)]) hx hb d_M_learn_55 rfl hl (by decide) rfl (fun ls hl => ?_)
      refine lv_aload_n hx hb d_M_learn_56 rfl (lv_at hl 1 rfl) ?_
      refine hk_get (v := .ref (am 8)) C hP 0 5 17 i_M rfl rfl (by decide) (hk_in (by decide +kernel) rfl) rfl d_M_learn_57 ?_
      refine lv_iload_n hx hb d_M_learn_60 rfl (lv_at hl 2 rfl) ?_
      refine lv_aload_n hx hb d_M_learn_61 rfl (lv_at hl 1 rfl) ?_
      refine hk_get (v := .ref (am 8)) C hP 0 5 17 i_M rfl rfl (by decide) (hk_in (by decide +kernel) rfl) rfl d_M_learn_62 ?_
      refine lv_iload_n hx hb d_M_learn_65 rfl (lv_at hl 2 rfl) ?_
      refine hk_zld C hP 8 1 (v := (mg17 U1) p1.toNatClampNeg) rfl rfl (by subst hU1; exact hk_ww c_1) rfl d_M_learn_66 ?_
      refine lv_if_ne (tgt := 74) hx hb d_M_learn_67 (by decide) (fun c_3 => ?_) (fun c_3 => ?_)
      · skip
        refine lv_iconst (v := (1 : Int32)) hx hb d_M_learn_74 (by decide) ?_
        refine lv_goto (tgt := 79) hx hb d_M_learn_75 (by decide) ?_
        refine hk_zst (w2 := wM G am (f_M_learn_79 p1 U1)) C hP hD hS 8 1 rfl rfl (by subst hU1; exact hk_ww c_1) (Or.inr rfl) rfl d_M_learn_79 (fun H locs hP hD hS => ?_)
        obtain ⟨U2, hU2⟩ : ∃ z, (f_M_learn_79 p1 U1) = z := ⟨_, rfl⟩
        rw [hU2] at hP hD
        refine lv_iload_n hx hb d_M_learn_80 rfl (lv_at hl 0 rfl) ?_
        refine lv_if_eq (tgt := 88) hx hb d_M_learn_81 (by decide) (fun c_4 => ?_) (fun c_4 => absurd (by decide) c_4)
        refine lv_iconst (v := (0 : Int32)) hx hb d_M_learn_88 (by decide) ?_
        subst hU1 hU2
        have e : m_M_learn p1 u = ((0 : Int32), (f_M_learn_79 p1 (f_M_learn_2 u))) := (if_neg c_1).trans ((if_neg c_2).trans ((if_neg c_3).trans (rfl)))
        exact hk_ri C hAe hP hD hS (by rw [e]) (by rw [e]) d_M_learn_89
      · skip
        refine lv_iload_n hx hb d_M_learn_70 rfl (lv_at hl 0 rfl) ?_
        refine lv_if_eq (tgt := 78) hx hb d_M_learn_71 (by decide) (fun c_5 => ?_) (fun c_5 => absurd (by decide) c_5)
        refine lv_iconst (v := (0 : Int32)) hx hb d_M_learn_78 (by decide) ?_
        refine hk_zst (w2 := wM G am (f_M_learn_79_1 p1 U1)) C hP hD hS 8 1 rfl rfl (by subst hU1; exact hk_ww c_1) (Or.inl rfl) rfl d_M_learn_79 (fun H locs hP hD hS => ?_)
        obtain ⟨U3, hU3⟩ : ∃ z, (f_M_learn_79_1 p1 U1) = z := ⟨_, rfl⟩
        rw [hU3] at hP hD
        refine lv_iload_n hx hb d_M_learn_80 rfl (lv_at hl 0 rfl) ?_
        refine lv_if_eq (tgt := 88) hx hb d_M_learn_81 (by decide) (fun c_6 => ?_) (fun c_6 => absurd (by decide) c_6)
        refine lv_iconst (v := (0 : Int32)) hx hb d_M_learn_88 (by decide) ?_
        subst hU1 hU3
        have e : m_M_learn p1 u = ((0 : Int32), (f_M_learn_79_1 p1 (f_M_learn_2 u))) := (if_neg c_1).trans ((if_neg c_2).trans ((if_pos c_3).trans (rfl)))
        exact hk_ri C hAe hP hD hS (by rw [e]) (by rw [e]) d_M_learn_89
    · skip
      refine lv_aload_n hx hb d_M_learn_29 rfl (lv_at hl 0 rfl) ?_
      refine hk_get (v := .ref (am 6)) C hP 0 5 15 i_M rfl rfl (by decide) (hk_in (by decide +kernel) rfl) rfl d_M_learn_30 ?_
      refine lv_iload_n hx hb d_M_learn_33 rfl (lv_at hl 1 rfl) ?_
      refine hk_ild C hP 6 0 (v := (mg15 U1) p1.toNatClampNeg) rfl rfl (by subst hU1; exact hk_ww c_1) rfl d_M_learn_34 ?_
      refine lv_if_eq (tgt := 50) hx hb d_M_learn_35 (by decide) (fun c_7 => ?_) (fun c_7 => ?_)
      · skip
        refine lv_iconst (v := (1 : Int32)) hx hb d_M_learn_50 (by decide) ?_
        refine lv_goto (tgt := 55) hx hb d_M_learn_51 (by decide) ?_
        refine lv_istore_n (lv' := [(2, .int (1 : Int32)), (0, .ref (am 0)), (1, .int p1)]) hx hb d_M_learn_55 rfl hl (by decide) rfl (fun ls hl => ?_)
        refine lv_aload_n hx hb d_M_learn_56 rfl (lv_at hl 1 rfl) ?_
        refine hk_get (v := .ref (am 8)) C hP 0 5 17 i_M rfl rfl (by decide) (hk_in (by decide +kernel) rfl) rfl d_M_learn_57 ?_
        refine lv_iload_n hx hb d_M_learn_60 rfl (lv_at hl 2 rfl) ?_
        refine lv_aload_n hx hb d_M_learn_61 rfl (lv_at hl 1 rfl) ?_
        refine hk_get (v := .ref (am 8)) C hP 0 5 17 i_M rfl rfl (by decide) (hk_in (by decide +kernel) rfl) rfl d_M_learn_62 ?_
        refine lv_iload_n hx hb d_M_learn_65 rfl (lv_at hl 2 rfl) ?_
        refine hk_zld C hP 8 1 (v := (mg17 U1) p1.toNatClampNeg) rfl rfl (by subst hU1; exact hk_ww c_1) rfl d_M_learn_66 ?_
        refine lv_if_ne (tgt := 74) hx hb d_M_learn_67 (by decide) (fun c_8 => ?_) (fun c_8 => ?_)
        · skip
          refine lv_iconst (v := (1 : Int32)) hx hb d_M_learn_74 (by decide) ?_
          refine lv_goto (tgt := 79) hx hb d_M_learn_75 (by decide) ?_
          refine hk_zst (w2 := wM G am (f_M_learn_79 p1 U1)) C hP hD hS 8 1 rfl rfl (by subst hU1; exact hk_ww c_1) (Or.inr rfl) rfl d_M_learn_79 (fun H locs hP hD hS => ?_)
          obtain ⟨U4, hU4⟩ : ∃ z, (f_M_learn_79 p1 U1) = z := ⟨_, rfl⟩
          rw [hU4] at hP hD
          refine lv_iload_n hx hb d_M_learn_80 rfl (lv_at hl 0 rfl) ?_
          refine lv_if_eq (tgt := 88) hx hb d_M_learn_81 (by decide) (fun c_9 => absurd c_9 (by decide)) (fun c_9 => ?_)
          refine lv_iconst (v := (1 : Int32)) hx hb d_M_learn_84 (by decide) ?_
          refine lv_goto (tgt := 89) hx hb d_M_learn_85 (by decide) ?_
          subst hU1 hU4
          have e : m_M_learn p1 u = ((1 : Int32), (f_M_learn_79 p1 (f_M_learn_2 u))) := (if_neg c_1).trans ((if_pos c_2).trans ((if_pos c_7).trans ((if_neg c_8).trans (rfl))))
          exact hk_ri C hAe hP hD hS (by rw [e]) (by rw [e]) d_M_learn_89
        · skip
          refine lv_iload_n hx hb d_M_learn_70 rfl (lv_at hl 0 rfl) ?_
          refine lv_if_eq (tgt := 78) hx hb d_M_learn_71 (by decide) (fun c_10 => absurd c_10 (by decide)) (fun c_10 => ?_)
          refine lv_iconst (v := (1 : Int32)) hx hb d_M_learn_74 (by decide) ?_
          refine lv_goto (tgt := 79) hx hb d_M_learn_75 (by decide) ?_
          refine hk_zst (w2 := wM G am (f_M_learn_79 p1 U1)) C hP hD hS 8 1 rfl rfl (by subst hU1; exact hk_ww c_1) (Or.inr rfl) rfl d_M_learn_79 (fun H locs hP hD hS => ?_)
          obtain ⟨U5, hU5⟩ : ∃ z, (f_M_learn_79 p1 U1) = z := ⟨_, rfl⟩
          rw [hU5] at hP hD
          refine lv_iload_n hx hb d_M_learn_80 rfl (lv_at hl 0 rfl) ?_
          refine lv_if_eq (tgt := 88) hx hb d_M_learn_81 (by decide) (fun c_11 => absurd c_11 (by decide)) (fun c_11 => ?_)
          refine lv_iconst (v := (1 : Int32)) hx hb d_M_learn_84 (by decide) ?_
          refine lv_goto (tgt := 89) hx hb d_M_learn_85 (by decide) ?_
          subst hU1 hU5
          have e : m_M_learn p1 u = ((1 : Int32), (f_M_learn_79 p1 (f_M_learn_2 u))) := (if_neg c_1).trans ((if_pos c_2).trans ((if_pos c_7).trans ((if_pos c_8).trans (rfl))))
          exact hk_ri C hAe hP hD hS (by rw [e]) (by rw [e]) d_M_learn_89
      · skip
        refine lv_aload_n hx hb d_M_learn_38 rfl (lv_at hl 0 rfl) ?_
        refine hk_get (v := .ref (am 6)) C hP 0 5 15 i_M rfl rfl (by decide) (hk_in (by decide +kernel) rfl) rfl d_M_learn_39 ?_
        refine lv_iload_n hx hb d_M_learn_42 rfl (lv_at hl 1 rfl) ?_
        refine hk_ild C hP 6 0 (v := (mg15 U1) p1.toNatClampNeg) rfl rfl (by subst hU1; exact hk_ww c_1) rfl d_M_learn_43 ?_
        refine lv_sipush (v := (200 : Int32)) hx hb d_M_learn_44 (by decide) ?_
        refine lv_icmp_ne (tgt := 54) hx hb d_M_learn_47 (by decide) (fun c_12 => ?_) (fun c_12 => ?_)
        · skip
          refine lv_iconst (v := (0 : Int32)) hx hb d_M_learn_54 (by decide) ?_
          refine lv_istore_n (lv' := [(2, .int (0 : Int32)), (0, .ref (am 0)), (1, .int p1)]) hx hb d_M_learn_55 rfl hl (by decide) rfl (fun ls hl => ?_)
          refine lv_aload_n hx hb d_M_learn_56 rfl (lv_at hl 1 rfl) ?_
          refine hk_get (v := .ref (am 8)) C hP 0 5 17 i_M rfl rfl (by decide) (hk_in (by decide +kernel) rfl) rfl d_M_learn_57 ?_
          refine lv_iload_n hx hb d_M_learn_60 rfl (lv_at hl 2 rfl) ?_
          refine lv_aload_n hx hb d_M_learn_61 rfl (lv_at hl 1 rfl) ?_
          refine hk_get (v := .ref (am 8)) C hP 0 5 17 i_M rfl rfl (by decide) (hk_in (by decide +kernel) rfl) rfl d_M_learn_62 ?_
          refine lv_iload_n hx hb d_M_learn_65 rfl (lv_at hl 2 rfl) ?_
          refine hk_zld C hP 8 1 (v := (mg17 U1) p1.toNatClampNeg) rfl rfl (by subst hU1; exact hk_ww c_1) rfl d_M_learn_66 ?_
          refine lv_if_ne (tgt := 74) hx hb d_M_learn_67 (by decide) (fun c_13 => ?_) (fun c_13 => ?_)
          · skip
            refine lv_iconst (v := (1 : Int32)) hx hb d_M_learn_74 (by decide) ?_
            refine lv_goto (tgt := 79) hx hb d_M_learn_75 (by decide) ?_
            refine hk_zst (w2 := wM G am (f_M_learn_79 p1 U1)) C hP hD hS 8 1 rfl rfl (by subst hU1; exact hk_ww c_1) (Or.inr rfl) rfl d_M_learn_79 (fun H locs hP hD hS => ?_)
            obtain ⟨U6, hU6⟩ : ∃ z, (f_M_learn_79 p1 U1) = z := ⟨_, rfl⟩
            rw [hU6] at hP hD
            refine lv_iload_n hx hb d_M_learn_80 rfl (lv_at hl 0 rfl) ?_
            refine lv_if_eq (tgt := 88) hx hb d_M_learn_81 (by decide) (fun c_14 => ?_) (fun c_14 => absurd (by decide) c_14)
            refine lv_iconst (v := (0 : Int32)) hx hb d_M_learn_88 (by decide) ?_
            subst hU1 hU6
            have e : m_M_learn p1 u = ((0 : Int32), (f_M_learn_79 p1 (f_M_learn_2 u))) := (if_neg c_1).trans ((if_pos c_2).trans ((if_neg c_7).trans ((if_neg c_12).trans ((if_neg c_13).trans (rfl)))))
            exact hk_ri C hAe hP hD hS (by rw [e]) (by rw [e]) d_M_learn_89
          · skip
            refine lv_iload_n hx hb d_M_learn_70 rfl (lv_at hl 0 rfl) ?_
            refine lv_if_eq (tgt := 78) hx hb d_M_learn_71 (by decide) (fun c_15 => ?_) (fun c_15 => absurd (by decide) c_15)
            refine lv_iconst (v := (0 : Int32)) hx hb d_M_learn_78 (by decide) ?_
            refine hk_zst (w2 := wM G am (f_M_learn_79_1 p1 U1)) C hP hD hS 8 1 rfl rfl (by subst hU1; exact hk_ww c_1) (Or.inl rfl) rfl d_M_learn_79 (fun H locs hP hD hS => ?_)
            obtain ⟨U7, hU7⟩ : ∃ z, (f_M_learn_79_1 p1 U1) = z := ⟨_, rfl⟩
            rw [hU7] at hP hD
            refine lv_iload_n hx hb d_M_learn_80 rfl (lv_at hl 0 rfl) ?_
            refine lv_if_eq (tgt := 88) hx hb d_M_learn_81 (by decide) (fun c_16 => ?_) (fun c_16 => absurd (by decide) c_16)
            refine lv_iconst (v := (0 : Int32)) hx hb d_M_learn_88 (by decide) ?_
            subst hU1 hU7
            have e : m_M_learn p1 u = ((0 : Int32), (f_M_learn_79_1 p1 (f_M_learn_2 u))) := (if_neg c_1).trans ((if_pos c_2).trans ((if_neg c_7).trans ((if_neg c_12).trans ((if_pos c_13).trans (rfl)))))
            exact hk_ri C hAe hP hD hS (by rw [e]) (by rw [e]) d_M_learn_89
        · skip
          refine lv_iconst (v := (1 : Int32)) hx hb d_M_learn_50 (by decide) ?_
          refine lv_goto (tgt := 55) hx hb d_M_learn_51 (by decide) ?_
          refine lv_istore_n (lv' := [(2, .int (1 : Int32)), (0, .ref (am 0)), (1, .int p1)]) hx hb d_M_learn_55 rfl hl (by decide) rfl (fun ls hl => ?_)
          refine lv_aload_n hx hb d_M_learn_56 rfl (lv_at hl 1 rfl) ?_
          refine hk_get (v := .ref (am 8)) C hP 0 5 17 i_M rfl rfl (by decide) (hk_in (by decide +kernel) rfl) rfl d_M_learn_57 ?_
          refine lv_iload_n hx hb d_M_learn_60 rfl (lv_at hl 2 rfl) ?_
          refine lv_aload_n hx hb d_M_learn_61 rfl (lv_at hl 1 rfl) ?_
          refine hk_get (v := .ref (am 8)) C hP 0 5 17 i_M rfl rfl (by decide) (hk_in (by decide +kernel) rfl) rfl d_M_learn_62 ?_
          refine lv_iload_n hx hb d_M_learn_65 rfl (lv_at hl 2 rfl) ?_
          refine hk_zld C hP 8 1 (v := (mg17 U1) p1.toNatClampNeg) rfl rfl (by subst hU1; exact hk_ww c_1) rfl d_M_learn_66 ?_
          refine lv_if_ne (tgt := 74) hx hb d_M_learn_67 (by decide) (fun c_17 => ?_) (fun c_17 => ?_)
          · skip
            refine lv_iconst (v := (1 : Int32)) hx hb d_M_learn_74 (by decide) ?_
            refine lv_goto (tgt := 79) hx hb d_M_learn_75 (by decide) ?_
            refine hk_zst (w2 := wM G am (f_M_learn_79 p1 U1)) C hP hD hS 8 1 rfl rfl (by subst hU1; exact hk_ww c_1) (Or.inr rfl) rfl d_M_learn_79 (fun H locs hP hD hS => ?_)
            obtain ⟨U8, hU8⟩ : ∃ z, (f_M_learn_79 p1 U1) = z := ⟨_, rfl⟩
            rw [hU8] at hP hD
            refine lv_iload_n hx hb d_M_learn_80 rfl (lv_at hl 0 rfl) ?_
            refine lv_if_eq (tgt := 88) hx hb d_M_learn_81 (by decide) (fun c_18 => absurd c_18 (by decide)) (fun c_18 => ?_)
            refine lv_iconst (v := (1 : Int32)) hx hb d_M_learn_84 (by decide) ?_
            refine lv_goto (tgt := 89) hx hb d_M_learn_85 (by decide) ?_
            subst hU1 hU8
            have e : m_M_learn p1 u = ((1 : Int32), (f_M_learn_79 p1 (f_M_learn_2 u))) := (if_neg c_1).trans ((if_pos c_2).trans ((if_neg c_7).trans ((if_pos c_12).trans ((if_neg c_17).trans (rfl)))))
            exact hk_ri C hAe hP hD hS (by rw [e]) (by rw [e]) d_M_learn_89
          · skip
            refine lv_iload_n hx hb d_M_learn_70 rfl (lv_at hl 0 rfl) ?_
            refine lv_if_eq (tgt := 78) hx hb d_M_learn_71 (by decide) (fun c_19 => absurd c_19 (by decide)) (fun c_19 => ?_)
            refine lv_iconst (v := (1 : Int32)) hx hb d_M_learn_74 (by decide) ?_
            refine lv_goto (tgt := 79) hx hb d_M_learn_75 (by decide) ?_
            refine hk_zst (w2 := wM G am (f_M_learn_79 p1 U1)) C hP hD hS 8 1 rfl rfl (by subst hU1; exact hk_ww c_1) (Or.inr rfl) rfl d_M_learn_79 (fun H locs hP hD hS => ?_)
            obtain ⟨U9, hU9⟩ : ∃ z, (f_M_learn_79 p1 U1) = z := ⟨_, rfl⟩
            rw [hU9] at hP hD
            refine lv_iload_n hx hb d_M_learn_80 rfl (lv_at hl 0 rfl) ?_
            refine lv_if_eq (tgt := 88) hx hb d_M_learn_81 (by decide) (fun c_20 => absurd c_20 (by decide)) (fun c_20 => ?_)
            refine lv_iconst (v := (1 : Int32)) hx hb d_M_learn_84 (by decide) ?_
            refine lv_goto (tgt := 89) hx hb d_M_learn_85 (by decide) ?_
            subst hU1 hU9
            have e : m_M_learn p1 u = ((1 : Int32), (f_M_learn_79 p1 (f_M_learn_2 u))) := (if_neg c_1).trans ((if_pos c_2).trans ((if_neg c_7).trans ((if_pos c_12).trans ((if_pos c_17).trans (rfl)))))
            exact hk_ri C hAe hP hD hS (by rw [e]) (by rw [e]) d_M_learn_89
  · skip
    refine lv_iconst (v := (-1 : Int32)) hx hb d_M_learn_12 (by decide) ?_
    subst hU1
    have e : m_M_learn p1 u = ((-1 : Int32), (f_M_learn_2 u)) := (if_pos c_1).trans (rfl)
    exact hk_ri C hAe hP hD hS (by rw [e]) (by rw [e]) d_M_learn_13
set_option maxRecDepth 100000 in
theorem Y_M_window : hk_Y y_M_window b_M_window 4 (some .int) 2 := ⟨hk_in (by decide +kernel) rfl, hk_in (by decide +kernel) rfl, hk_in (by decide +kernel) rfl, hk_in (List.mem_of_getElem? (i := 672) rfl) rfl, by decide, by decide, by decide +kernel⟩
abbrev rm_M_window : Room := { frames := 2, cells := 0, slots := 0, locals := 42 }
set_option maxHeartbeats 4000000 in
set_option maxRecDepth 100000 in
theorem c_M_window (l : Launch) (G : hk_G) (am : Nat → Nat) (u : cM) (p1 : Int32) (p2 : Int32) : hk_I l G y_M_window b_M_window 4 (some .int) rm_M_window [.ref (am 0), .int p1, .int p2] (wM G am u) ((m_M_window p1 p2 u).1) (wM G am ((m_M_window p1 p2 u).2)) := by
  refine hk_I_of (by decide) (Nat.le_of_ble_eq_true rfl) ?_
  intro p e s m below meth c A ls C hAe hA hP hD hS hl
  have hx := C.1
  have hb := C.2.1
  have hown := C.2.2.2.2.1
  have hts := C.2.2.2.2.2.1
  have hE := C.2.2.2.2.2.2.2
  have hl : lv_has ls 4 [(0, .ref (am 0)), (1, .int p1), (2, .int p2)] := hl
  refine lv_aload_n hx hb d_M_window_0 rfl (lv_at hl 0 rfl) ?_
  refine lv_iconst (v := (0 : Int32)) hx hb d_M_window_1 (by decide) ?_
  refine hk_put (w2 := wM G am (f_M_window_2 u)) (v := .int (0 : Int32)) (ty := .int) C hP hD hS 0 5 0 i_M t_M_ok n_M rfl rfl (by decide) (hk_in (by decide +kernel) rfl) rfl (by decide +kernel) rfl rfl (Nat.le_of_ble_eq_true rfl) rfl d_M_window_2 (fun H locs hP hD hS => ?_)
  obtain ⟨U1, hU1⟩ : ∃ z, (f_M_window_2 u) = z := ⟨_, rfl⟩
  rw [hU1] at hP hD
  refine lv_iload_n hx hb d_M_window_5 rfl (lv_at hl 1 rfl) ?_
  refine hk_goIe (hk_kS (k := 1) (As := [.int p1]) (rest := []) C (c_M_isWindow l G p1 _) Y_M_isWindow (hk_in (by decide +kernel) rfl) rfl rfl ⟨Nat.le_of_ble_eq_true rfl, Nat.le_of_ble_eq_true rfl⟩ hk_Pn (hk_Dn (A := A)) rfl hl.1 rfl (Nat.le_of_ble_eq_true rfl) d_M_window_6 ⟨Nat.zero_le _, Nat.zero_le _⟩) hP hS hA (fun H locs hP hS => ?_)
  refine lv_if_ne (tgt := 14) hx hb d_M_window_9 (by decide) (fun c_1 => ?_) (fun c_1 => ?_)
  · skip
    refine lv_iload_n hx hb d_M_window_14 rfl (lv_at hl 2 rfl) ?_
    refine lv_iconst (v := (0 : Int32)) hx hb d_M_window_15 (by decide) ?_
    refine lv_sipush (v := (200 : Int32)) hx hb d_M_window_16 (by decide) ?_
    refine hk_goIe (hk_kS (k := 3) (As := [.int p2, .int (0 : Int32), .int (200 : Int32)]) (rest := []) C (c_M_within l G p2 (0 : Int32) (200 : Int32) _) Y_M_within (hk_in (by decide +kernel) rfl) rfl rfl ⟨Nat.le_of_ble_eq_true rfl, Nat.le_of_ble_eq_true rfl⟩ hk_Pn (hk_Dn (A := A)) rfl hl.1 rfl (Nat.le_of_ble_eq_true rfl) d_M_window_19 ⟨Nat.zero_le _, Nat.zero_le _⟩) hP hS hA (fun H locs hP hS => ?_)
    refine lv_if_ne (tgt := 28) hx hb d_M_window_22 (by decide) (fun c_2 => ?_) (fun c_2 => ?_)
    · skip
      refine lv_aload_n hx hb d_M_window_28 rfl (lv_at hl 0 rfl) ?_
      refine hk_get (v := .ref (am 7)) C hP 0 5 16 i_M rfl rfl (by decide) (hk_in (by decide +kernel) rfl) rfl d_M_window_29 ?_
      refine lv_iload_n hx hb d_M_window_32 rfl (lv_at hl 1 rfl) ?_
      refine lv_iload_n hx hb d_M_window_33 rfl (lv_at hl 2 rfl) ?_
      refine hk_ist (w2 := wM G am (f_M_window_34 p1 p2 U1)) C hP hD hS 7 0 rfl rfl (by subst hU1; exact hk_ww c_1) rfl d_M_window_34 (fun H locs hP hD hS => ?_)
      obtain ⟨U2, hU2⟩ : ∃ z, (f_M_window_34 p1 p2 U1) = z := ⟨_, rfl⟩
      rw [hU2] at hP hD
      refine lv_iload_n hx hb d_M_window_35 rfl (lv_at hl 2 rfl) ?_
      refine lv_aload_n hx hb d_M_window_36 rfl (lv_at hl 0 rfl) ?_
      refine hk_get (v := .ref (am 6)) C hP 0 5 15 i_M rfl rfl (by decide) (hk_in (by decide +kernel) rfl) rfl d_M_window_37 ?_
      refine lv_iload_n hx hb d_M_window_40 rfl (lv_at hl 1 rfl) ?_
      refine hk_ild C hP 6 0 (v := (mg15 U2) p1.toNatClampNeg) rfl rfl (by subst hU1 hU2; exact hk_ww c_1) rfl d_M_window_41 ?_
      refine lv_icmp_le (tgt := 56) hx hb d_M_window_42 (by decide) (fun c_3 => ?_) (fun c_3 => ?_)
      · skip
        refine lv_aload_n hx hb d_M_window_56 rfl (lv_at hl 0 rfl) ?_
        refine hk_get (v := .ref (am 6)) C hP 0 5 15 i_M rfl rfl (by decide) (hk_in (by decide +kernel) rfl) rfl d_M_window_57 ?_
        refine lv_iload_n hx hb d_M_window_60 rfl (lv_at hl 1 rfl) ?_
        refine hk_ild C hP 6 0 (v := (mg15 U2) p1.toNatClampNeg) rfl rfl (by subst hU1 hU2; exact hk_ww c_1) rfl d_M_window_61 ?_
        refine lv_iload_n hx hb d_M_window_62 rfl (lv_at hl 2 rfl) ?_
        refine lv_isub hx hb d_M_window_63 ?_
        refine lv_istore_n (lv' := [(3, .int (((mg15 U2) p1.toNatClampNeg) - p2)), (0, .ref (am 0)), (1, .int p1), (2, .int p2)]) hx hb d_M_window_64 rfl hl (by decide) rfl (fun ls hl => ?_)
        refine lv_aload_n hx hb d_M_window_65 rfl (lv_at hl 1 rfl) ?_
        refine hk_get (v := .ref (am 8)) C hP 0 5 17 i_M rfl rfl (by decide) (hk_in (by decide +kernel) rfl) rfl d_M_window_66 ?_
        refine lv_iload_n hx hb d_M_window_69 rfl (lv_at hl 2 rfl) ?_
        refine hk_zld C hP 8 1 (v := (mg17 U2) p1.toNatClampNeg) rfl rfl (by subst hU1 hU2; exact hk_ww c_1) rfl d_M_window_70 ?_
        refine lv_if_eq (tgt := 82) hx hb d_M_window_71 (by decide) (fun c_4 => ?_) (fun c_4 => ?_)
        · skip
          refine lv_iload_n hx hb d_M_window_82 rfl (lv_at hl 0 rfl) ?_
          subst hU1 hU2
          have e : m_M_window p1 p2 u = (((mg15 (f_M_window_34 p1 p2 (f_M_window_2 u))) p1.toNatClampNeg) - p2, (f_M_window_34 p1 p2 (f_M_window_2 u))) := (if_neg c_1).trans ((if_neg c_2).trans ((if_pos c_3).trans ((if_pos c_4).trans (rfl))))
          exact hk_ri C hAe hP hD hS (by rw [e]) (by rw [e]) d_M_window_83
        · skip
          refine lv_iload_n hx hb d_M_window_74 rfl (lv_at hl 0 rfl) ?_
          refine lv_iconst (v := (1 : Int32)) hx hb d_M_window_75 (by decide) ?_
          refine lv_iadd hx hb d_M_window_76 ?_
          refine lv_iconst (v := (2 : Int32)) hx hb d_M_window_77 (by decide) ?_
          refine lv_idiv hx hb d_M_window_78 (by decide) ?_
          refine lv_goto (tgt := 83) hx hb d_M_window_79 (by decide) ?_
          subst hU1 hU2
          have e : m_M_window p1 p2 u = (((((mg15 (f_M_window_34 p1 p2 (f_M_window_2 u))) p1.toNatClampNeg) - p2) + (1 : Int32)) / (2 : Int32), (f_M_window_34 p1 p2 (f_M_window_2 u))) := (if_neg c_1).trans ((if_neg c_2).trans ((if_pos c_3).trans ((if_neg c_4).trans (rfl))))
          exact hk_ri C hAe hP hD hS (by rw [e]) (by rw [e]) d_M_window_83
      · skip
        refine lv_iload_n hx hb d_M_window_45 rfl (lv_at hl 2 rfl) ?_
        refine lv_aload_n hx hb d_M_window_46 rfl (lv_at hl 0 rfl) ?_
        refine hk_get (v := .ref (am 6)) C hP 0 5 15 i_M rfl rfl (by decide) (hk_in (by decide +kernel) rfl) rfl d_M_window_47 ?_
        refine lv_iload_n hx hb d_M_window_50 rfl (lv_at hl 1 rfl) ?_
        refine hk_ild C hP 6 0 (v := (mg15 U2) p1.toNatClampNeg) rfl rfl (by subst hU1 hU2; exact hk_ww c_1) rfl d_M_window_51 ?_
        refine lv_isub hx hb d_M_window_52 ?_
        refine lv_goto (tgt := 64) hx hb d_M_window_53 (by decide) ?_
        refine lv_istore_n (lv' := [(3, .int (p2 - ((mg15 U2) p1.toNatClampNeg))), (0, .ref (am 0)), (1, .int p1), (2, .int p2)]) hx hb d_M_window_64 rfl hl (by decide) rfl (fun ls hl => ?_)
        refine lv_aload_n hx hb d_M_window_65 rfl (lv_at hl 1 rfl) ?_
        refine hk_get (v := .ref (am 8)) C hP 0 5 17 i_M rfl rfl (by decide) (hk_in (by decide +kernel) rfl) rfl d_M_window_66 ?_
        refine lv_iload_n hx hb d_M_window_69 rfl (lv_at hl 2 rfl) ?_
        refine hk_zld C hP 8 1 (v := (mg17 U2) p1.toNatClampNeg) rfl rfl (by subst hU1 hU2; exact hk_ww c_1) rfl d_M_window_70 ?_
        refine lv_if_eq (tgt := 82) hx hb d_M_window_71 (by decide) (fun c_5 => ?_) (fun c_5 => ?_)
        · skip
          refine lv_iload_n hx hb d_M_window_82 rfl (lv_at hl 0 rfl) ?_
          subst hU1 hU2
          have e : m_M_window p1 p2 u = (p2 - ((mg15 (f_M_window_34 p1 p2 (f_M_window_2 u))) p1.toNatClampNeg), (f_M_window_34 p1 p2 (f_M_window_2 u))) := (if_neg c_1).trans ((if_neg c_2).trans ((if_neg c_3).trans ((if_pos c_5).trans (rfl))))
          exact hk_ri C hAe hP hD hS (by rw [e]) (by rw [e]) d_M_window_83
        · skip
          refine lv_iload_n hx hb d_M_window_74 rfl (lv_at hl 0 rfl) ?_
          refine lv_iconst (v := (1 : Int32)) hx hb d_M_window_75 (by decide) ?_
          refine lv_iadd hx hb d_M_window_76 ?_
          refine lv_iconst (v := (2 : Int32)) hx hb d_M_window_77 (by decide) ?_
          refine lv_idiv hx hb d_M_window_78 (by decide) ?_
          refine lv_goto (tgt := 83) hx hb d_M_window_79 (by decide) ?_
          subst hU1 hU2
          have e : m_M_window p1 p2 u = (((p2 - ((mg15 (f_M_window_34 p1 p2 (f_M_window_2 u))) p1.toNatClampNeg)) + (1 : Int32)) / (2 : Int32), (f_M_window_34 p1 p2 (f_M_window_2 u))) := (if_neg c_1).trans ((if_neg c_2).trans ((if_neg c_3).trans ((if_neg c_5).trans (rfl))))
          exact hk_ri C hAe hP hD hS (by rw [e]) (by rw [e]) d_M_window_83
    · skip
      refine lv_bipush (v := (-2 : Int32)) hx hb d_M_window_25 (by decide) ?_
      subst hU1
      have e : m_M_window p1 p2 u = ((-2 : Int32), (f_M_window_2 u)) := (if_neg c_1).trans ((if_pos c_2).trans (rfl))
      exact hk_ri C hAe hP hD hS (by rw [e]) (by rw [e]) d_M_window_27
  · skip
    refine lv_iconst (v := (-1 : Int32)) hx hb d_M_window_12 (by decide) ?_
    subst hU1
    have e : m_M_window p1 p2 u = ((-1 : Int32), (f_M_window_2 u)) := (if_pos c_1).trans (rfl)
    exact hk_ri C hAe hP hD hS (by rw [e]) (by rw [e]) d_M_window_13
