theorem Y_Loads_add : hk_Y y_Loads_add b_Loads_add 3 (some .int) 2 := ⟨hk_in (by decide +kernel) rfl, hk_in (by decide +kernel) rfl, hk_in (by decide +kernel) rfl, hk_in (List.mem_of_getElem? (i := 374) rfl) rfl, by decide, by decide, by decide +kernel⟩
abbrev rm_Loads_add : Room := { frames := 0, cells := 0, slots := 0, locals := 0 }
set_option maxHeartbeats 4000000 in
set_option maxRecDepth 100000 in
theorem c_Loads_add (l : Launch) (G : hk_G) (a0 a1 a2 a3 : Nat) (u : cL) (p1 : Int32) (p2 : Int32) (hI : IL u) (h01 : p2 = 0 ∨ p2 = 1) : hk_I l G y_Loads_add b_Loads_add 3 (some .int) rm_Loads_add [.ref a0, .int p1, .int p2] (wL G a0 a1 a2 a3 u) ((m_Loads_add p1 p2 u).1) (wL G a0 a1 a2 a3 ((m_Loads_add p1 p2 u).2)) := by
  refine hk_I_of (by decide) (Nat.le_of_ble_eq_true rfl) ?_
  intro p e s m below meth c A ls C hAe hA hP hD hS hl
  have hx := C.1
  have hb := C.2.1
  have hown := C.2.2.2.2.1
  have hts := C.2.2.2.2.2.1
  have hE := C.2.2.2.2.2.2.2
  have hl : lv_has ls 3 [(0, .ref a0), (1, .int p1), (2, .int p2)] := hl
  refine lv_aload_n hx hb d_Loads_add_0 rfl (lv_at hl 0 rfl) ?_
  refine hk_get (v := .int (l3 u)) C hP 0 3 3 i_Loads rfl rfl (by decide) (hk_in (by decide +kernel) rfl) rfl d_Loads_add_1 ?_
  refine lv_bipush (v := (12 : Int32)) hx hb d_Loads_add_4 (by decide) ?_
  refine lv_icmp_lt (tgt := 12) hx hb d_Loads_add_6 (by decide) (fun c_1 => ?_) (fun c_1 => ?_)
  · skip
    refine lv_aload_n hx hb d_Loads_add_12 rfl (lv_at hl 0 rfl) ?_
    refine hk_get (v := .ref a1) C hP 0 3 0 i_Loads rfl rfl (by decide) (hk_in (by decide +kernel) rfl) rfl d_Loads_add_13 ?_
    refine lv_aload_n hx hb d_Loads_add_16 rfl (lv_at hl 0 rfl) ?_
    refine hk_get (v := .int (l3 u)) C hP 0 3 3 i_Loads rfl rfl (by decide) (hk_in (by decide +kernel) rfl) rfl d_Loads_add_17 ?_
    refine lv_iload_n hx hb d_Loads_add_20 rfl (lv_at hl 1 rfl) ?_
    refine hk_ist (w2 := wL G a0 a1 a2 a3 (f_Loads_add_21 p1 u)) C hP hD hS 1 0 rfl rfl (hk_inL hI c_1) rfl d_Loads_add_21 (fun H locs hP hD hS => ?_)
    have hI1 : IL (f_Loads_add_21 p1 u) := (IL_of (k3_f_Loads_add_21 _ _) hI)
    obtain ⟨U1, hU1⟩ : ∃ z, (f_Loads_add_21 p1 u) = z := ⟨_, rfl⟩
    rw [hU1] at hP hD hI1
    refine lv_aload_n hx hb d_Loads_add_22 rfl (lv_at hl 0 rfl) ?_
    refine hk_get (v := .ref a2) C hP 0 3 1 i_Loads rfl rfl (by decide) (hk_in (by decide +kernel) rfl) rfl d_Loads_add_23 ?_
    refine lv_aload_n hx hb d_Loads_add_26 rfl (lv_at hl 0 rfl) ?_
    refine hk_get (v := .int (l3 U1)) C hP 0 3 3 i_Loads rfl rfl (by decide) (hk_in (by decide +kernel) rfl) rfl d_Loads_add_27 ?_
    refine lv_iload_n hx hb d_Loads_add_30 rfl (lv_at hl 2 rfl) ?_
    refine hk_zst (w2 := wL G a0 a1 a2 a3 (f_Loads_add_31 p2 U1)) C hP hD hS 2 1 rfl rfl (by subst hU1; exact hk_inL hI c_1) h01 rfl d_Loads_add_31 (fun H locs hP hD hS => ?_)
    have hI2 : IL (f_Loads_add_31 p2 U1) := (IL_of (k3_f_Loads_add_31 _ _) hI1)
    obtain ⟨U2, hU2⟩ : ∃ z, (f_Loads_add_31 p2 U1) = z := ⟨_, rfl⟩
    rw [hU2] at hP hD hI2
    refine lv_aload_n hx hb d_Loads_add_32 rfl (lv_at hl 0 rfl) ?_
    refine lv_dup hx hb d_Loads_add_33 rfl ?_
    refine hk_get (v := .int (l3 U2)) C hP 0 3 3 i_Loads rfl rfl (by decide) (hk_in (by decide +kernel) rfl) rfl d_Loads_add_34 ?_
    refine lv_iconst (v := (1 : Int32)) hx hb d_Loads_add_37 (by decide) ?_
    refine lv_iadd hx hb d_Loads_add_38 ?_
    refine hk_put (w2 := wL G a0 a1 a2 a3 (f_Loads_add_39 U2)) (v := .int ((l3 U2) + (1 : Int32))) (ty := .int) C hP hD hS 0 3 3 i_Loads t_Loads_ok n_Loads rfl rfl (by decide) (hk_in (by decide +kernel) rfl) rfl (by decide +kernel) rfl rfl (Nat.le_of_ble_eq_true rfl) rfl d_Loads_add_39 (fun H locs hP hD hS => ?_)
    obtain ⟨U3, hU3⟩ : ∃ z, (f_Loads_add_39 U2) = z := ⟨_, rfl⟩
    rw [hU3] at hP hD
    refine lv_aload_n hx hb d_Loads_add_42 rfl (lv_at hl 0 rfl) ?_
    refine hk_get (v := .int (l3 U3)) C hP 0 3 3 i_Loads rfl rfl (by decide) (hk_in (by decide +kernel) rfl) rfl d_Loads_add_43 ?_
    subst hU1 hU2 hU3
    have e : m_Loads_add p1 p2 u = (l3 (f_Loads_add_39 (f_Loads_add_31 p2 (f_Loads_add_21 p1 u))), (f_Loads_add_39 (f_Loads_add_31 p2 (f_Loads_add_21 p1 u)))) := (if_pos c_1).trans (rfl)
    exact hk_ri C hAe hP hD hS (by rw [e]) (by rw [e]) d_Loads_add_46
  · skip
    refine lv_bipush (v := (-4 : Int32)) hx hb d_Loads_add_9 (by decide) ?_
    have e : m_Loads_add p1 p2 u = ((-4 : Int32), u) := (if_neg c_1).trans (rfl)
    exact hk_ri C hAe hP hD hS (by rw [e]) (by rw [e]) d_Loads_add_11
theorem Y_Loads_has : hk_Y y_Loads_has b_Loads_has 2 (some .boolean) 1 := ⟨hk_in (by decide +kernel) rfl, hk_in (by decide +kernel) rfl, hk_in (by decide +kernel) rfl, hk_in (List.mem_of_getElem? (i := 382) rfl) rfl, by decide, by decide, by decide +kernel⟩
abbrev rm_Loads_has : Room := { frames := 0, cells := 0, slots := 0, locals := 0 }
set_option maxHeartbeats 4000000 in
set_option maxRecDepth 100000 in
theorem c_Loads_has (l : Launch) (G : hk_G) (a0 a1 a2 a3 : Nat) (u : cL) (p1 : Int32) (hI : IL u) : hk_I l G y_Loads_has b_Loads_has 2 (some .boolean) rm_Loads_has [.ref a0, .int p1] (wL G a0 a1 a2 a3 u) (m_Loads_has p1 u) (wL G a0 a1 a2 a3 u) := by
  refine hk_I_of (by decide) (Nat.le_of_ble_eq_true rfl) ?_
  intro p e s m below meth c A ls C hAe hA hP hD hS hl
  have hx := C.1
  have hb := C.2.1
  have hown := C.2.2.2.2.1
  have hts := C.2.2.2.2.2.1
  have hE := C.2.2.2.2.2.2.2
  have hl : lv_has ls 2 [(0, .ref a0), (1, .int p1)] := hl
  refine lv_iload_n hx hb d_Loads_has_0 rfl (lv_at hl 1 rfl) ?_
  refine lv_iconst (v := (1 : Int32)) hx hb d_Loads_has_1 (by decide) ?_
  refine lv_icmp_lt (tgt := 17) hx hb d_Loads_has_2 (by decide) (fun c_1 => ?_) (fun c_1 => ?_)
  · skip
    refine lv_iconst (v := (0 : Int32)) hx hb d_Loads_has_17 (by decide) ?_
    have e : m_Loads_has p1 u = (0 : Int32) := (if_pos c_1).trans (rfl)
    exact hk_rz C hAe hP hD hS (Or.inl rfl) e.symm rfl d_Loads_has_18
  · skip
    refine lv_iload_n hx hb d_Loads_has_5 rfl (lv_at hl 1 rfl) ?_
    refine lv_aload_n hx hb d_Loads_has_6 rfl (lv_at hl 0 rfl) ?_
    refine hk_get (v := .int (l3 u)) C hP 0 3 3 i_Loads rfl rfl (by decide) (hk_in (by decide +kernel) rfl) rfl d_Loads_has_7 ?_
    refine lv_icmp_gt (tgt := 17) hx hb d_Loads_has_10 (by decide) (fun c_2 => ?_) (fun c_2 => ?_)
    · skip
      refine lv_iconst (v := (0 : Int32)) hx hb d_Loads_has_17 (by decide) ?_
      have e : m_Loads_has p1 u = (0 : Int32) := (if_neg c_1).trans ((if_pos c_2).trans (rfl))
      exact hk_rz C hAe hP hD hS (Or.inl rfl) e.symm rfl d_Loads_has_18
    · skip
      refine lv_iconst (v := (1 : Int32)) hx hb d_Loads_has_13 (by decide) ?_
      refine lv_goto (tgt := 18) hx hb d_Loads_has_14 (by decide) ?_
      have e : m_Loads_has p1 u = (1 : Int32) := (if_neg c_1).trans ((if_neg c_2).trans (rfl))
      exact hk_rz C hAe hP hD hS (Or.inr rfl) e.symm rfl d_Loads_has_18
theorem Y_Loads_runs : hk_Y y_Loads_runs b_Loads_runs 2 (some .boolean) 1 := ⟨hk_in (by decide +kernel) rfl, hk_in (by decide +kernel) rfl, hk_in (by decide +kernel) rfl, hk_in (List.mem_of_getElem? (i := 386) rfl) rfl, by decide, by decide, by decide +kernel⟩
abbrev rm_Loads_runs : Room := { frames := 1, cells := 0, slots := 0, locals := 21 }
set_option maxHeartbeats 4000000 in
set_option maxRecDepth 100000 in
theorem c_Loads_runs (l : Launch) (G : hk_G) (a0 a1 a2 a3 : Nat) (u : cL) (p1 : Int32) (hI : IL u) : hk_I l G y_Loads_runs b_Loads_runs 2 (some .boolean) rm_Loads_runs [.ref a0, .int p1] (wL G a0 a1 a2 a3 u) (m_Loads_runs p1 u) (wL G a0 a1 a2 a3 u) := by
  refine hk_I_of (by decide) (Nat.le_of_ble_eq_true rfl) ?_
  intro p e s m below meth c A ls C hAe hA hP hD hS hl
  have hx := C.1
  have hb := C.2.1
  have hown := C.2.2.2.2.1
  have hts := C.2.2.2.2.2.1
  have hE := C.2.2.2.2.2.2.2
  have hl : lv_has ls 2 [(0, .ref a0), (1, .int p1)] := hl
  refine lv_aload_n hx hb d_Loads_runs_0 rfl (lv_at hl 0 rfl) ?_
  refine lv_iload_n hx hb d_Loads_runs_1 rfl (lv_at hl 1 rfl) ?_
  refine hk_goI (hk_kV (k := 1) (As := [.int p1]) (rest := []) C (c_Loads_has l G a0 a1 a2 a3 u p1 hI _) Y_Loads_has (hk_in (by decide +kernel) rfl) rfl rfl ⟨Nat.le_of_ble_eq_true rfl, Nat.le_of_ble_eq_true rfl⟩ (va_recv hE.1 hP (ci := 3) (q0 := 0) rfl rfl) hP hD rfl hl.1 rfl (Nat.le_of_ble_eq_true rfl) d_Loads_runs_2 ⟨Nat.zero_le _, Nat.zero_le _⟩) hD hS hA (fun H locs hP hD hS => ?_)
  refine lv_if_eq (tgt := 23) hx hb d_Loads_runs_5 (by decide) (fun c_1 => ?_) (fun c_1 => ?_)
  · skip
    refine lv_iconst (v := (0 : Int32)) hx hb d_Loads_runs_23 (by decide) ?_
    have e : m_Loads_runs p1 u = (0 : Int32) := (if_pos c_1).trans (rfl)
    exact hk_rz C hAe hP hD hS (Or.inl rfl) e.symm rfl d_Loads_runs_24
  · skip
    refine lv_aload_n hx hb d_Loads_runs_8 rfl (lv_at hl 0 rfl) ?_
    refine hk_get (v := .ref a3) C hP 0 3 2 i_Loads rfl rfl (by decide) (hk_in (by decide +kernel) rfl) rfl d_Loads_runs_9 ?_
    refine lv_iload_n hx hb d_Loads_runs_12 rfl (lv_at hl 1 rfl) ?_
    refine lv_iconst (v := (1 : Int32)) hx hb d_Loads_runs_13 (by decide) ?_
    refine lv_isub hx hb d_Loads_runs_14 ?_
    refine hk_zld C hP 3 1 (v := (l2 u) (p1 - (1 : Int32)).toNatClampNeg) rfl rfl (hk_inR hI c_1) rfl d_Loads_runs_15 ?_
    refine lv_if_ne (tgt := 23) hx hb d_Loads_runs_16 (by decide) (fun c_2 => ?_) (fun c_2 => ?_)
    · skip
      refine lv_iconst (v := (0 : Int32)) hx hb d_Loads_runs_23 (by decide) ?_
      have e : m_Loads_runs p1 u = (0 : Int32) := (if_neg c_1).trans ((if_neg c_2).trans (rfl))
      exact hk_rz C hAe hP hD hS (Or.inl rfl) e.symm rfl d_Loads_runs_24
    · skip
      refine lv_iconst (v := (1 : Int32)) hx hb d_Loads_runs_19 (by decide) ?_
      refine lv_goto (tgt := 24) hx hb d_Loads_runs_20 (by decide) ?_
      have e : m_Loads_runs p1 u = (1 : Int32) := (if_neg c_1).trans ((if_pos c_2).trans (rfl))
      exact hk_rz C hAe hP hD hS (Or.inr rfl) e.symm rfl d_Loads_runs_24
theorem Y_Loads_countOff : hk_Y y_Loads_countOff b_Loads_countOff 3 (some .int) 0 := ⟨hk_in (by decide +kernel) rfl, hk_in (by decide +kernel) rfl, hk_in (by decide +kernel) rfl, hk_in (List.mem_of_getElem? (i := 366) rfl) rfl, by decide, by decide, by decide +kernel⟩
abbrev rm_Loads_countOff : Room := { frames := 0, cells := 0, slots := 0, locals := 0 }
set_option maxHeartbeats 4000000 in
set_option maxRecDepth 100000 in
theorem lp_Loads_countOff_4 {p : Program} {l : Launch} {e : Env} {s : State} {m : MethodId} {below : List Frame} {meth : Method} {c : Code} {A : Nat → Prop} {Q : State → Prop} (G : hk_G) (a0 a1 a2 a3 : Nat) (u : cL) (hI : IL u) (C : hk_C p s m meth c R_Loads b_Loads_countOff 3 (some .int) ([.ref a0] : List Value).toArray G) (hA : ∀ q : Nat, s.heap.size ≤ q → A q) (n : Nat) (hn : n < 2 ^ 31) (hbn : l3 u = nI n) (hn12 : n ≤ 12)
    (kx : ∀ (H : Heap) (locs : List Loc) (ls : Array Slot), va_P (hk_D G) classes (wL G a0 a1 a2 a3 u) H → va_D A (wL G a0 a1 a2 a3 u) → va_S A s.heap H locs → lv_has ls 3 [(0, .ref a0), (1, .int (li_Loads_countOff_4 u n)), (2, .int (nI n))] → W p l e rm_Loads_countOff s m ([.ref a0] : List Value).toArray below meth c H locs 0 0 Q (F0 m 30 ls [])) :
    ∀ (j k : Nat), k ≤ n → n + 1 ≤ k + j → ∀ (H : Heap) (locs : List Loc) (ls : Array Slot), va_P (hk_D G) classes (wL G a0 a1 a2 a3 u) H → va_D A (wL G a0 a1 a2 a3 u) → va_S A s.heap H locs → lv_has ls 3 [(0, .ref a0), (1, .int (li_Loads_countOff_4 u k)), (2, .int (nI k))] → W p l e rm_Loads_countOff s m ([.ref a0] : List Value).toArray below meth c H locs 0 0 Q (F0 m 4 ls []) := by
  have hx := C.1
  have hb := C.2.1
  have hown := C.2.2.2.2.1
  have hts := C.2.2.2.2.2.1
  have hE := C.2.2.2.2.2.2.2
  intro j
  induction j with
  | zero =>
    intro k h1 h2
    exact absurd h2 (by omega)
  | succ j ih =>
    intro k hkn hj H locs ls hP hD hS hl
    refine lv_iload_n hx hb d_Loads_countOff_4 rfl (lv_at hl 2 rfl) ?_
    refine lv_aload_n hx hb d_Loads_countOff_5 rfl (lv_at hl 0 rfl) ?_
    refine hk_get (v := .int (l3 u)) C hP 0 3 3 i_Loads rfl rfl (by decide) (hk_in (by decide +kernel) rfl) rfl d_Loads_countOff_6 ?_
    refine lv_icmp_ge (tgt := 30) hx hb d_Loads_countOff_9 (by decide) (fun c_0 => ?_) (fun c_0 => ?_)
    · obtain rfl := hk_exit (n := n) hbn hn hkn c_0
      exact kx H locs ls hP hD hS (lv_sub hl [0, 1, 2] rfl)
    · have hlt := hk_stay (n := n) hbn hn hkn c_0
      refine lv_aload_n hx hb d_Loads_countOff_12 rfl (lv_at hl 0 rfl) ?_
      refine hk_get (v := .ref a3) C hP 0 3 2 i_Loads rfl rfl (by decide) (hk_in (by decide +kernel) rfl) rfl d_Loads_countOff_13 ?_
      refine lv_iload_n hx hb d_Loads_countOff_16 rfl (lv_at hl 2 rfl) ?_
      refine hk_zld C hP 3 1 (v := (l2 u) k) rfl rfl (vp_in_nI (by omega) (by decide)) (congrArg _ (nI_clamp (by omega))) d_Loads_countOff_17 ?_
      refine lv_if_eq (tgt := 24) hx hb d_Loads_countOff_18 (by decide) (fun c_1 => ?_) (fun c_1 => ?_)
      · skip
        refine lv_iinc (v := nI (k + 1)) (lv' := [(2, .int (nI (k + 1))), (0, .ref a0), (1, .int (li_Loads_countOff_4 u k))]) hx hb d_Loads_countOff_24 hl (k := 2) rfl (nI_1 k) (by decide) rfl (fun ls hl => ?_)
        refine lv_goto (tgt := 4) hx hb d_Loads_countOff_27 (by decide) ?_
        have e : li_Loads_countOff_4 u (k + 1) = (li_Loads_countOff_4 u k) := (if_pos c_1).trans (rfl)
        exact ih (k + 1) hlt (by omega) _ _ _ hP hD hS (by rw [e]; exact lv_sub hl [1, 2, 0] rfl)
      · skip
        refine lv_iinc (v := (li_Loads_countOff_4 u k) + (1 : Int32)) (lv' := [(1, .int ((li_Loads_countOff_4 u k) + (1 : Int32))), (0, .ref a0), (2, .int (nI k))]) hx hb d_Loads_countOff_21 hl (k := 1) rfl rfl (by decide) rfl (fun ls hl => ?_)
        refine lv_iinc (v := nI (k + 1)) (lv' := [(2, .int (nI (k + 1))), (1, .int ((li_Loads_countOff_4 u k) + (1 : Int32))), (0, .ref a0)]) hx hb d_Loads_countOff_24 hl (k := 2) rfl (nI_1 k) (by decide) rfl (fun ls hl => ?_)
        refine lv_goto (tgt := 4) hx hb d_Loads_countOff_27 (by decide) ?_
        have e : li_Loads_countOff_4 u (k + 1) = (li_Loads_countOff_4 u k) + (1 : Int32) := (if_neg c_1).trans (rfl)
        exact ih (k + 1) hlt (by omega) _ _ _ hP hD hS (by rw [e]; exact lv_sub hl [2, 1, 0] rfl)
set_option maxHeartbeats 4000000 in
set_option maxRecDepth 100000 in
theorem c_Loads_countOff (l : Launch) (G : hk_G) (a0 a1 a2 a3 : Nat) (u : cL) (hI : IL u) : hk_I l G y_Loads_countOff b_Loads_countOff 3 (some .int) rm_Loads_countOff [.ref a0] (wL G a0 a1 a2 a3 u) (m_Loads_countOff u) (wL G a0 a1 a2 a3 u) := by
  refine hk_I_of (by decide) (Nat.le_of_ble_eq_true rfl) ?_
  intro p e s m below meth c A ls C hAe hA hP hD hS hl
  have hx := C.1
  have hb := C.2.1
  have hown := C.2.2.2.2.1
  have hts := C.2.2.2.2.2.1
  have hE := C.2.2.2.2.2.2.2
  have hl : lv_has ls 3 [(0, .ref a0)] := hl
  refine lv_iconst (v := (0 : Int32)) hx hb d_Loads_countOff_0 (by decide) ?_
  refine lv_istore_n (lv' := [(1, .int (0 : Int32)), (0, .ref a0)]) hx hb d_Loads_countOff_1 rfl hl (by decide) rfl (fun ls hl => ?_)
  refine lv_iconst (v := (0 : Int32)) hx hb d_Loads_countOff_2 (by decide) ?_
  refine lv_istore_n (lv' := [(2, .int (0 : Int32)), (1, .int (0 : Int32)), (0, .ref a0)]) hx hb d_Loads_countOff_3 rfl hl (by decide) rfl (fun ls hl => ?_)
  refine lp_Loads_countOff_4 G a0 a1 a2 a3 u hI C hA ((l3 u).toNatClampNeg) (Nat.lt_of_le_of_lt hI.1 (by decide)) hI.2 hI.1 (fun H locs ls hP hD hS hl => ?_) (((l3 u).toNatClampNeg) + 1) 0 (Nat.zero_le _) (by omega) _ _ _ hP hD hS (lv_sub hl [2, 1, 0] rfl)
  refine lv_iload_n hx hb d_Loads_countOff_30 rfl (lv_at hl 1 rfl) ?_
  have e : m_Loads_countOff u = li_Loads_countOff_4 u ((l3 u).toNatClampNeg) := rfl
  exact hk_ri C hAe hP hD hS e.symm rfl d_Loads_countOff_31
theorem Y_Loads_setOff : hk_Y y_Loads_setOff b_Loads_setOff 3 none 2 := ⟨hk_in (by decide +kernel) rfl, hk_in (by decide +kernel) rfl, hk_in (by decide +kernel) rfl, hk_in (List.mem_of_getElem? (i := 358) rfl) rfl, by decide, by decide, by decide +kernel⟩
abbrev rm_Loads_setOff : Room := { frames := 0, cells := 0, slots := 0, locals := 0 }
set_option maxHeartbeats 4000000 in
set_option maxRecDepth 100000 in
theorem c_Loads_setOff (l : Launch) (G : hk_G) (a0 a1 a2 a3 : Nat) (u : cL) (p1 : Int32) (p2 : Int32) (hI : IL u) (h01 : p2 = 0 ∨ p2 = 1) (hi : p1 = -1 ∨ ∃ j : Nat, j < 12 ∧ p1 = nI j) : hk_V l G y_Loads_setOff b_Loads_setOff 3 rm_Loads_setOff [.ref a0, .int p1, .int p2] (wL G a0 a1 a2 a3 u) (wL G a0 a1 a2 a3 (m_Loads_setOff p1 p2 u)) := by
  refine hk_V_of (by decide) (Nat.le_of_ble_eq_true rfl) ?_
  intro p e s m below meth c A ls C hAe hA hP hD hS hl
  have hx := C.1
  have hb := C.2.1
  have hown := C.2.2.2.2.1
  have hts := C.2.2.2.2.2.1
  have hE := C.2.2.2.2.2.2.2
  have hl : lv_has ls 3 [(0, .ref a0), (1, .int p1), (2, .int p2)] := hl
  refine lv_iload_n hx hb d_Loads_setOff_0 rfl (lv_at hl 1 rfl) ?_
  refine lv_iconst (v := (-1 : Int32)) hx hb d_Loads_setOff_1 (by decide) ?_
  refine lv_icmp_eq (tgt := 12) hx hb d_Loads_setOff_2 (by decide) (fun c_1 => ?_) (fun c_1 => ?_)
  · skip
    have e : m_Loads_setOff p1 p2 u = u := (if_pos c_1).trans (rfl)
    exact hk_rv C hAe hP hD hS (by rw [e]) d_Loads_setOff_12
  · skip
    refine lv_aload_n hx hb d_Loads_setOff_5 rfl (lv_at hl 0 rfl) ?_
    refine hk_get (v := .ref a3) C hP 0 3 2 i_Loads rfl rfl (by decide) (hk_in (by decide +kernel) rfl) rfl d_Loads_setOff_6 ?_
    refine lv_iload_n hx hb d_Loads_setOff_9 rfl (lv_at hl 1 rfl) ?_
    refine lv_iload_n hx hb d_Loads_setOff_10 rfl (lv_at hl 2 rfl) ?_
    refine hk_zst (w2 := wL G a0 a1 a2 a3 (f_Loads_setOff_11 p1 p2 u)) C hP hD hS 3 1 rfl rfl (hk_in12 hi c_1) h01 rfl d_Loads_setOff_11 (fun H locs hP hD hS => ?_)
    have hI1 : IL (f_Loads_setOff_11 p1 p2 u) := (IL_of (k3_f_Loads_setOff_11 _ _ _) hI)
    obtain ⟨U1, hU1⟩ : ∃ z, (f_Loads_setOff_11 p1 p2 u) = z := ⟨_, rfl⟩
    rw [hU1] at hP hD hI1
    subst hU1
    have e : m_Loads_setOff p1 p2 u = (f_Loads_setOff_11 p1 p2 u) := (if_neg c_1).trans (rfl)
    exact hk_rv C hAe hP hD hS (by rw [e]) d_Loads_setOff_12
theorem Y_Loads_findNextToShed : hk_Y y_Loads_findNextToShed b_Loads_findNextToShed 3 (some .int) 0 := ⟨hk_in (by decide +kernel) rfl, hk_in (by decide +kernel) rfl, hk_in (by decide +kernel) rfl, hk_in (List.mem_of_getElem? (i := 354) rfl) rfl, by decide, by decide, by decide +kernel⟩
abbrev rm_Loads_findNextToShed : Room := { frames := 0, cells := 0, slots := 0, locals := 0 }
set_option maxHeartbeats 4000000 in
set_option maxRecDepth 100000 in
theorem lp_Loads_findNextToShed_4 {p : Program} {l : Launch} {e : Env} {s : State} {m : MethodId} {below : List Frame} {meth : Method} {c : Code} {A : Nat → Prop} {Q : State → Prop} (G : hk_G) (a0 a1 a2 a3 : Nat) (u : cL) (hI : IL u) (C : hk_C p s m meth c R_Loads b_Loads_findNextToShed 3 (some .int) ([.ref a0] : List Value).toArray G) (hA : ∀ q : Nat, s.heap.size ≤ q → A q) (n : Nat) (hn : n < 2 ^ 31) (hbn : l3 u = nI n) (hn12 : n ≤ 12)
    (kx : ∀ (H : Heap) (locs : List Loc) (ls : Array Slot), va_P (hk_D G) classes (wL G a0 a1 a2 a3 u) H → va_D A (wL G a0 a1 a2 a3 u) → va_S A s.heap H locs → lv_has ls 3 [(0, .ref a0), (1, .int (li_Loads_findNextToShed_4 u n)), (2, .int (nI n))] → W p l e rm_Loads_findNextToShed s m ([.ref a0] : List Value).toArray below meth c H locs 0 0 Q (F0 m 58 ls [])) :
    ∀ (j k : Nat), k ≤ n → n + 1 ≤ k + j → ∀ (H : Heap) (locs : List Loc) (ls : Array Slot), va_P (hk_D G) classes (wL G a0 a1 a2 a3 u) H → va_D A (wL G a0 a1 a2 a3 u) → va_S A s.heap H locs → lv_has ls 3 [(0, .ref a0), (1, .int (li_Loads_findNextToShed_4 u k)), (2, .int (nI k))] → W p l e rm_Loads_findNextToShed s m ([.ref a0] : List Value).toArray below meth c H locs 0 0 Q (F0 m 4 ls []) := by
  have hx := C.1
  have hb := C.2.1
  have hown := C.2.2.2.2.1
  have hts := C.2.2.2.2.2.1
  have hE := C.2.2.2.2.2.2.2
  intro j
  induction j with
  | zero =>
    intro k h1 h2
    exact absurd h2 (by omega)
  | succ j ih =>
    intro k hkn hj H locs ls hP hD hS hl
    refine lv_iload_n hx hb d_Loads_findNextToShed_4 rfl (lv_at hl 2 rfl) ?_
    refine lv_aload_n hx hb d_Loads_findNextToShed_5 rfl (lv_at hl 0 rfl) ?_
    refine hk_get (v := .int (l3 u)) C hP 0 3 3 i_Loads rfl rfl (by decide) (hk_in (by decide +kernel) rfl) rfl d_Loads_findNextToShed_6 ?_
    refine lv_icmp_ge (tgt := 58) hx hb d_Loads_findNextToShed_9 (by decide) (fun c_0 => ?_) (fun c_0 => ?_)
    · obtain rfl := hk_exit (n := n) hbn hn hkn c_0
      exact kx H locs ls hP hD hS (lv_sub hl [0, 1, 2] rfl)
    · have hlt := hk_stay (n := n) hbn hn hkn c_0
      have hf := fd_shed u k (by omega)
      refine lv_aload_n hx hb d_Loads_findNextToShed_12 rfl (lv_at hl 0 rfl) ?_
      refine hk_get (v := .ref a3) C hP 0 3 2 i_Loads rfl rfl (by decide) (hk_in (by decide +kernel) rfl) rfl d_Loads_findNextToShed_13 ?_
      refine lv_iload_n hx hb d_Loads_findNextToShed_16 rfl (lv_at hl 2 rfl) ?_
      refine hk_zld C hP 3 1 (v := (l2 u) k) rfl rfl (vp_in_nI (by omega) (by decide)) (congrArg _ (nI_clamp (by omega))) d_Loads_findNextToShed_17 ?_
      refine lv_if_ne (tgt := 52) hx hb d_Loads_findNextToShed_18 (by decide) (fun c_1 => ?_) (fun c_1 => ?_)
      · skip
        refine lv_iinc (v := nI (k + 1)) (lv' := [(2, .int (nI (k + 1))), (0, .ref a0), (1, .int (li_Loads_findNextToShed_4 u k))]) hx hb d_Loads_findNextToShed_52 hl (k := 2) rfl (nI_1 k) (by decide) rfl (fun ls hl => ?_)
        refine lv_goto (tgt := 4) hx hb d_Loads_findNextToShed_55 (by decide) ?_
        have e : li_Loads_findNextToShed_4 u (k + 1) = (li_Loads_findNextToShed_4 u k) := (if_neg c_1).trans (rfl)
        exact ih (k + 1) hlt (by omega) _ _ _ hP hD hS (by rw [e]; exact lv_sub hl [1, 2, 0] rfl)
      · skip
        refine lv_aload_n hx hb d_Loads_findNextToShed_21 rfl (lv_at hl 0 rfl) ?_
        refine hk_get (v := .ref a2) C hP 0 3 1 i_Loads rfl rfl (by decide) (hk_in (by decide +kernel) rfl) rfl d_Loads_findNextToShed_22 ?_
        refine lv_iload_n hx hb d_Loads_findNextToShed_25 rfl (lv_at hl 2 rfl) ?_
        refine hk_zld C hP 2 1 (v := (l1 u) k) rfl rfl (vp_in_nI (by omega) (by decide)) (congrArg _ (nI_clamp (by omega))) d_Loads_findNextToShed_26 ?_
        refine lv_if_ne (tgt := 52) hx hb d_Loads_findNextToShed_27 (by decide) (fun c_2 => ?_) (fun c_2 => ?_)
        · skip
          refine lv_iinc (v := nI (k + 1)) (lv' := [(2, .int (nI (k + 1))), (0, .ref a0), (1, .int (li_Loads_findNextToShed_4 u k))]) hx hb d_Loads_findNextToShed_52 hl (k := 2) rfl (nI_1 k) (by decide) rfl (fun ls hl => ?_)
          refine lv_goto (tgt := 4) hx hb d_Loads_findNextToShed_55 (by decide) ?_
          have e : li_Loads_findNextToShed_4 u (k + 1) = (li_Loads_findNextToShed_4 u k) := (if_pos c_1).trans ((if_neg c_2).trans (rfl))
          exact ih (k + 1) hlt (by omega) _ _ _ hP hD hS (by rw [e]; exact lv_sub hl [1, 2, 0] rfl)
        · skip
          refine lv_iload_n hx hb d_Loads_findNextToShed_30 rfl (lv_at hl 1 rfl) ?_
          refine lv_iconst (v := (-1 : Int32)) hx hb d_Loads_findNextToShed_31 (by decide) ?_
          refine lv_icmp_eq (tgt := 50) hx hb d_Loads_findNextToShed_32 (by decide) (fun c_3 => ?_) (fun c_3 => ?_)
          · skip
            refine lv_iload_n hx hb d_Loads_findNextToShed_50 rfl (lv_at hl 2 rfl) ?_
            refine lv_istore_n (lv' := [(1, .int (nI k)), (0, .ref a0), (2, .int (nI k))]) hx hb d_Loads_findNextToShed_51 rfl hl (by decide) rfl (fun ls hl => ?_)
            refine lv_iinc (v := nI (k + 1)) (lv' := [(2, .int (nI (k + 1))), (1, .int (nI k)), (0, .ref a0)]) hx hb d_Loads_findNextToShed_52 hl (k := 2) rfl (nI_1 k) (by decide) rfl (fun ls hl => ?_)
            refine lv_goto (tgt := 4) hx hb d_Loads_findNextToShed_55 (by decide) ?_
            have e : li_Loads_findNextToShed_4 u (k + 1) = nI k := (if_pos c_1).trans ((if_pos c_2).trans ((if_pos c_3).trans (rfl)))
            exact ih (k + 1) hlt (by omega) _ _ _ hP hD hS (by rw [e]; exact lv_sub hl [2, 1, 0] rfl)
          · skip
            refine lv_aload_n hx hb d_Loads_findNextToShed_35 rfl (lv_at hl 0 rfl) ?_
            refine hk_get (v := .ref a1) C hP 0 3 0 i_Loads rfl rfl (by decide) (hk_in (by decide +kernel) rfl) rfl d_Loads_findNextToShed_36 ?_
            refine lv_iload_n hx hb d_Loads_findNextToShed_39 rfl (lv_at hl 2 rfl) ?_
            refine hk_ild C hP 1 0 (v := (l0 u) k) rfl rfl (vp_in_nI (by omega) (by decide)) (congrArg _ (nI_clamp (by omega))) d_Loads_findNextToShed_40 ?_
            refine lv_aload_n hx hb d_Loads_findNextToShed_41 rfl (lv_at hl 0 rfl) ?_
            refine hk_get (v := .ref a1) C hP 0 3 0 i_Loads rfl rfl (by decide) (hk_in (by decide +kernel) rfl) rfl d_Loads_findNextToShed_42 ?_
            refine lv_iload_n hx hb d_Loads_findNextToShed_45 rfl (lv_at hl 1 rfl) ?_
            refine hk_ild C hP 1 0 (v := (l0 u) (li_Loads_findNextToShed_4 u k).toNatClampNeg) rfl rfl (hk_in12 hf c_3) rfl d_Loads_findNextToShed_46 ?_
            refine lv_icmp_lt (tgt := 52) hx hb d_Loads_findNextToShed_47 (by decide) (fun c_4 => ?_) (fun c_4 => ?_)
            · skip
              refine lv_iinc (v := nI (k + 1)) (lv' := [(2, .int (nI (k + 1))), (0, .ref a0), (1, .int (li_Loads_findNextToShed_4 u k))]) hx hb d_Loads_findNextToShed_52 hl (k := 2) rfl (nI_1 k) (by decide) rfl (fun ls hl => ?_)
              refine lv_goto (tgt := 4) hx hb d_Loads_findNextToShed_55 (by decide) ?_
              have e : li_Loads_findNextToShed_4 u (k + 1) = (li_Loads_findNextToShed_4 u k) := (if_pos c_1).trans ((if_pos c_2).trans ((if_neg c_3).trans ((if_pos c_4).trans (rfl))))
              exact ih (k + 1) hlt (by omega) _ _ _ hP hD hS (by rw [e]; exact lv_sub hl [1, 2, 0] rfl)
            · skip
              refine lv_iload_n hx hb d_Loads_findNextToShed_50 rfl (lv_at hl 2 rfl) ?_
              refine lv_istore_n (lv' := [(1, .int (nI k)), (0, .ref a0), (2, .int (nI k))]) hx hb d_Loads_findNextToShed_51 rfl hl (by decide) rfl (fun ls hl => ?_)
              refine lv_iinc (v := nI (k + 1)) (lv' := [(2, .int (nI (k + 1))), (1, .int (nI k)), (0, .ref a0)]) hx hb d_Loads_findNextToShed_52 hl (k := 2) rfl (nI_1 k) (by decide) rfl (fun ls hl => ?_)
              refine lv_goto (tgt := 4) hx hb d_Loads_findNextToShed_55 (by decide) ?_
              have e : li_Loads_findNextToShed_4 u (k + 1) = nI k := (if_pos c_1).trans ((if_pos c_2).trans ((if_neg c_3).trans ((if_neg c_4).trans (rfl))))
              exact ih (k + 1) hlt (by omega) _ _ _ hP hD hS (by rw [e]; exact lv_sub hl [2, 1, 0] rfl)
set_option maxHeartbeats 4000000 in
set_option maxRecDepth 100000 in
theorem c_Loads_findNextToShed (l : Launch) (G : hk_G) (a0 a1 a2 a3 : Nat) (u : cL) (hI : IL u) : hk_I l G y_Loads_findNextToShed b_Loads_findNextToShed 3 (some .int) rm_Loads_findNextToShed [.ref a0] (wL G a0 a1 a2 a3 u) (m_Loads_findNextToShed u) (wL G a0 a1 a2 a3 u) := by
  refine hk_I_of (by decide) (Nat.le_of_ble_eq_true rfl) ?_
  intro p e s m below meth c A ls C hAe hA hP hD hS hl
  have hx := C.1
  have hb := C.2.1
  have hown := C.2.2.2.2.1
  have hts := C.2.2.2.2.2.1
  have hE := C.2.2.2.2.2.2.2
  have hl : lv_has ls 3 [(0, .ref a0)] := hl
  refine lv_iconst (v := (-1 : Int32)) hx hb d_Loads_findNextToShed_0 (by decide) ?_
  refine lv_istore_n (lv' := [(1, .int (-1 : Int32)), (0, .ref a0)]) hx hb d_Loads_findNextToShed_1 rfl hl (by decide) rfl (fun ls hl => ?_)
  refine lv_iconst (v := (0 : Int32)) hx hb d_Loads_findNextToShed_2 (by decide) ?_
  refine lv_istore_n (lv' := [(2, .int (0 : Int32)), (1, .int (-1 : Int32)), (0, .ref a0)]) hx hb d_Loads_findNextToShed_3 rfl hl (by decide) rfl (fun ls hl => ?_)
  refine lp_Loads_findNextToShed_4 G a0 a1 a2 a3 u hI C hA ((l3 u).toNatClampNeg) (Nat.lt_of_le_of_lt hI.1 (by decide)) hI.2 hI.1 (fun H locs ls hP hD hS hl => ?_) (((l3 u).toNatClampNeg) + 1) 0 (Nat.zero_le _) (by omega) _ _ _ hP hD hS (lv_sub hl [2, 1, 0] rfl)
  refine lv_iload_n hx hb d_Loads_findNextToShed_58 rfl (lv_at hl 1 rfl) ?_
  have e : m_Loads_findNextToShed u = li_Loads_findNextToShed_4 u ((l3 u).toNatClampNeg) := rfl
  exact hk_ri C hAe hP hD hS e.symm rfl d_Loads_findNextToShed_59
theorem Y_Loads_findNextToRestore : hk_Y y_Loads_findNextToRestore b_Loads_findNextToRestore 3 (some .int) 0 := ⟨hk_in (by decide +kernel) rfl, hk_in (by decide +kernel) rfl, hk_in (by decide +kernel) rfl, hk_in (List.mem_of_getElem? (i := 362) rfl) rfl, by decide, by decide, by decide +kernel⟩
abbrev rm_Loads_findNextToRestore : Room := { frames := 0, cells := 0, slots := 0, locals := 0 }
set_option maxHeartbeats 4000000 in
set_option maxRecDepth 100000 in
theorem lp_Loads_findNextToRestore_4 {p : Program} {l : Launch} {e : Env} {s : State} {m : MethodId} {below : List Frame} {meth : Method} {c : Code} {A : Nat → Prop} {Q : State → Prop} (G : hk_G) (a0 a1 a2 a3 : Nat) (u : cL) (hI : IL u) (C : hk_C p s m meth c R_Loads b_Loads_findNextToRestore 3 (some .int) ([.ref a0] : List Value).toArray G) (hA : ∀ q : Nat, s.heap.size ≤ q → A q) (n : Nat) (hn : n < 2 ^ 31) (hbn : l3 u = nI n) (hn12 : n ≤ 12)
    (kx : ∀ (H : Heap) (locs : List Loc) (ls : Array Slot), va_P (hk_D G) classes (wL G a0 a1 a2 a3 u) H → va_D A (wL G a0 a1 a2 a3 u) → va_S A s.heap H locs → lv_has ls 3 [(0, .ref a0), (1, .int (li_Loads_findNextToRestore_4 u n)), (2, .int (nI n))] → W p l e rm_Loads_findNextToRestore s m ([.ref a0] : List Value).toArray below meth c H locs 0 0 Q (F0 m 49 ls [])) :
    ∀ (j k : Nat), k ≤ n → n + 1 ≤ k + j → ∀ (H : Heap) (locs : List Loc) (ls : Array Slot), va_P (hk_D G) classes (wL G a0 a1 a2 a3 u) H → va_D A (wL G a0 a1 a2 a3 u) → va_S A s.heap H locs → lv_has ls 3 [(0, .ref a0), (1, .int (li_Loads_findNextToRestore_4 u k)), (2, .int (nI k))] → W p l e rm_Loads_findNextToRestore s m ([.ref a0] : List Value).toArray below meth c H locs 0 0 Q (F0 m 4 ls []) := by
  have hx := C.1
  have hb := C.2.1
  have hown := C.2.2.2.2.1
  have hts := C.2.2.2.2.2.1
  have hE := C.2.2.2.2.2.2.2
  intro j
  induction j with
  | zero =>
    intro k h1 h2
    exact absurd h2 (by omega)
  | succ j ih =>
    intro k hkn hj H locs ls hP hD hS hl
    refine lv_iload_n hx hb d_Loads_findNextToRestore_4 rfl (lv_at hl 2 rfl) ?_
    refine lv_aload_n hx hb d_Loads_findNextToRestore_5 rfl (lv_at hl 0 rfl) ?_
    refine hk_get (v := .int (l3 u)) C hP 0 3 3 i_Loads rfl rfl (by decide) (hk_in (by decide +kernel) rfl) rfl d_Loads_findNextToRestore_6 ?_
    refine lv_icmp_ge (tgt := 49) hx hb d_Loads_findNextToRestore_9 (by decide) (fun c_0 => ?_) (fun c_0 => ?_)
    · obtain rfl := hk_exit (n := n) hbn hn hkn c_0
      exact kx H locs ls hP hD hS (lv_sub hl [0, 1, 2] rfl)
    · have hlt := hk_stay (n := n) hbn hn hkn c_0
      have hf := fd_rest u k (by omega)
      refine lv_aload_n hx hb d_Loads_findNextToRestore_12 rfl (lv_at hl 0 rfl) ?_
      refine hk_get (v := .ref a3) C hP 0 3 2 i_Loads rfl rfl (by decide) (hk_in (by decide +kernel) rfl) rfl d_Loads_findNextToRestore_13 ?_
      refine lv_iload_n hx hb d_Loads_findNextToRestore_16 rfl (lv_at hl 2 rfl) ?_
      refine hk_zld C hP 3 1 (v := (l2 u) k) rfl rfl (vp_in_nI (by omega) (by decide)) (congrArg _ (nI_clamp (by omega))) d_Loads_findNextToRestore_17 ?_
      refine lv_if_eq (tgt := 43) hx hb d_Loads_findNextToRestore_18 (by decide) (fun c_1 => ?_) (fun c_1 => ?_)
      · skip
        refine lv_iinc (v := nI (k + 1)) (lv' := [(2, .int (nI (k + 1))), (0, .ref a0), (1, .int (li_Loads_findNextToRestore_4 u k))]) hx hb d_Loads_findNextToRestore_43 hl (k := 2) rfl (nI_1 k) (by decide) rfl (fun ls hl => ?_)
        refine lv_goto (tgt := 4) hx hb d_Loads_findNextToRestore_46 (by decide) ?_
        have e : li_Loads_findNextToRestore_4 u (k + 1) = (li_Loads_findNextToRestore_4 u k) := (if_pos c_1).trans (rfl)
        exact ih (k + 1) hlt (by omega) _ _ _ hP hD hS (by rw [e]; exact lv_sub hl [1, 2, 0] rfl)
      · skip
        refine lv_iload_n hx hb d_Loads_findNextToRestore_21 rfl (lv_at hl 1 rfl) ?_
        refine lv_iconst (v := (-1 : Int32)) hx hb d_Loads_findNextToRestore_22 (by decide) ?_
        refine lv_icmp_eq (tgt := 41) hx hb d_Loads_findNextToRestore_23 (by decide) (fun c_2 => ?_) (fun c_2 => ?_)
        · skip
          refine lv_iload_n hx hb d_Loads_findNextToRestore_41 rfl (lv_at hl 2 rfl) ?_
          refine lv_istore_n (lv' := [(1, .int (nI k)), (0, .ref a0), (2, .int (nI k))]) hx hb d_Loads_findNextToRestore_42 rfl hl (by decide) rfl (fun ls hl => ?_)
          refine lv_iinc (v := nI (k + 1)) (lv' := [(2, .int (nI (k + 1))), (1, .int (nI k)), (0, .ref a0)]) hx hb d_Loads_findNextToRestore_43 hl (k := 2) rfl (nI_1 k) (by decide) rfl (fun ls hl => ?_)
          refine lv_goto (tgt := 4) hx hb d_Loads_findNextToRestore_46 (by decide) ?_
          have e : li_Loads_findNextToRestore_4 u (k + 1) = nI k := (if_neg c_1).trans ((if_pos c_2).trans (rfl))
          exact ih (k + 1) hlt (by omega) _ _ _ hP hD hS (by rw [e]; exact lv_sub hl [2, 1, 0] rfl)
        · skip
          refine lv_aload_n hx hb d_Loads_findNextToRestore_26 rfl (lv_at hl 0 rfl) ?_
          refine hk_get (v := .ref a1) C hP 0 3 0 i_Loads rfl rfl (by decide) (hk_in (by decide +kernel) rfl) rfl d_Loads_findNextToRestore_27 ?_
          refine lv_iload_n hx hb d_Loads_findNextToRestore_30 rfl (lv_at hl 2 rfl) ?_
          refine hk_ild C hP 1 0 (v := (l0 u) k) rfl rfl (vp_in_nI (by omega) (by decide)) (congrArg _ (nI_clamp (by omega))) d_Loads_findNextToRestore_31 ?_
          refine lv_aload_n hx hb d_Loads_findNextToRestore_32 rfl (lv_at hl 0 rfl) ?_
          refine hk_get (v := .ref a1) C hP 0 3 0 i_Loads rfl rfl (by decide) (hk_in (by decide +kernel) rfl) rfl d_Loads_findNextToRestore_33 ?_
          refine lv_iload_n hx hb d_Loads_findNextToRestore_36 rfl (lv_at hl 1 rfl) ?_
          refine hk_ild C hP 1 0 (v := (l0 u) (li_Loads_findNextToRestore_4 u k).toNatClampNeg) rfl rfl (hk_in12 hf c_2) rfl d_Loads_findNextToRestore_37 ?_
          refine lv_icmp_ge (tgt := 43) hx hb d_Loads_findNextToRestore_38 (by decide) (fun c_3 => ?_) (fun c_3 => ?_)
          · skip
            refine lv_iinc (v := nI (k + 1)) (lv' := [(2, .int (nI (k + 1))), (0, .ref a0), (1, .int (li_Loads_findNextToRestore_4 u k))]) hx hb d_Loads_findNextToRestore_43 hl (k := 2) rfl (nI_1 k) (by decide) rfl (fun ls hl => ?_)
            refine lv_goto (tgt := 4) hx hb d_Loads_findNextToRestore_46 (by decide) ?_
            have e : li_Loads_findNextToRestore_4 u (k + 1) = (li_Loads_findNextToRestore_4 u k) := (if_neg c_1).trans ((if_neg c_2).trans ((if_pos c_3).trans (rfl)))
            exact ih (k + 1) hlt (by omega) _ _ _ hP hD hS (by rw [e]; exact lv_sub hl [1, 2, 0] rfl)
          · skip
            refine lv_iload_n hx hb d_Loads_findNextToRestore_41 rfl (lv_at hl 2 rfl) ?_
            refine lv_istore_n (lv' := [(1, .int (nI k)), (0, .ref a0), (2, .int (nI k))]) hx hb d_Loads_findNextToRestore_42 rfl hl (by decide) rfl (fun ls hl => ?_)
            refine lv_iinc (v := nI (k + 1)) (lv' := [(2, .int (nI (k + 1))), (1, .int (nI k)), (0, .ref a0)]) hx hb d_Loads_findNextToRestore_43 hl (k := 2) rfl (nI_1 k) (by decide) rfl (fun ls hl => ?_)
            refine lv_goto (tgt := 4) hx hb d_Loads_findNextToRestore_46 (by decide) ?_
            have e : li_Loads_findNextToRestore_4 u (k + 1) = nI k := (if_neg c_1).trans ((if_neg c_2).trans ((if_neg c_3).trans (rfl)))
            exact ih (k + 1) hlt (by omega) _ _ _ hP hD hS (by rw [e]; exact lv_sub hl [2, 1, 0] rfl)
set_option maxHeartbeats 4000000 in
set_option maxRecDepth 100000 in
theorem c_Loads_findNextToRestore (l : Launch) (G : hk_G) (a0 a1 a2 a3 : Nat) (u : cL) (hI : IL u) : hk_I l G y_Loads_findNextToRestore b_Loads_findNextToRestore 3 (some .int) rm_Loads_findNextToRestore [.ref a0] (wL G a0 a1 a2 a3 u) (m_Loads_findNextToRestore u) (wL G a0 a1 a2 a3 u) := by
  refine hk_I_of (by decide) (Nat.le_of_ble_eq_true rfl) ?_
  intro p e s m below meth c A ls C hAe hA hP hD hS hl
  have hx := C.1
  have hb := C.2.1
  have hown := C.2.2.2.2.1
  have hts := C.2.2.2.2.2.1
  have hE := C.2.2.2.2.2.2.2
  have hl : lv_has ls 3 [(0, .ref a0)] := hl
  refine lv_iconst (v := (-1 : Int32)) hx hb d_Loads_findNextToRestore_0 (by decide) ?_
  refine lv_istore_n (lv' := [(1, .int (-1 : Int32)), (0, .ref a0)]) hx hb d_Loads_findNextToRestore_1 rfl hl (by decide) rfl (fun ls hl => ?_)
  refine lv_iconst (v := (0 : Int32)) hx hb d_Loads_findNextToRestore_2 (by decide) ?_
  refine lv_istore_n (lv' := [(2, .int (0 : Int32)), (1, .int (-1 : Int32)), (0, .ref a0)]) hx hb d_Loads_findNextToRestore_3 rfl hl (by decide) rfl (fun ls hl => ?_)
  refine lp_Loads_findNextToRestore_4 G a0 a1 a2 a3 u hI C hA ((l3 u).toNatClampNeg) (Nat.lt_of_le_of_lt hI.1 (by decide)) hI.2 hI.1 (fun H locs ls hP hD hS hl => ?_) (((l3 u).toNatClampNeg) + 1) 0 (Nat.zero_le _) (by omega) _ _ _ hP hD hS (lv_sub hl [2, 1, 0] rfl)
  refine lv_iload_n hx hb d_Loads_findNextToRestore_49 rfl (lv_at hl 1 rfl) ?_
  have e : m_Loads_findNextToRestore u = li_Loads_findNextToRestore_4 u ((l3 u).toNatClampNeg) := rfl
  exact hk_ri C hAe hP hD hS e.symm rfl d_Loads_findNextToRestore_50
