theorem Y_B_crash : hk_Y y_B_crash b_B_crash 2 (some .int) 0 := ⟨hk_in (by decide +kernel) rfl, hk_in (by decide +kernel) rfl, hk_in (by decide +kernel) rfl, hk_in (List.mem_of_getElem? (i := 412) rfl) rfl, by decide, by decide, by decide +kernel⟩
abbrev rm_B_crash : Room := { frames := 5, cells := 0, slots := 0, locals := 105 }
set_option maxHeartbeats 4000000 in
set_option maxRecDepth 100000 in
theorem tl_B_crash_25_4 {p : Program} {l : Launch} {e : Env} {s : State} {m : MethodId} {below : List Frame} {meth : Method} {c : Code} {A : Nat → Prop} {H : Heap} {locs : List Loc} {ls : Array Slot} {w0 w1 : va_W} {r : Int32} (G : hk_G) (ad : Nat → Nat) (u : cB) (hI : Iv u) (C : hk_C p s m meth c R_B b_B_crash 2 (some .int) ([.ref (ad 0)] : List Value).toArray G) (hAe : va_A w0 s.heap.size = A) (hA : ∀ q : Nat, s.heap.size ≤ q → A q) (hP : va_P (hk_D G) classes (wB G ad u) H) (hD : va_D A (wB G ad u)) (hS : va_S A s.heap H locs) (hl : lv_has ls 2 [(1, .int (4 : Int32)), (0, .ref (ad 0))]) (hr : r = (g_B_crash_25_4 u).1) (hw : w1 = wB G ad ((g_B_crash_25_4 u).2)) : W p l e rm_B_crash s m ([.ref (ad 0)] : List Value).toArray below meth c H locs 0 0 (MQ below (va_Qi (fun (x : Int32) (_ : Unit) => x = r) (hk_B G w0 w1 s.heap.size) A) ([.ref (ad 0)] : List Value).toArray s 0 0 A) (F0 m 25 ls []) := by
  subst hr
  subst hw
  have hx := C.1
  have hb := C.2.1
  have hown := C.2.2.2.2.1
  have hts := C.2.2.2.2.2.1
  have hE := C.2.2.2.2.2.2.2
  refine lv_iload_n hx hb d_B_crash_25 rfl (lv_at hl 0 rfl) ?_
  refine lv_iconst (v := (4 : Int32)) hx hb d_B_crash_26 (by decide) ?_
  refine lv_icmp_ge (tgt := 46) hx hb d_B_crash_27 (by decide) (fun c_1 => ?_) (fun c_1 => absurd (by decide) c_1)
  refine lv_aload_n hx hb d_B_crash_46 rfl (lv_at hl 1 rfl) ?_
  refine hk_goI (hk_kV (k := 0) (As := []) (rest := []) C (c_B_countChangedOutputs l G ad u hI _) Y_B_countChangedOutputs (hk_in (by decide +kernel) rfl) rfl rfl ⟨Nat.le_of_ble_eq_true rfl, Nat.le_of_ble_eq_true rfl⟩ (va_recv hE.1 hP (ci := 4) (q0 := 0) rfl rfl) hP hD rfl hl.1 rfl (Nat.le_of_ble_eq_true rfl) d_B_crash_47 ⟨Nat.zero_le _, Nat.zero_le _⟩) hD hS hA (fun H locs hP hD hS => ?_)
  have e : g_B_crash_25_4 u = (m_B_countChangedOutputs u, u) := rfl
  exact hk_ri C hAe hP hD hS (by rw [e]) (by rw [e]) d_B_crash_50
set_option maxHeartbeats 4000000 in
set_option maxRecDepth 100000 in
theorem tl_B_crash_25_3 {p : Program} {l : Launch} {e : Env} {s : State} {m : MethodId} {below : List Frame} {meth : Method} {c : Code} {A : Nat → Prop} {H : Heap} {locs : List Loc} {ls : Array Slot} {w0 w1 : va_W} {r : Int32} (G : hk_G) (ad : Nat → Nat) (u : cB) (hI : Iv u) (C : hk_C p s m meth c R_B b_B_crash 2 (some .int) ([.ref (ad 0)] : List Value).toArray G) (hAe : va_A w0 s.heap.size = A) (hA : ∀ q : Nat, s.heap.size ≤ q → A q) (hP : va_P (hk_D G) classes (wB G ad u) H) (hD : va_D A (wB G ad u)) (hS : va_S A s.heap H locs) (hl : lv_has ls 2 [(1, .int (3 : Int32)), (0, .ref (ad 0))]) (hr : r = (g_B_crash_25_3 u).1) (hw : w1 = wB G ad ((g_B_crash_25_3 u).2)) : W p l e rm_B_crash s m ([.ref (ad 0)] : List Value).toArray below meth c H locs 0 0 (MQ below (va_Qi (fun (x : Int32) (_ : Unit) => x = r) (hk_B G w0 w1 s.heap.size) A) ([.ref (ad 0)] : List Value).toArray s 0 0 A) (F0 m 25 ls []) := by
  subst hr
  subst hw
  have hx := C.1
  have hb := C.2.1
  have hown := C.2.2.2.2.1
  have hts := C.2.2.2.2.2.1
  have hE := C.2.2.2.2.2.2.2
  refine lv_iload_n hx hb d_B_crash_25 rfl (lv_at hl 0 rfl) ?_
  refine lv_iconst (v := (4 : Int32)) hx hb d_B_crash_26 (by decide) ?_
  refine lv_icmp_ge (tgt := 46) hx hb d_B_crash_27 (by decide) (fun c_1 => absurd c_1 (by decide)) (fun c_1 => ?_)
  refine lv_aload_n hx hb d_B_crash_30 rfl (lv_at hl 1 rfl) ?_
  refine hk_get (v := .ref (ad 8)) C hP 0 4 5 i_B rfl rfl (by decide) (hk_in (by decide +kernel) rfl) rfl d_B_crash_31 ?_
  refine lv_iload_n hx hb d_B_crash_34 rfl (lv_at hl 0 rfl) ?_
  refine hk_ald C hP 8 3 (v := (ad 12)) rfl rfl (hk_inl (by decide)) rfl d_B_crash_35 ?_
  refine lv_iconst (v := (0 : Int32)) hx hb d_B_crash_36 (by decide) ?_
  refine hk_putN (host := "BodyRows2") (w2 := wB G ad (f_B_crash_37_3 u)) (v := .int (0 : Int32)) (ty := .int) C hP hD hS 12 2 1 i_Window t_Window_ok n_Window rfl rfl (by decide) (by decide +kernel) rfl (by decide +kernel) rfl rfl (Nat.le_of_ble_eq_true rfl) rfl d_B_crash_37 (fun H locs hP hD hS => ?_)
  have hI1 : Iv (f_B_crash_37_3 u) := (Iv_of (k2_f_B_crash_37_3 _) (k6_f_B_crash_37_3 _) hI)
  obtain ⟨U1, hU1⟩ : ∃ z, (f_B_crash_37_3 u) = z := ⟨_, rfl⟩
  rw [hU1] at hP hD hI1
  refine lv_iinc (v := (4 : Int32)) (lv' := [(1, .int (4 : Int32)), (0, .ref (ad 0))]) hx hb d_B_crash_40 hl (k := 0) rfl (by decide) (by decide) rfl (fun ls hl => ?_)
  refine lv_goto (tgt := 25) hx hb d_B_crash_43 (by decide) ?_
  subst hU1
  have e : g_B_crash_25_3 u = (g_B_crash_25_4 (f_B_crash_37_3 u)) := rfl
  exact tl_B_crash_25_4 G ad (f_B_crash_37_3 u) hI1 C hAe hA hP hD hS (lv_sub hl [0, 1] rfl) (by rw [e]) (by rw [e])
set_option maxHeartbeats 4000000 in
set_option maxRecDepth 100000 in
theorem tl_B_crash_25_2 {p : Program} {l : Launch} {e : Env} {s : State} {m : MethodId} {below : List Frame} {meth : Method} {c : Code} {A : Nat → Prop} {H : Heap} {locs : List Loc} {ls : Array Slot} {w0 w1 : va_W} {r : Int32} (G : hk_G) (ad : Nat → Nat) (u : cB) (hI : Iv u) (C : hk_C p s m meth c R_B b_B_crash 2 (some .int) ([.ref (ad 0)] : List Value).toArray G) (hAe : va_A w0 s.heap.size = A) (hA : ∀ q : Nat, s.heap.size ≤ q → A q) (hP : va_P (hk_D G) classes (wB G ad u) H) (hD : va_D A (wB G ad u)) (hS : va_S A s.heap H locs) (hl : lv_has ls 2 [(1, .int (2 : Int32)), (0, .ref (ad 0))]) (hr : r = (g_B_crash_25_2 u).1) (hw : w1 = wB G ad ((g_B_crash_25_2 u).2)) : W p l e rm_B_crash s m ([.ref (ad 0)] : List Value).toArray below meth c H locs 0 0 (MQ below (va_Qi (fun (x : Int32) (_ : Unit) => x = r) (hk_B G w0 w1 s.heap.size) A) ([.ref (ad 0)] : List Value).toArray s 0 0 A) (F0 m 25 ls []) := by
  subst hr
  subst hw
  have hx := C.1
  have hb := C.2.1
  have hown := C.2.2.2.2.1
  have hts := C.2.2.2.2.2.1
  have hE := C.2.2.2.2.2.2.2
  refine lv_iload_n hx hb d_B_crash_25 rfl (lv_at hl 0 rfl) ?_
  refine lv_iconst (v := (4 : Int32)) hx hb d_B_crash_26 (by decide) ?_
  refine lv_icmp_ge (tgt := 46) hx hb d_B_crash_27 (by decide) (fun c_1 => absurd c_1 (by decide)) (fun c_1 => ?_)
  refine lv_aload_n hx hb d_B_crash_30 rfl (lv_at hl 1 rfl) ?_
  refine hk_get (v := .ref (ad 8)) C hP 0 4 5 i_B rfl rfl (by decide) (hk_in (by decide +kernel) rfl) rfl d_B_crash_31 ?_
  refine lv_iload_n hx hb d_B_crash_34 rfl (lv_at hl 0 rfl) ?_
  refine hk_ald C hP 8 3 (v := (ad 11)) rfl rfl (hk_inl (by decide)) rfl d_B_crash_35 ?_
  refine lv_iconst (v := (0 : Int32)) hx hb d_B_crash_36 (by decide) ?_
  refine hk_putN (host := "BodyRows2") (w2 := wB G ad (f_B_crash_37_2 u)) (v := .int (0 : Int32)) (ty := .int) C hP hD hS 11 2 1 i_Window t_Window_ok n_Window rfl rfl (by decide) (by decide +kernel) rfl (by decide +kernel) rfl rfl (Nat.le_of_ble_eq_true rfl) rfl d_B_crash_37 (fun H locs hP hD hS => ?_)
  have hI1 : Iv (f_B_crash_37_2 u) := (Iv_of (k2_f_B_crash_37_2 _) (k6_f_B_crash_37_2 _) hI)
  obtain ⟨U1, hU1⟩ : ∃ z, (f_B_crash_37_2 u) = z := ⟨_, rfl⟩
  rw [hU1] at hP hD hI1
  refine lv_iinc (v := (3 : Int32)) (lv' := [(1, .int (3 : Int32)), (0, .ref (ad 0))]) hx hb d_B_crash_40 hl (k := 0) rfl (by decide) (by decide) rfl (fun ls hl => ?_)
  refine lv_goto (tgt := 25) hx hb d_B_crash_43 (by decide) ?_
  subst hU1
  have e : g_B_crash_25_2 u = (g_B_crash_25_3 (f_B_crash_37_2 u)) := rfl
  exact tl_B_crash_25_3 G ad (f_B_crash_37_2 u) hI1 C hAe hA hP hD hS (lv_sub hl [0, 1] rfl) (by rw [e]) (by rw [e])
set_option maxHeartbeats 4000000 in
set_option maxRecDepth 100000 in
theorem tl_B_crash_25_1 {p : Program} {l : Launch} {e : Env} {s : State} {m : MethodId} {below : List Frame} {meth : Method} {c : Code} {A : Nat → Prop} {H : Heap} {locs : List Loc} {ls : Array Slot} {w0 w1 : va_W} {r : Int32} (G : hk_G) (ad : Nat → Nat) (u : cB) (hI : Iv u) (C : hk_C p s m meth c R_B b_B_crash 2 (some .int) ([.ref (ad 0)] : List Value).toArray G) (hAe : va_A w0 s.heap.size = A) (hA : ∀ q : Nat, s.heap.size ≤ q → A q) (hP : va_P (hk_D G) classes (wB G ad u) H) (hD : va_D A (wB G ad u)) (hS : va_S A s.heap H locs) (hl : lv_has ls 2 [(1, .int (1 : Int32)), (0, .ref (ad 0))]) (hr : r = (g_B_crash_25_1 u).1) (hw : w1 = wB G ad ((g_B_crash_25_1 u).2)) : W p l e rm_B_crash s m ([.ref (ad 0)] : List Value).toArray below meth c H locs 0 0 (MQ below (va_Qi (fun (x : Int32) (_ : Unit) => x = r) (hk_B G w0 w1 s.heap.size) A) ([.ref (ad 0)] : List Value).toArray s 0 0 A) (F0 m 25 ls []) := by
  subst hr
  subst hw
  have hx := C.1
  have hb := C.2.1
  have hown := C.2.2.2.2.1
  have hts := C.2.2.2.2.2.1
  have hE := C.2.2.2.2.2.2.2
  refine lv_iload_n hx hb d_B_crash_25 rfl (lv_at hl 0 rfl) ?_
  refine lv_iconst (v := (4 : Int32)) hx hb d_B_crash_26 (by decide) ?_
  refine lv_icmp_ge (tgt := 46) hx hb d_B_crash_27 (by decide) (fun c_1 => absurd c_1 (by decide)) (fun c_1 => ?_)
  refine lv_aload_n hx hb d_B_crash_30 rfl (lv_at hl 1 rfl) ?_
  refine hk_get (v := .ref (ad 8)) C hP 0 4 5 i_B rfl rfl (by decide) (hk_in (by decide +kernel) rfl) rfl d_B_crash_31 ?_
  refine lv_iload_n hx hb d_B_crash_34 rfl (lv_at hl 0 rfl) ?_
  refine hk_ald C hP 8 3 (v := (ad 10)) rfl rfl (hk_inl (by decide)) rfl d_B_crash_35 ?_
  refine lv_iconst (v := (0 : Int32)) hx hb d_B_crash_36 (by decide) ?_
  refine hk_putN (host := "BodyRows2") (w2 := wB G ad (f_B_crash_37_1 u)) (v := .int (0 : Int32)) (ty := .int) C hP hD hS 10 2 1 i_Window t_Window_ok n_Window rfl rfl (by decide) (by decide +kernel) rfl (by decide +kernel) rfl rfl (Nat.le_of_ble_eq_true rfl) rfl d_B_crash_37 (fun H locs hP hD hS => ?_)
  have hI1 : Iv (f_B_crash_37_1 u) := (Iv_of (k2_f_B_crash_37_1 _) (k6_f_B_crash_37_1 _) hI)
  obtain ⟨U1, hU1⟩ : ∃ z, (f_B_crash_37_1 u) = z := ⟨_, rfl⟩
  rw [hU1] at hP hD hI1
  refine lv_iinc (v := (2 : Int32)) (lv' := [(1, .int (2 : Int32)), (0, .ref (ad 0))]) hx hb d_B_crash_40 hl (k := 0) rfl (by decide) (by decide) rfl (fun ls hl => ?_)
  refine lv_goto (tgt := 25) hx hb d_B_crash_43 (by decide) ?_
  subst hU1
  have e : g_B_crash_25_1 u = (g_B_crash_25_2 (f_B_crash_37_1 u)) := rfl
  exact tl_B_crash_25_2 G ad (f_B_crash_37_1 u) hI1 C hAe hA hP hD hS (lv_sub hl [0, 1] rfl) (by rw [e]) (by rw [e])
set_option maxHeartbeats 4000000 in
set_option maxRecDepth 100000 in
theorem tl_B_crash_25_0 {p : Program} {l : Launch} {e : Env} {s : State} {m : MethodId} {below : List Frame} {meth : Method} {c : Code} {A : Nat → Prop} {H : Heap} {locs : List Loc} {ls : Array Slot} {w0 w1 : va_W} {r : Int32} (G : hk_G) (ad : Nat → Nat) (u : cB) (hI : Iv u) (C : hk_C p s m meth c R_B b_B_crash 2 (some .int) ([.ref (ad 0)] : List Value).toArray G) (hAe : va_A w0 s.heap.size = A) (hA : ∀ q : Nat, s.heap.size ≤ q → A q) (hP : va_P (hk_D G) classes (wB G ad u) H) (hD : va_D A (wB G ad u)) (hS : va_S A s.heap H locs) (hl : lv_has ls 2 [(1, .int (0 : Int32)), (0, .ref (ad 0))]) (hr : r = (g_B_crash_25_0 u).1) (hw : w1 = wB G ad ((g_B_crash_25_0 u).2)) : W p l e rm_B_crash s m ([.ref (ad 0)] : List Value).toArray below meth c H locs 0 0 (MQ below (va_Qi (fun (x : Int32) (_ : Unit) => x = r) (hk_B G w0 w1 s.heap.size) A) ([.ref (ad 0)] : List Value).toArray s 0 0 A) (F0 m 25 ls []) := by
  subst hr
  subst hw
  have hx := C.1
  have hb := C.2.1
  have hown := C.2.2.2.2.1
  have hts := C.2.2.2.2.2.1
  have hE := C.2.2.2.2.2.2.2
  refine lv_iload_n hx hb d_B_crash_25 rfl (lv_at hl 0 rfl) ?_
  refine lv_iconst (v := (4 : Int32)) hx hb d_B_crash_26 (by decide) ?_
  refine lv_icmp_ge (tgt := 46) hx hb d_B_crash_27 (by decide) (fun c_1 => absurd c_1 (by decide)) (fun c_1 => ?_)
  refine lv_aload_n hx hb d_B_crash_30 rfl (lv_at hl 1 rfl) ?_
  refine hk_get (v := .ref (ad 8)) C hP 0 4 5 i_B rfl rfl (by decide) (hk_in (by decide +kernel) rfl) rfl d_B_crash_31 ?_
  refine lv_iload_n hx hb d_B_crash_34 rfl (lv_at hl 0 rfl) ?_
  refine hk_ald C hP 8 3 (v := (ad 9)) rfl rfl (hk_inl (by decide)) rfl d_B_crash_35 ?_
  refine lv_iconst (v := (0 : Int32)) hx hb d_B_crash_36 (by decide) ?_
  refine hk_putN (host := "BodyRows2") (w2 := wB G ad (f_B_crash_37 u)) (v := .int (0 : Int32)) (ty := .int) C hP hD hS 9 2 1 i_Window t_Window_ok n_Window rfl rfl (by decide) (by decide +kernel) rfl (by decide +kernel) rfl rfl (Nat.le_of_ble_eq_true rfl) rfl d_B_crash_37 (fun H locs hP hD hS => ?_)
  have hI1 : Iv (f_B_crash_37 u) := (Iv_of (k2_f_B_crash_37 _) (k6_f_B_crash_37 _) hI)
  obtain ⟨U1, hU1⟩ : ∃ z, (f_B_crash_37 u) = z := ⟨_, rfl⟩
  rw [hU1] at hP hD hI1
  refine lv_iinc (v := (1 : Int32)) (lv' := [(1, .int (1 : Int32)), (0, .ref (ad 0))]) hx hb d_B_crash_40 hl (k := 0) rfl (by decide) (by decide) rfl (fun ls hl => ?_)
  refine lv_goto (tgt := 25) hx hb d_B_crash_43 (by decide) ?_
  subst hU1
  have e : g_B_crash_25_0 u = (g_B_crash_25_1 (f_B_crash_37 u)) := rfl
  exact tl_B_crash_25_1 G ad (f_B_crash_37 u) hI1 C hAe hA hP hD hS (lv_sub hl [0, 1] rfl) (by rw [e]) (by rw [e])
set_option maxHeartbeats 4000000 in
set_option maxRecDepth 100000 in
theorem c_B_crash (l : Launch) (G : hk_G) (ad : Nat → Nat) (u : cB) (hI : Iv u) : hk_I l G y_B_crash b_B_crash 2 (some .int) rm_B_crash [.ref (ad 0)] (wB G ad u) ((m_B_crash u).1) (wB G ad ((m_B_crash u).2)) := by
  refine hk_I_of (by decide) (Nat.le_of_ble_eq_true rfl) ?_
  intro p e s m below meth c A ls C hAe hA hP hD hS hl
  have hx := C.1
  have hb := C.2.1
  have hown := C.2.2.2.2.1
  have hts := C.2.2.2.2.2.1
  have hE := C.2.2.2.2.2.2.2
  have hl : lv_has ls 2 [(0, .ref (ad 0))] := hl
  refine lv_aload_n hx hb d_B_crash_0 rfl (lv_at hl 0 rfl) ?_
  refine hk_get (v := .int (b12 u)) C hP 0 4 12 i_B rfl rfl (by decide) (hk_in (by decide +kernel) rfl) rfl d_B_crash_1 ?_
  refine lv_if_eq (tgt := 10) hx hb d_B_crash_4 (by decide) (fun c_1 => ?_) (fun c_1 => ?_)
  · skip
    refine lv_aload_n hx hb d_B_crash_10 rfl (lv_at hl 0 rfl) ?_
    refine hk_goV (hk_kV (k := 0) (As := []) (rest := []) C (c_B_noteOutputs l G ad u hI _) Y_B_noteOutputs (hk_in (by decide +kernel) rfl) rfl rfl ⟨Nat.le_of_ble_eq_true rfl, Nat.le_of_ble_eq_true rfl⟩ (va_recv hE.1 hP (ci := 4) (q0 := 0) rfl rfl) hP hD rfl hl.1 rfl (Nat.le_of_ble_eq_true rfl) d_B_crash_11 ⟨Nat.zero_le _, Nat.zero_le _⟩) hD hS hA (fun H locs hP hD hS => ?_)
    have hI1 : Iv (m_B_noteOutputs u) := (km_B_noteOutputs hI)
    obtain ⟨U1, hU1⟩ : ∃ z, (m_B_noteOutputs u) = z := ⟨_, rfl⟩
    rw [hU1] at hP hD hI1
    refine lv_aload_n hx hb d_B_crash_14 rfl (lv_at hl 0 rfl) ?_
    refine lv_iconst (v := (1 : Int32)) hx hb d_B_crash_15 (by decide) ?_
    refine hk_put (w2 := wB G ad (f_B_crash_16 U1)) (v := .int (1 : Int32)) (ty := .boolean) C hP hD hS 0 4 12 i_B t_B_ok n_B rfl rfl (by decide) (hk_in (by decide +kernel) rfl) rfl (by decide +kernel) (hk_nb (Or.inr rfl)) (hk_fb (Or.inr rfl)) (Nat.le_of_ble_eq_true rfl) rfl d_B_crash_16 (fun H locs hP hD hS => ?_)
    have hI2 : Iv (f_B_crash_16 U1) := (Iv_of (k2_f_B_crash_16 _) (k6_f_B_crash_16 _) hI1)
    obtain ⟨U2, hU2⟩ : ∃ z, (f_B_crash_16 U1) = z := ⟨_, rfl⟩
    rw [hU2] at hP hD hI2
    refine lv_aload_n hx hb d_B_crash_19 rfl (lv_at hl 0 rfl) ?_
    refine hk_goV (hk_kV (k := 0) (As := []) (rest := []) C (c_B_beginWantedSides l G ad U2 hI2 _) Y_B_beginWantedSides (hk_in (by decide +kernel) rfl) rfl rfl ⟨Nat.le_of_ble_eq_true rfl, Nat.le_of_ble_eq_true rfl⟩ (va_recv hE.1 hP (ci := 4) (q0 := 0) rfl rfl) hP hD rfl hl.1 rfl (Nat.le_of_ble_eq_true rfl) d_B_crash_20 ⟨Nat.zero_le _, Nat.zero_le _⟩) hD hS hA (fun H locs hP hD hS => ?_)
    have hI3 : Iv (m_B_beginWantedSides U2) := (km_B_beginWantedSides hI2)
    obtain ⟨U3, hU3⟩ : ∃ z, (m_B_beginWantedSides U2) = z := ⟨_, rfl⟩
    rw [hU3] at hP hD hI3
    refine lv_iconst (v := (0 : Int32)) hx hb d_B_crash_23 (by decide) ?_
    refine lv_istore_n (lv' := [(1, .int (0 : Int32)), (0, .ref (ad 0))]) hx hb d_B_crash_24 rfl hl (by decide) rfl (fun ls hl => ?_)
    subst hU1 hU2 hU3
    have e : m_B_crash u = (g_B_crash_25_0 (m_B_beginWantedSides (f_B_crash_16 (m_B_noteOutputs u)))) := (if_pos c_1).trans (rfl)
    exact tl_B_crash_25_0 G ad (m_B_beginWantedSides (f_B_crash_16 (m_B_noteOutputs u))) hI3 C hAe hA hP hD hS (lv_sub hl [0, 1] rfl) (by rw [e]) (by rw [e])
  · skip
    refine lv_bipush (v := (-3 : Int32)) hx hb d_B_crash_7 (by decide) ?_
    have e : m_B_crash u = ((-3 : Int32), u) := (if_neg c_1).trans (rfl)
    exact hk_ri C hAe hP hD hS (by rw [e]) (by rw [e]) d_B_crash_9
theorem Y_B_memory : hk_Y y_B_memory b_B_memory 4 (some .int) 3 := ⟨hk_in (by decide +kernel) rfl, hk_in (by decide +kernel) rfl, hk_in (by decide +kernel) rfl, hk_in (List.mem_of_getElem? (i := 416) rfl) rfl, by decide, by decide, by decide +kernel⟩
abbrev rm_B_memory : Room := { frames := 2, cells := 0, slots := 0, locals := 43 }
set_option maxHeartbeats 4000000 in
set_option maxRecDepth 100000 in
theorem c_B_memory (l : Launch) (G : hk_G) (ad : Nat → Nat) (u : cB) (p1 : Int32) (p2 : Int32) (p3 : Int32) (hI : Iv u) : hk_I l G y_B_memory b_B_memory 4 (some .int) rm_B_memory [.ref (ad 0), .int p1, .int p2, .int p3] (wB G ad u) ((m_B_memory p1 p2 p3 u).1) (wB G ad ((m_B_memory p1 p2 p3 u).2)) := by
  refine hk_I_of (by decide) (Nat.le_of_ble_eq_true rfl) ?_
  intro p e s m below meth c A ls C hAe hA hP hD hS hl
  have hx := C.1
  have hb := C.2.1
  have hown := C.2.2.2.2.1
  have hts := C.2.2.2.2.2.1
  have hE := C.2.2.2.2.2.2.2
  have hl : lv_has ls 4 [(0, .ref (ad 0)), (1, .int p1), (2, .int p2), (3, .int p3)] := hl
  refine lv_iload_n hx hb d_B_memory_0 rfl (lv_at hl 1 rfl) ?_
  refine lv_iconst (v := (4 : Int32)) hx hb d_B_memory_1 (by decide) ?_
  refine hk_goIe (hk_kS (k := 2) (As := [.int p1, .int (4 : Int32)]) (rest := []) C (c_B_isBelow l G p1 (4 : Int32) _) Y_B_isBelow (hk_in (by decide +kernel) rfl) rfl rfl ⟨Nat.le_of_ble_eq_true rfl, Nat.le_of_ble_eq_true rfl⟩ hk_Pn (hk_Dn (A := A)) rfl hl.1 rfl (Nat.le_of_ble_eq_true rfl) d_B_memory_2 ⟨Nat.zero_le _, Nat.zero_le _⟩) hP hS hA (fun H locs hP hS => ?_)
  refine lv_if_ne (tgt := 10) hx hb d_B_memory_5 (by decide) (fun c_1 => ?_) (fun c_1 => ?_)
  · skip
    refine lv_iload_n hx hb d_B_memory_10 rfl (lv_at hl 2 rfl) ?_
    refine lv_iconst (v := (5 : Int32)) hx hb d_B_memory_11 (by decide) ?_
    refine hk_goIe (hk_kS (k := 2) (As := [.int p2, .int (5 : Int32)]) (rest := []) C (c_B_isBelow l G p2 (5 : Int32) _) Y_B_isBelow (hk_in (by decide +kernel) rfl) rfl rfl ⟨Nat.le_of_ble_eq_true rfl, Nat.le_of_ble_eq_true rfl⟩ hk_Pn (hk_Dn (A := A)) rfl hl.1 rfl (Nat.le_of_ble_eq_true rfl) d_B_memory_12 ⟨Nat.zero_le _, Nat.zero_le _⟩) hP hS hA (fun H locs hP hS => ?_)
    refine lv_if_eq (tgt := 26) hx hb d_B_memory_15 (by decide) (fun c_2 => ?_) (fun c_2 => ?_)
    · skip
      refine lv_bipush (v := (-2 : Int32)) hx hb d_B_memory_26 (by decide) ?_
      have e : m_B_memory p1 p2 p3 u = ((-2 : Int32), u) := (if_neg c_1).trans ((if_pos c_2).trans (rfl))
      exact hk_ri C hAe hP hD hS (by rw [e]) (by rw [e]) d_B_memory_28
    · skip
      refine lv_iload_n hx hb d_B_memory_18 rfl (lv_at hl 3 rfl) ?_
      refine lv_iconst (v := (1 : Int32)) hx hb d_B_memory_19 (by decide) ?_
      refine hk_goIe (hk_kS (k := 2) (As := [.int p3, .int (1 : Int32)]) (rest := []) C (c_B_isUpTo l G p3 (1 : Int32) _) Y_B_isUpTo (hk_in (by decide +kernel) rfl) rfl rfl ⟨Nat.le_of_ble_eq_true rfl, Nat.le_of_ble_eq_true rfl⟩ hk_Pn (hk_Dn (A := A)) rfl hl.1 rfl (Nat.le_of_ble_eq_true rfl) d_B_memory_20 ⟨Nat.zero_le _, Nat.zero_le _⟩) hP hS hA (fun H locs hP hS => ?_)
      refine lv_if_ne (tgt := 29) hx hb d_B_memory_23 (by decide) (fun c_3 => ?_) (fun c_3 => ?_)
      · skip
        refine lv_iload_n hx hb d_B_memory_29 rfl (lv_at hl 3 rfl) ?_
        refine lv_if_ne (tgt := 65) hx hb d_B_memory_30 (by decide) (fun c_4 => ?_) (fun c_4 => ?_)
        · skip
          rcases hk_b4 c_1 with rfl | rfl | rfl | rfl
          · skip
            refine lv_aload_n hx hb d_B_memory_65 rfl (lv_at hl 0 rfl) ?_
            refine lv_iload_n hx hb d_B_memory_66 rfl (lv_at hl 2 rfl) ?_
            refine lv_aload_n hx hb d_B_memory_67 rfl (lv_at hl 0 rfl) ?_
            refine hk_get (v := .ref (ad 17)) C hP 0 4 7 i_B rfl rfl (by decide) (hk_in (by decide +kernel) rfl) rfl d_B_memory_68 ?_
            refine lv_iload_n hx hb d_B_memory_71 rfl (lv_at hl 1 rfl) ?_
            refine hk_aldg C hP 17 4 (v := (ad 18)) rfl rfl (hk_inl (by decide)) rfl d_B_memory_72 ?_
            refine lv_iload_n hx hb d_B_memory_73 rfl (lv_at hl 2 rfl) ?_
            refine hk_ild C hP 18 0 (v := (b7 u 0) p2.toNatClampNeg) rfl rfl (hk_ib c_2 (N := 5) rfl) rfl d_B_memory_74 ?_
            refine hk_goV (hk_kV (k := 2) (As := [.int p2, .int ((b7 u 0) p2.toNatClampNeg)]) (rest := []) C (c_B_giveBack l G ad u p2 ((b7 u 0) p2.toNatClampNeg) hI _) Y_B_giveBack (hk_in (by decide +kernel) rfl) rfl rfl ⟨Nat.le_of_ble_eq_true rfl, Nat.le_of_ble_eq_true rfl⟩ (va_recv hE.1 hP (ci := 4) (q0 := 0) rfl rfl) hP hD rfl hl.1 rfl (Nat.le_of_ble_eq_true rfl) d_B_memory_75 ⟨Nat.zero_le _, Nat.zero_le _⟩) hD hS hA (fun H locs hP hD hS => ?_)
            have hI1 : Iv (m_B_giveBack p2 ((b7 u 0) p2.toNatClampNeg) u) := (km_B_giveBack hI)
            obtain ⟨U1, hU1⟩ : ∃ z, (m_B_giveBack p2 ((b7 u 0) p2.toNatClampNeg) u) = z := ⟨_, rfl⟩
            rw [hU1] at hP hD hI1
            refine lv_aload_n hx hb d_B_memory_78 rfl (lv_at hl 0 rfl) ?_
            refine hk_get (v := .ref (ad 17)) C hP 0 4 7 i_B rfl rfl (by decide) (hk_in (by decide +kernel) rfl) rfl d_B_memory_79 ?_
            refine lv_iload_n hx hb d_B_memory_82 rfl (lv_at hl 1 rfl) ?_
            refine hk_aldg C hP 17 4 (v := (ad 18)) rfl rfl (hk_inl (by decide)) rfl d_B_memory_83 ?_
            refine lv_iload_n hx hb d_B_memory_84 rfl (lv_at hl 2 rfl) ?_
            refine hk_ild C hP 18 0 (v := (b7 U1 0) p2.toNatClampNeg) rfl rfl (by subst hU1; exact hk_ib c_2 (N := 5) rfl) rfl d_B_memory_85 ?_
            subst hU1
            have e : m_B_memory (0 : Int32) p2 p3 u = ((b7 (m_B_giveBack p2 ((b7 u 0) p2.toNatClampNeg) u) 0) p2.toNatClampNeg, (m_B_giveBack p2 ((b7 u 0) p2.toNatClampNeg) u)) := (if_neg c_1).trans ((if_neg c_2).trans ((if_neg c_3).trans ((if_neg c_4).trans (rfl))))
            exact hk_ri C hAe hP hD hS (by rw [e]) (by rw [e]) d_B_memory_86
          · skip
            refine lv_aload_n hx hb d_B_memory_65 rfl (lv_at hl 0 rfl) ?_
            refine lv_iload_n hx hb d_B_memory_66 rfl (lv_at hl 2 rfl) ?_
            refine lv_aload_n hx hb d_B_memory_67 rfl (lv_at hl 0 rfl) ?_
            refine hk_get (v := .ref (ad 17)) C hP 0 4 7 i_B rfl rfl (by decide) (hk_in (by decide +kernel) rfl) rfl d_B_memory_68 ?_
            refine lv_iload_n hx hb d_B_memory_71 rfl (lv_at hl 1 rfl) ?_
            refine hk_aldg C hP 17 4 (v := (ad 19)) rfl rfl (hk_inl (by decide)) rfl d_B_memory_72 ?_
            refine lv_iload_n hx hb d_B_memory_73 rfl (lv_at hl 2 rfl) ?_
            refine hk_ild C hP 19 0 (v := (b7 u 1) p2.toNatClampNeg) rfl rfl (hk_ib c_2 (N := 5) rfl) rfl d_B_memory_74 ?_
            refine hk_goV (hk_kV (k := 2) (As := [.int p2, .int ((b7 u 1) p2.toNatClampNeg)]) (rest := []) C (c_B_giveBack l G ad u p2 ((b7 u 1) p2.toNatClampNeg) hI _) Y_B_giveBack (hk_in (by decide +kernel) rfl) rfl rfl ⟨Nat.le_of_ble_eq_true rfl, Nat.le_of_ble_eq_true rfl⟩ (va_recv hE.1 hP (ci := 4) (q0 := 0) rfl rfl) hP hD rfl hl.1 rfl (Nat.le_of_ble_eq_true rfl) d_B_memory_75 ⟨Nat.zero_le _, Nat.zero_le _⟩) hD hS hA (fun H locs hP hD hS => ?_)
            have hI2 : Iv (m_B_giveBack p2 ((b7 u 1) p2.toNatClampNeg) u) := (km_B_giveBack hI)
            obtain ⟨U2, hU2⟩ : ∃ z, (m_B_giveBack p2 ((b7 u 1) p2.toNatClampNeg) u) = z := ⟨_, rfl⟩
            rw [hU2] at hP hD hI2
            refine lv_aload_n hx hb d_B_memory_78 rfl (lv_at hl 0 rfl) ?_
            refine hk_get (v := .ref (ad 17)) C hP 0 4 7 i_B rfl rfl (by decide) (hk_in (by decide +kernel) rfl) rfl d_B_memory_79 ?_
            refine lv_iload_n hx hb d_B_memory_82 rfl (lv_at hl 1 rfl) ?_
            refine hk_aldg C hP 17 4 (v := (ad 19)) rfl rfl (hk_inl (by decide)) rfl d_B_memory_83 ?_
            refine lv_iload_n hx hb d_B_memory_84 rfl (lv_at hl 2 rfl) ?_
            refine hk_ild C hP 19 0 (v := (b7 U2 1) p2.toNatClampNeg) rfl rfl (by subst hU2; exact hk_ib c_2 (N := 5) rfl) rfl d_B_memory_85 ?_
            subst hU2
            have e : m_B_memory (1 : Int32) p2 p3 u = ((b7 (m_B_giveBack p2 ((b7 u 1) p2.toNatClampNeg) u) 1) p2.toNatClampNeg, (m_B_giveBack p2 ((b7 u 1) p2.toNatClampNeg) u)) := (if_neg c_1).trans ((if_neg c_2).trans ((if_neg c_3).trans ((if_neg c_4).trans (rfl))))
            exact hk_ri C hAe hP hD hS (by rw [e]) (by rw [e]) d_B_memory_86
          · skip
            refine lv_aload_n hx hb d_B_memory_65 rfl (lv_at hl 0 rfl) ?_
            refine lv_iload_n hx hb d_B_memory_66 rfl (lv_at hl 2 rfl) ?_
            refine lv_aload_n hx hb d_B_memory_67 rfl (lv_at hl 0 rfl) ?_
            refine hk_get (v := .ref (ad 17)) C hP 0 4 7 i_B rfl rfl (by decide) (hk_in (by decide +kernel) rfl) rfl d_B_memory_68 ?_
            refine lv_iload_n hx hb d_B_memory_71 rfl (lv_at hl 1 rfl) ?_
            refine hk_aldg C hP 17 4 (v := (ad 20)) rfl rfl (hk_inl (by decide)) rfl d_B_memory_72 ?_
            refine lv_iload_n hx hb d_B_memory_73 rfl (lv_at hl 2 rfl) ?_
            refine hk_ild C hP 20 0 (v := (b7 u 2) p2.toNatClampNeg) rfl rfl (hk_ib c_2 (N := 5) rfl) rfl d_B_memory_74 ?_
            refine hk_goV (hk_kV (k := 2) (As := [.int p2, .int ((b7 u 2) p2.toNatClampNeg)]) (rest := []) C (c_B_giveBack l G ad u p2 ((b7 u 2) p2.toNatClampNeg) hI _) Y_B_giveBack (hk_in (by decide +kernel) rfl) rfl rfl ⟨Nat.le_of_ble_eq_true rfl, Nat.le_of_ble_eq_true rfl⟩ (va_recv hE.1 hP (ci := 4) (q0 := 0) rfl rfl) hP hD rfl hl.1 rfl (Nat.le_of_ble_eq_true rfl) d_B_memory_75 ⟨Nat.zero_le _, Nat.zero_le _⟩) hD hS hA (fun H locs hP hD hS => ?_)
            have hI3 : Iv (m_B_giveBack p2 ((b7 u 2) p2.toNatClampNeg) u) := (km_B_giveBack hI)
            obtain ⟨U3, hU3⟩ : ∃ z, (m_B_giveBack p2 ((b7 u 2) p2.toNatClampNeg) u) = z := ⟨_, rfl⟩
            rw [hU3] at hP hD hI3
            refine lv_aload_n hx hb d_B_memory_78 rfl (lv_at hl 0 rfl) ?_
            refine hk_get (v := .ref (ad 17)) C hP 0 4 7 i_B rfl rfl (by decide) (hk_in (by decide +kernel) rfl) rfl d_B_memory_79 ?_
            refine lv_iload_n hx hb d_B_memory_82 rfl (lv_at hl 1 rfl) ?_
            refine hk_aldg C hP 17 4 (v := (ad 20)) rfl rfl (hk_inl (by decide)) rfl d_B_memory_83 ?_
            refine lv_iload_n hx hb d_B_memory_84 rfl (lv_at hl 2 rfl) ?_
            refine hk_ild C hP 20 0 (v := (b7 U3 2) p2.toNatClampNeg) rfl rfl (by subst hU3; exact hk_ib c_2 (N := 5) rfl) rfl d_B_memory_85 ?_
            subst hU3
            have e : m_B_memory (2 : Int32) p2 p3 u = ((b7 (m_B_giveBack p2 ((b7 u 2) p2.toNatClampNeg) u) 2) p2.toNatClampNeg, (m_B_giveBack p2 ((b7 u 2) p2.toNatClampNeg) u)) := (if_neg c_1).trans ((if_neg c_2).trans ((if_neg c_3).trans ((if_neg c_4).trans (rfl))))
            exact hk_ri C hAe hP hD hS (by rw [e]) (by rw [e]) d_B_memory_86
          · skip
            refine lv_aload_n hx hb d_B_memory_65 rfl (lv_at hl 0 rfl) ?_
            refine lv_iload_n hx hb d_B_memory_66 rfl (lv_at hl 2 rfl) ?_
            refine lv_aload_n hx hb d_B_memory_67 rfl (lv_at hl 0 rfl) ?_
            refine hk_get (v := .ref (ad 17)) C hP 0 4 7 i_B rfl rfl (by decide) (hk_in (by decide +kernel) rfl) rfl d_B_memory_68 ?_
            refine lv_iload_n hx hb d_B_memory_71 rfl (lv_at hl 1 rfl) ?_
            refine hk_aldg C hP 17 4 (v := (ad 21)) rfl rfl (hk_inl (by decide)) rfl d_B_memory_72 ?_
            refine lv_iload_n hx hb d_B_memory_73 rfl (lv_at hl 2 rfl) ?_
            refine hk_ild C hP 21 0 (v := (b7 u 3) p2.toNatClampNeg) rfl rfl (hk_ib c_2 (N := 5) rfl) rfl d_B_memory_74 ?_
            refine hk_goV (hk_kV (k := 2) (As := [.int p2, .int ((b7 u 3) p2.toNatClampNeg)]) (rest := []) C (c_B_giveBack l G ad u p2 ((b7 u 3) p2.toNatClampNeg) hI _) Y_B_giveBack (hk_in (by decide +kernel) rfl) rfl rfl ⟨Nat.le_of_ble_eq_true rfl, Nat.le_of_ble_eq_true rfl⟩ (va_recv hE.1 hP (ci := 4) (q0 := 0) rfl rfl) hP hD rfl hl.1 rfl (Nat.le_of_ble_eq_true rfl) d_B_memory_75 ⟨Nat.zero_le _, Nat.zero_le _⟩) hD hS hA (fun H locs hP hD hS => ?_)
            have hI4 : Iv (m_B_giveBack p2 ((b7 u 3) p2.toNatClampNeg) u) := (km_B_giveBack hI)
            obtain ⟨U4, hU4⟩ : ∃ z, (m_B_giveBack p2 ((b7 u 3) p2.toNatClampNeg) u) = z := ⟨_, rfl⟩
            rw [hU4] at hP hD hI4
            refine lv_aload_n hx hb d_B_memory_78 rfl (lv_at hl 0 rfl) ?_
            refine hk_get (v := .ref (ad 17)) C hP 0 4 7 i_B rfl rfl (by decide) (hk_in (by decide +kernel) rfl) rfl d_B_memory_79 ?_
            refine lv_iload_n hx hb d_B_memory_82 rfl (lv_at hl 1 rfl) ?_
            refine hk_aldg C hP 17 4 (v := (ad 21)) rfl rfl (hk_inl (by decide)) rfl d_B_memory_83 ?_
            refine lv_iload_n hx hb d_B_memory_84 rfl (lv_at hl 2 rfl) ?_
            refine hk_ild C hP 21 0 (v := (b7 U4 3) p2.toNatClampNeg) rfl rfl (by subst hU4; exact hk_ib c_2 (N := 5) rfl) rfl d_B_memory_85 ?_
            subst hU4
            have e : m_B_memory (3 : Int32) p2 p3 u = ((b7 (m_B_giveBack p2 ((b7 u 3) p2.toNatClampNeg) u) 3) p2.toNatClampNeg, (m_B_giveBack p2 ((b7 u 3) p2.toNatClampNeg) u)) := (if_neg c_1).trans ((if_neg c_2).trans ((if_neg c_3).trans ((if_neg c_4).trans (rfl))))
            exact hk_ri C hAe hP hD hS (by rw [e]) (by rw [e]) d_B_memory_86
        · skip
          rcases hk_b4 c_1 with rfl | rfl | rfl | rfl
          · skip
            refine lv_aload_n hx hb d_B_memory_33 rfl (lv_at hl 0 rfl) ?_
            refine hk_get (v := .ref (ad 17)) C hP 0 4 7 i_B rfl rfl (by decide) (hk_in (by decide +kernel) rfl) rfl d_B_memory_34 ?_
            refine lv_iload_n hx hb d_B_memory_37 rfl (lv_at hl 1 rfl) ?_
            refine hk_aldg C hP 17 4 (v := (ad 18)) rfl rfl (hk_inl (by decide)) rfl d_B_memory_38 ?_
            refine lv_iload_n hx hb d_B_memory_39 rfl (lv_at hl 2 rfl) ?_
            refine lv_iload_n hx hb d_B_memory_40 rfl (lv_at hl 2 rfl) ?_
            refine lv_iconst (v := (4 : Int32)) hx hb d_B_memory_41 (by decide) ?_
            refine lv_icmp_ge (tgt := 57) hx hb d_B_memory_42 (by decide) (fun c_5 => ?_) (fun c_5 => ?_)
            · skip
              refine lv_aload_n hx hb d_B_memory_57 rfl (lv_at hl 0 rfl) ?_
              refine hk_get (v := .int (b9 u)) C hP 0 4 9 i_B rfl rfl (by decide) (hk_in (by decide +kernel) rfl) rfl d_B_memory_58 ?_
              refine hk_ist (w2 := wB G ad (f_B_memory_61 (0 : Int32) p2 u)) C hP hD hS 18 0 rfl rfl (hk_ib c_2 (N := 5) rfl) rfl d_B_memory_61 (fun H locs hP hD hS => ?_)
              have hI5 : Iv (f_B_memory_61 (0 : Int32) p2 u) := (Iv_of (k2_f_B_memory_61 _ _ _) (k6_f_B_memory_61 _ _ _) hI)
              obtain ⟨U5, hU5⟩ : ∃ z, (f_B_memory_61 (0 : Int32) p2 u) = z := ⟨_, rfl⟩
              rw [hU5] at hP hD hI5
              refine lv_goto (tgt := 78) hx hb d_B_memory_62 (by decide) ?_
              refine lv_aload_n hx hb d_B_memory_78 rfl (lv_at hl 0 rfl) ?_
              refine hk_get (v := .ref (ad 17)) C hP 0 4 7 i_B rfl rfl (by decide) (hk_in (by decide +kernel) rfl) rfl d_B_memory_79 ?_
              refine lv_iload_n hx hb d_B_memory_82 rfl (lv_at hl 1 rfl) ?_
              refine hk_aldg C hP 17 4 (v := (ad 18)) rfl rfl (hk_inl (by decide)) rfl d_B_memory_83 ?_
              refine lv_iload_n hx hb d_B_memory_84 rfl (lv_at hl 2 rfl) ?_
              refine hk_ild C hP 18 0 (v := (b7 U5 0) p2.toNatClampNeg) rfl rfl (by subst hU5; exact hk_ib c_2 (N := 5) rfl) rfl d_B_memory_85 ?_
              subst hU5
              have e : m_B_memory (0 : Int32) p2 p3 u = ((b7 (f_B_memory_61 (0 : Int32) p2 u) 0) p2.toNatClampNeg, (f_B_memory_61 (0 : Int32) p2 u)) := (if_neg c_1).trans ((if_neg c_2).trans ((if_neg c_3).trans ((if_pos c_4).trans ((if_pos c_5).trans (rfl)))))
              exact hk_ri C hAe hP hD hS (by rw [e]) (by rw [e]) d_B_memory_86
            · skip
              rcases hk_w4 c_2 c_5 with rfl | rfl | rfl | rfl
              · skip
                refine lv_aload_n hx hb d_B_memory_45 rfl (lv_at hl 0 rfl) ?_
                refine hk_get (v := .ref (ad 8)) C hP 0 4 5 i_B rfl rfl (by decide) (hk_in (by decide +kernel) rfl) rfl d_B_memory_46 ?_
                refine lv_iload_n hx hb d_B_memory_49 rfl (lv_at hl 2 rfl) ?_
                refine hk_ald C hP 8 3 (v := (ad 9)) rfl rfl (hk_inl (by decide)) rfl d_B_memory_50 ?_
                refine hk_getN (host := "BodyRows2") (v := .int ((b5 u 0).2.1)) C hP 9 2 1 i_Window rfl rfl (by decide) (by decide +kernel) rfl d_B_memory_51 ?_
                refine lv_goto (tgt := 61) hx hb d_B_memory_54 (by decide) ?_
                refine hk_ist (w2 := wB G ad (f_B_memory_61_1 (0 : Int32) (0 : Int32) u)) C hP hD hS 18 0 rfl rfl (hk_inl (by decide)) rfl d_B_memory_61 (fun H locs hP hD hS => ?_)
                have hI6 : Iv (f_B_memory_61_1 (0 : Int32) (0 : Int32) u) := (Iv_of (k2_f_B_memory_61_1 _ _ _) (k6_f_B_memory_61_1 _ _ _) hI)
                obtain ⟨U6, hU6⟩ : ∃ z, (f_B_memory_61_1 (0 : Int32) (0 : Int32) u) = z := ⟨_, rfl⟩
                rw [hU6] at hP hD hI6
                refine lv_goto (tgt := 78) hx hb d_B_memory_62 (by decide) ?_
                refine lv_aload_n hx hb d_B_memory_78 rfl (lv_at hl 0 rfl) ?_
                refine hk_get (v := .ref (ad 17)) C hP 0 4 7 i_B rfl rfl (by decide) (hk_in (by decide +kernel) rfl) rfl d_B_memory_79 ?_
                refine lv_iload_n hx hb d_B_memory_82 rfl (lv_at hl 1 rfl) ?_
                refine hk_aldg C hP 17 4 (v := (ad 18)) rfl rfl (hk_inl (by decide)) rfl d_B_memory_83 ?_
                refine lv_iload_n hx hb d_B_memory_84 rfl (lv_at hl 2 rfl) ?_
                refine hk_ild C hP 18 0 (v := (b7 U6 0) 0) rfl rfl (hk_inl (by decide)) rfl d_B_memory_85 ?_
                subst hU6
                have e : m_B_memory (0 : Int32) (0 : Int32) p3 u = ((b7 (f_B_memory_61_1 (0 : Int32) (0 : Int32) u) 0) 0, (f_B_memory_61_1 (0 : Int32) (0 : Int32) u)) := (if_neg c_1).trans ((if_neg c_2).trans ((if_neg c_3).trans ((if_pos c_4).trans ((if_neg c_5).trans (rfl)))))
                exact hk_ri C hAe hP hD hS (by rw [e]) (by rw [e]) d_B_memory_86
              · skip
                refine lv_aload_n hx hb d_B_memory_45 rfl (lv_at hl 0 rfl) ?_
                refine hk_get (v := .ref (ad 8)) C hP 0 4 5 i_B rfl rfl (by decide) (hk_in (by decide +kernel) rfl) rfl d_B_memory_46 ?_
                refine lv_iload_n hx hb d_B_memory_49 rfl (lv_at hl 2 rfl) ?_
                refine hk_ald C hP 8 3 (v := (ad 10)) rfl rfl (hk_inl (by decide)) rfl d_B_memory_50 ?_
                refine hk_getN (host := "BodyRows2") (v := .int ((b5 u 1).2.1)) C hP 10 2 1 i_Window rfl rfl (by decide) (by decide +kernel) rfl d_B_memory_51 ?_
                refine lv_goto (tgt := 61) hx hb d_B_memory_54 (by decide) ?_
                refine hk_ist (w2 := wB G ad (f_B_memory_61_1 (0 : Int32) (1 : Int32) u)) C hP hD hS 18 0 rfl rfl (hk_inl (by decide)) rfl d_B_memory_61 (fun H locs hP hD hS => ?_)
                have hI7 : Iv (f_B_memory_61_1 (0 : Int32) (1 : Int32) u) := (Iv_of (k2_f_B_memory_61_1 _ _ _) (k6_f_B_memory_61_1 _ _ _) hI)
                obtain ⟨U7, hU7⟩ : ∃ z, (f_B_memory_61_1 (0 : Int32) (1 : Int32) u) = z := ⟨_, rfl⟩
                rw [hU7] at hP hD hI7
                refine lv_goto (tgt := 78) hx hb d_B_memory_62 (by decide) ?_
                refine lv_aload_n hx hb d_B_memory_78 rfl (lv_at hl 0 rfl) ?_
                refine hk_get (v := .ref (ad 17)) C hP 0 4 7 i_B rfl rfl (by decide) (hk_in (by decide +kernel) rfl) rfl d_B_memory_79 ?_
                refine lv_iload_n hx hb d_B_memory_82 rfl (lv_at hl 1 rfl) ?_
                refine hk_aldg C hP 17 4 (v := (ad 18)) rfl rfl (hk_inl (by decide)) rfl d_B_memory_83 ?_
                refine lv_iload_n hx hb d_B_memory_84 rfl (lv_at hl 2 rfl) ?_
                refine hk_ild C hP 18 0 (v := (b7 U7 0) 1) rfl rfl (hk_inl (by decide)) rfl d_B_memory_85 ?_
                subst hU7
                have e : m_B_memory (0 : Int32) (1 : Int32) p3 u = ((b7 (f_B_memory_61_1 (0 : Int32) (1 : Int32) u) 0) 1, (f_B_memory_61_1 (0 : Int32) (1 : Int32) u)) := (if_neg c_1).trans ((if_neg c_2).trans ((if_neg c_3).trans ((if_pos c_4).trans ((if_neg c_5).trans (rfl)))))
                exact hk_ri C hAe hP hD hS (by rw [e]) (by rw [e]) d_B_memory_86
              · skip
                refine lv_aload_n hx hb d_B_memory_45 rfl (lv_at hl 0 rfl) ?_
                refine hk_get (v := .ref (ad 8)) C hP 0 4 5 i_B rfl rfl (by decide) (hk_in (by decide +kernel) rfl) rfl d_B_memory_46 ?_
                refine lv_iload_n hx hb d_B_memory_49 rfl (lv_at hl 2 rfl) ?_
                refine hk_ald C hP 8 3 (v := (ad 11)) rfl rfl (hk_inl (by decide)) rfl d_B_memory_50 ?_
                refine hk_getN (host := "BodyRows2") (v := .int ((b5 u 2).2.1)) C hP 11 2 1 i_Window rfl rfl (by decide) (by decide +kernel) rfl d_B_memory_51 ?_
                refine lv_goto (tgt := 61) hx hb d_B_memory_54 (by decide) ?_
                refine hk_ist (w2 := wB G ad (f_B_memory_61_1 (0 : Int32) (2 : Int32) u)) C hP hD hS 18 0 rfl rfl (hk_inl (by decide)) rfl d_B_memory_61 (fun H locs hP hD hS => ?_)
                have hI8 : Iv (f_B_memory_61_1 (0 : Int32) (2 : Int32) u) := (Iv_of (k2_f_B_memory_61_1 _ _ _) (k6_f_B_memory_61_1 _ _ _) hI)
                obtain ⟨U8, hU8⟩ : ∃ z, (f_B_memory_61_1 (0 : Int32) (2 : Int32) u) = z := ⟨_, rfl⟩
                rw [hU8] at hP hD hI8
                refine lv_goto (tgt := 78) hx hb d_B_memory_62 (by decide) ?_
                refine lv_aload_n hx hb d_B_memory_78 rfl (lv_at hl 0 rfl) ?_
                refine hk_get (v := .ref (ad 17)) C hP 0 4 7 i_B rfl rfl (by decide) (hk_in (by decide +kernel) rfl) rfl d_B_memory_79 ?_
                refine lv_iload_n hx hb d_B_memory_82 rfl (lv_at hl 1 rfl) ?_
                refine hk_aldg C hP 17 4 (v := (ad 18)) rfl rfl (hk_inl (by decide)) rfl d_B_memory_83 ?_
                refine lv_iload_n hx hb d_B_memory_84 rfl (lv_at hl 2 rfl) ?_
                refine hk_ild C hP 18 0 (v := (b7 U8 0) 2) rfl rfl (hk_inl (by decide)) rfl d_B_memory_85 ?_
                subst hU8
                have e : m_B_memory (0 : Int32) (2 : Int32) p3 u = ((b7 (f_B_memory_61_1 (0 : Int32) (2 : Int32) u) 0) 2, (f_B_memory_61_1 (0 : Int32) (2 : Int32) u)) := (if_neg c_1).trans ((if_neg c_2).trans ((if_neg c_3).trans ((if_pos c_4).trans ((if_neg c_5).trans (rfl)))))
                exact hk_ri C hAe hP hD hS (by rw [e]) (by rw [e]) d_B_memory_86
              · skip
                refine lv_aload_n hx hb d_B_memory_45 rfl (lv_at hl 0 rfl) ?_
                refine hk_get (v := .ref (ad 8)) C hP 0 4 5 i_B rfl rfl (by decide) (hk_in (by decide +kernel) rfl) rfl d_B_memory_46 ?_
                refine lv_iload_n hx hb d_B_memory_49 rfl (lv_at hl 2 rfl) ?_
                refine hk_ald C hP 8 3 (v := (ad 12)) rfl rfl (hk_inl (by decide)) rfl d_B_memory_50 ?_
                refine hk_getN (host := "BodyRows2") (v := .int ((b5 u 3).2.1)) C hP 12 2 1 i_Window rfl rfl (by decide) (by decide +kernel) rfl d_B_memory_51 ?_
                refine lv_goto (tgt := 61) hx hb d_B_memory_54 (by decide) ?_
                refine hk_ist (w2 := wB G ad (f_B_memory_61_1 (0 : Int32) (3 : Int32) u)) C hP hD hS 18 0 rfl rfl (hk_inl (by decide)) rfl d_B_memory_61 (fun H locs hP hD hS => ?_)
                have hI9 : Iv (f_B_memory_61_1 (0 : Int32) (3 : Int32) u) := (Iv_of (k2_f_B_memory_61_1 _ _ _) (k6_f_B_memory_61_1 _ _ _) hI)
                obtain ⟨U9, hU9⟩ : ∃ z, (f_B_memory_61_1 (0 : Int32) (3 : Int32) u) = z := ⟨_, rfl⟩
                rw [hU9] at hP hD hI9
                refine lv_goto (tgt := 78) hx hb d_B_memory_62 (by decide) ?_
                refine lv_aload_n hx hb d_B_memory_78 rfl (lv_at hl 0 rfl) ?_
                refine hk_get (v := .ref (ad 17)) C hP 0 4 7 i_B rfl rfl (by decide) (hk_in (by decide +kernel) rfl) rfl d_B_memory_79 ?_
                refine lv_iload_n hx hb d_B_memory_82 rfl (lv_at hl 1 rfl) ?_
                refine hk_aldg C hP 17 4 (v := (ad 18)) rfl rfl (hk_inl (by decide)) rfl d_B_memory_83 ?_
                refine lv_iload_n hx hb d_B_memory_84 rfl (lv_at hl 2 rfl) ?_
                refine hk_ild C hP 18 0 (v := (b7 U9 0) 3) rfl rfl (hk_inl (by decide)) rfl d_B_memory_85 ?_
                subst hU9
                have e : m_B_memory (0 : Int32) (3 : Int32) p3 u = ((b7 (f_B_memory_61_1 (0 : Int32) (3 : Int32) u) 0) 3, (f_B_memory_61_1 (0 : Int32) (3 : Int32) u)) := (if_neg c_1).trans ((if_neg c_2).trans ((if_neg c_3).trans ((if_pos c_4).trans ((if_neg c_5).trans (rfl)))))
                exact hk_ri C hAe hP hD hS (by rw [e]) (by rw [e]) d_B_memory_86
          · skip
            refine lv_aload_n hx hb d_B_memory_33 rfl (lv_at hl 0 rfl) ?_
            refine hk_get (v := .ref (ad 17)) C hP 0 4 7 i_B rfl rfl (by decide) (hk_in (by decide +kernel) rfl) rfl d_B_memory_34 ?_
            refine lv_iload_n hx hb d_B_memory_37 rfl (lv_at hl 1 rfl) ?_
            refine hk_aldg C hP 17 4 (v := (ad 19)) rfl rfl (hk_inl (by decide)) rfl d_B_memory_38 ?_
            refine lv_iload_n hx hb d_B_memory_39 rfl (lv_at hl 2 rfl) ?_
            refine lv_iload_n hx hb d_B_memory_40 rfl (lv_at hl 2 rfl) ?_
            refine lv_iconst (v := (4 : Int32)) hx hb d_B_memory_41 (by decide) ?_
            refine lv_icmp_ge (tgt := 57) hx hb d_B_memory_42 (by decide) (fun c_6 => ?_) (fun c_6 => ?_)
            · skip
              refine lv_aload_n hx hb d_B_memory_57 rfl (lv_at hl 0 rfl) ?_
              refine hk_get (v := .int (b9 u)) C hP 0 4 9 i_B rfl rfl (by decide) (hk_in (by decide +kernel) rfl) rfl d_B_memory_58 ?_
              refine hk_ist (w2 := wB G ad (f_B_memory_61 (1 : Int32) p2 u)) C hP hD hS 19 0 rfl rfl (hk_ib c_2 (N := 5) rfl) rfl d_B_memory_61 (fun H locs hP hD hS => ?_)
              have hI10 : Iv (f_B_memory_61 (1 : Int32) p2 u) := (Iv_of (k2_f_B_memory_61 _ _ _) (k6_f_B_memory_61 _ _ _) hI)
              obtain ⟨U10, hU10⟩ : ∃ z, (f_B_memory_61 (1 : Int32) p2 u) = z := ⟨_, rfl⟩
              rw [hU10] at hP hD hI10
              refine lv_goto (tgt := 78) hx hb d_B_memory_62 (by decide) ?_
              refine lv_aload_n hx hb d_B_memory_78 rfl (lv_at hl 0 rfl) ?_
              refine hk_get (v := .ref (ad 17)) C hP 0 4 7 i_B rfl rfl (by decide) (hk_in (by decide +kernel) rfl) rfl d_B_memory_79 ?_
              refine lv_iload_n hx hb d_B_memory_82 rfl (lv_at hl 1 rfl) ?_
              refine hk_aldg C hP 17 4 (v := (ad 19)) rfl rfl (hk_inl (by decide)) rfl d_B_memory_83 ?_
              refine lv_iload_n hx hb d_B_memory_84 rfl (lv_at hl 2 rfl) ?_
              refine hk_ild C hP 19 0 (v := (b7 U10 1) p2.toNatClampNeg) rfl rfl (by subst hU10; exact hk_ib c_2 (N := 5) rfl) rfl d_B_memory_85 ?_
              subst hU10
              have e : m_B_memory (1 : Int32) p2 p3 u = ((b7 (f_B_memory_61 (1 : Int32) p2 u) 1) p2.toNatClampNeg, (f_B_memory_61 (1 : Int32) p2 u)) := (if_neg c_1).trans ((if_neg c_2).trans ((if_neg c_3).trans ((if_pos c_4).trans ((if_pos c_6).trans (rfl)))))
              exact hk_ri C hAe hP hD hS (by rw [e]) (by rw [e]) d_B_memory_86
            · skip
              rcases hk_w4 c_2 c_6 with rfl | rfl | rfl | rfl
              · skip
                refine lv_aload_n hx hb d_B_memory_45 rfl (lv_at hl 0 rfl) ?_
                refine hk_get (v := .ref (ad 8)) C hP 0 4 5 i_B rfl rfl (by decide) (hk_in (by decide +kernel) rfl) rfl d_B_memory_46 ?_
                refine lv_iload_n hx hb d_B_memory_49 rfl (lv_at hl 2 rfl) ?_
                refine hk_ald C hP 8 3 (v := (ad 9)) rfl rfl (hk_inl (by decide)) rfl d_B_memory_50 ?_
                refine hk_getN (host := "BodyRows2") (v := .int ((b5 u 0).2.1)) C hP 9 2 1 i_Window rfl rfl (by decide) (by decide +kernel) rfl d_B_memory_51 ?_
                refine lv_goto (tgt := 61) hx hb d_B_memory_54 (by decide) ?_
                refine hk_ist (w2 := wB G ad (f_B_memory_61_1 (1 : Int32) (0 : Int32) u)) C hP hD hS 19 0 rfl rfl (hk_inl (by decide)) rfl d_B_memory_61 (fun H locs hP hD hS => ?_)
                have hI11 : Iv (f_B_memory_61_1 (1 : Int32) (0 : Int32) u) := (Iv_of (k2_f_B_memory_61_1 _ _ _) (k6_f_B_memory_61_1 _ _ _) hI)
                obtain ⟨U11, hU11⟩ : ∃ z, (f_B_memory_61_1 (1 : Int32) (0 : Int32) u) = z := ⟨_, rfl⟩
                rw [hU11] at hP hD hI11
                refine lv_goto (tgt := 78) hx hb d_B_memory_62 (by decide) ?_
                refine lv_aload_n hx hb d_B_memory_78 rfl (lv_at hl 0 rfl) ?_
                refine hk_get (v := .ref (ad 17)) C hP 0 4 7 i_B rfl rfl (by decide) (hk_in (by decide +kernel) rfl) rfl d_B_memory_79 ?_
                refine lv_iload_n hx hb d_B_memory_82 rfl (lv_at hl 1 rfl) ?_
                refine hk_aldg C hP 17 4 (v := (ad 19)) rfl rfl (hk_inl (by decide)) rfl d_B_memory_83 ?_
                refine lv_iload_n hx hb d_B_memory_84 rfl (lv_at hl 2 rfl) ?_
                refine hk_ild C hP 19 0 (v := (b7 U11 1) 0) rfl rfl (hk_inl (by decide)) rfl d_B_memory_85 ?_
                subst hU11
                have e : m_B_memory (1 : Int32) (0 : Int32) p3 u = ((b7 (f_B_memory_61_1 (1 : Int32) (0 : Int32) u) 1) 0, (f_B_memory_61_1 (1 : Int32) (0 : Int32) u)) := (if_neg c_1).trans ((if_neg c_2).trans ((if_neg c_3).trans ((if_pos c_4).trans ((if_neg c_6).trans (rfl)))))
                exact hk_ri C hAe hP hD hS (by rw [e]) (by rw [e]) d_B_memory_86
              · skip
                refine lv_aload_n hx hb d_B_memory_45 rfl (lv_at hl 0 rfl) ?_
                refine hk_get (v := .ref (ad 8)) C hP 0 4 5 i_B rfl rfl (by decide) (hk_in (by decide +kernel) rfl) rfl d_B_memory_46 ?_
                refine lv_iload_n hx hb d_B_memory_49 rfl (lv_at hl 2 rfl) ?_
                refine hk_ald C hP 8 3 (v := (ad 10)) rfl rfl (hk_inl (by decide)) rfl d_B_memory_50 ?_
                refine hk_getN (host := "BodyRows2") (v := .int ((b5 u 1).2.1)) C hP 10 2 1 i_Window rfl rfl (by decide) (by decide +kernel) rfl d_B_memory_51 ?_
                refine lv_goto (tgt := 61) hx hb d_B_memory_54 (by decide) ?_
                refine hk_ist (w2 := wB G ad (f_B_memory_61_1 (1 : Int32) (1 : Int32) u)) C hP hD hS 19 0 rfl rfl (hk_inl (by decide)) rfl d_B_memory_61 (fun H locs hP hD hS => ?_)
                have hI12 : Iv (f_B_memory_61_1 (1 : Int32) (1 : Int32) u) := (Iv_of (k2_f_B_memory_61_1 _ _ _) (k6_f_B_memory_61_1 _ _ _) hI)
                obtain ⟨U12, hU12⟩ : ∃ z, (f_B_memory_61_1 (1 : Int32) (1 : Int32) u) = z := ⟨_, rfl⟩
                rw [hU12] at hP hD hI12
                refine lv_goto (tgt := 78) hx hb d_B_memory_62 (by decide) ?_
                refine lv_aload_n hx hb d_B_memory_78 rfl (lv_at hl 0 rfl) ?_
                refine hk_get (v := .ref (ad 17)) C hP 0 4 7 i_B rfl rfl (by decide) (hk_in (by decide +kernel) rfl) rfl d_B_memory_79 ?_
                refine lv_iload_n hx hb d_B_memory_82 rfl (lv_at hl 1 rfl) ?_
                refine hk_aldg C hP 17 4 (v := (ad 19)) rfl rfl (hk_inl (by decide)) rfl d_B_memory_83 ?_
                refine lv_iload_n hx hb d_B_memory_84 rfl (lv_at hl 2 rfl) ?_
                refine hk_ild C hP 19 0 (v := (b7 U12 1) 1) rfl rfl (hk_inl (by decide)) rfl d_B_memory_85 ?_
                subst hU12
                have e : m_B_memory (1 : Int32) (1 : Int32) p3 u = ((b7 (f_B_memory_61_1 (1 : Int32) (1 : Int32) u) 1) 1, (f_B_memory_61_1 (1 : Int32) (1 : Int32) u)) := (if_neg c_1).trans ((if_neg c_2).trans ((if_neg c_3).trans ((if_pos c_4).trans ((if_neg c_6).trans (rfl)))))
                exact hk_ri C hAe hP hD hS (by rw [e]) (by rw [e]) d_B_memory_86
              · skip
                refine lv_aload_n hx hb d_B_memory_45 rfl (lv_at hl 0 rfl) ?_
                refine hk_get (v := .ref (ad 8)) C hP 0 4 5 i_B rfl rfl (by decide) (hk_in (by decide +kernel) rfl) rfl d_B_memory_46 ?_
                refine lv_iload_n hx hb d_B_memory_49 rfl (lv_at hl 2 rfl) ?_
                refine hk_ald C hP 8 3 (v := (ad 11)) rfl rfl (hk_inl (by decide)) rfl d_B_memory_50 ?_
                refine hk_getN (host := "BodyRows2") (v := .int ((b5 u 2).2.1)) C hP 11 2 1 i_Window rfl rfl (by decide) (by decide +kernel) rfl d_B_memory_51 ?_
                refine lv_goto (tgt := 61) hx hb d_B_memory_54 (by decide) ?_
                refine hk_ist (w2 := wB G ad (f_B_memory_61_1 (1 : Int32) (2 : Int32) u)) C hP hD hS 19 0 rfl rfl (hk_inl (by decide)) rfl d_B_memory_61 (fun H locs hP hD hS => ?_)
                have hI13 : Iv (f_B_memory_61_1 (1 : Int32) (2 : Int32) u) := (Iv_of (k2_f_B_memory_61_1 _ _ _) (k6_f_B_memory_61_1 _ _ _) hI)
                obtain ⟨U13, hU13⟩ : ∃ z, (f_B_memory_61_1 (1 : Int32) (2 : Int32) u) = z := ⟨_, rfl⟩
                rw [hU13] at hP hD hI13
                refine lv_goto (tgt := 78) hx hb d_B_memory_62 (by decide) ?_
                refine lv_aload_n hx hb d_B_memory_78 rfl (lv_at hl 0 rfl) ?_
                refine hk_get (v := .ref (ad 17)) C hP 0 4 7 i_B rfl rfl (by decide) (hk_in (by decide +kernel) rfl) rfl d_B_memory_79 ?_
                refine lv_iload_n hx hb d_B_memory_82 rfl (lv_at hl 1 rfl) ?_
                refine hk_aldg C hP 17 4 (v := (ad 19)) rfl rfl (hk_inl (by decide)) rfl d_B_memory_83 ?_
                refine lv_iload_n hx hb d_B_memory_84 rfl (lv_at hl 2 rfl) ?_
                refine hk_ild C hP 19 0 (v := (b7 U13 1) 2) rfl rfl (hk_inl (by decide)) rfl d_B_memory_85 ?_
                subst hU13
                have e : m_B_memory (1 : Int32) (2 : Int32) p3 u = ((b7 (f_B_memory_61_1 (1 : Int32) (2 : Int32) u) 1) 2, (f_B_memory_61_1 (1 : Int32) (2 : Int32) u)) := (if_neg c_1).trans ((if_neg c_2).trans ((if_neg c_3).trans ((if_pos c_4).trans ((if_neg c_6).trans (rfl)))))
                exact hk_ri C hAe hP hD hS (by rw [e]) (by rw [e]) d_B_memory_86
              · skip
                refine lv_aload_n hx hb d_B_memory_45 rfl (lv_at hl 0 rfl) ?_
                refine hk_get (v := .ref (ad 8)) C hP 0 4 5 i_B rfl rfl (by decide) (hk_in (by decide +kernel) rfl) rfl d_B_memory_46 ?_
                refine lv_iload_n hx hb d_B_memory_49 rfl (lv_at hl 2 rfl) ?_
                refine hk_ald C hP 8 3 (v := (ad 12)) rfl rfl (hk_inl (by decide)) rfl d_B_memory_50 ?_
                refine hk_getN (host := "BodyRows2") (v := .int ((b5 u 3).2.1)) C hP 12 2 1 i_Window rfl rfl (by decide) (by decide +kernel) rfl d_B_memory_51 ?_
                refine lv_goto (tgt := 61) hx hb d_B_memory_54 (by decide) ?_
                refine hk_ist (w2 := wB G ad (f_B_memory_61_1 (1 : Int32) (3 : Int32) u)) C hP hD hS 19 0 rfl rfl (hk_inl (by decide)) rfl d_B_memory_61 (fun H locs hP hD hS => ?_)
                have hI14 : Iv (f_B_memory_61_1 (1 : Int32) (3 : Int32) u) := (Iv_of (k2_f_B_memory_61_1 _ _ _) (k6_f_B_memory_61_1 _ _ _) hI)
                obtain ⟨U14, hU14⟩ : ∃ z, (f_B_memory_61_1 (1 : Int32) (3 : Int32) u) = z := ⟨_, rfl⟩
                rw [hU14] at hP hD hI14
                refine lv_goto (tgt := 78) hx hb d_B_memory_62 (by decide) ?_
                refine lv_aload_n hx hb d_B_memory_78 rfl (lv_at hl 0 rfl) ?_
                refine hk_get (v := .ref (ad 17)) C hP 0 4 7 i_B rfl rfl (by decide) (hk_in (by decide +kernel) rfl) rfl d_B_memory_79 ?_
                refine lv_iload_n hx hb d_B_memory_82 rfl (lv_at hl 1 rfl) ?_
                refine hk_aldg C hP 17 4 (v := (ad 19)) rfl rfl (hk_inl (by decide)) rfl d_B_memory_83 ?_
                refine lv_iload_n hx hb d_B_memory_84 rfl (lv_at hl 2 rfl) ?_
                refine hk_ild C hP 19 0 (v := (b7 U14 1) 3) rfl rfl (hk_inl (by decide)) rfl d_B_memory_85 ?_
                subst hU14
                have e : m_B_memory (1 : Int32) (3 : Int32) p3 u = ((b7 (f_B_memory_61_1 (1 : Int32) (3 : Int32) u) 1) 3, (f_B_memory_61_1 (1 : Int32) (3 : Int32) u)) := (if_neg c_1).trans ((if_neg c_2).trans ((if_neg c_3).trans ((if_pos c_4).trans ((if_neg c_6).trans (rfl)))))
                exact hk_ri C hAe hP hD hS (by rw [e]) (by rw [e]) d_B_memory_86
          · skip
            refine lv_aload_n hx hb d_B_memory_33 rfl (lv_at hl 0 rfl) ?_
            refine hk_get (v := .ref (ad 17)) C hP 0 4 7 i_B rfl rfl (by decide) (hk_in (by decide +kernel) rfl) rfl d_B_memory_34 ?_
            refine lv_iload_n hx hb d_B_memory_37 rfl (lv_at hl 1 rfl) ?_
            refine hk_aldg C hP 17 4 (v := (ad 20)) rfl rfl (hk_inl (by decide)) rfl d_B_memory_38 ?_
            refine lv_iload_n hx hb d_B_memory_39 rfl (lv_at hl 2 rfl) ?_
            refine lv_iload_n hx hb d_B_memory_40 rfl (lv_at hl 2 rfl) ?_
            refine lv_iconst (v := (4 : Int32)) hx hb d_B_memory_41 (by decide) ?_
            refine lv_icmp_ge (tgt := 57) hx hb d_B_memory_42 (by decide) (fun c_7 => ?_) (fun c_7 => ?_)
            · skip
              refine lv_aload_n hx hb d_B_memory_57 rfl (lv_at hl 0 rfl) ?_
              refine hk_get (v := .int (b9 u)) C hP 0 4 9 i_B rfl rfl (by decide) (hk_in (by decide +kernel) rfl) rfl d_B_memory_58 ?_
              refine hk_ist (w2 := wB G ad (f_B_memory_61 (2 : Int32) p2 u)) C hP hD hS 20 0 rfl rfl (hk_ib c_2 (N := 5) rfl) rfl d_B_memory_61 (fun H locs hP hD hS => ?_)
              have hI15 : Iv (f_B_memory_61 (2 : Int32) p2 u) := (Iv_of (k2_f_B_memory_61 _ _ _) (k6_f_B_memory_61 _ _ _) hI)
              obtain ⟨U15, hU15⟩ : ∃ z, (f_B_memory_61 (2 : Int32) p2 u) = z := ⟨_, rfl⟩
              rw [hU15] at hP hD hI15
              refine lv_goto (tgt := 78) hx hb d_B_memory_62 (by decide) ?_
              refine lv_aload_n hx hb d_B_memory_78 rfl (lv_at hl 0 rfl) ?_
              refine hk_get (v := .ref (ad 17)) C hP 0 4 7 i_B rfl rfl (by decide) (hk_in (by decide +kernel) rfl) rfl d_B_memory_79 ?_
              refine lv_iload_n hx hb d_B_memory_82 rfl (lv_at hl 1 rfl) ?_
              refine hk_aldg C hP 17 4 (v := (ad 20)) rfl rfl (hk_inl (by decide)) rfl d_B_memory_83 ?_
              refine lv_iload_n hx hb d_B_memory_84 rfl (lv_at hl 2 rfl) ?_
              refine hk_ild C hP 20 0 (v := (b7 U15 2) p2.toNatClampNeg) rfl rfl (by subst hU15; exact hk_ib c_2 (N := 5) rfl) rfl d_B_memory_85 ?_
              subst hU15
              have e : m_B_memory (2 : Int32) p2 p3 u = ((b7 (f_B_memory_61 (2 : Int32) p2 u) 2) p2.toNatClampNeg, (f_B_memory_61 (2 : Int32) p2 u)) := (if_neg c_1).trans ((if_neg c_2).trans ((if_neg c_3).trans ((if_pos c_4).trans ((if_pos c_7).trans (rfl)))))
              exact hk_ri C hAe hP hD hS (by rw [e]) (by rw [e]) d_B_memory_86
            · skip
              rcases hk_w4 c_2 c_7 with rfl | rfl | rfl | rfl
              · skip
                refine lv_aload_n hx hb d_B_memory_45 rfl (lv_at hl 0 rfl) ?_
                refine hk_get (v := .ref (ad 8)) C hP 0 4 5 i_B rfl rfl (by decide) (hk_in (by decide +kernel) rfl) rfl d_B_memory_46 ?_
                refine lv_iload_n hx hb d_B_memory_49 rfl (lv_at hl 2 rfl) ?_
                refine hk_ald C hP 8 3 (v := (ad 9)) rfl rfl (hk_inl (by decide)) rfl d_B_memory_50 ?_
                refine hk_getN (host := "BodyRows2") (v := .int ((b5 u 0).2.1)) C hP 9 2 1 i_Window rfl rfl (by decide) (by decide +kernel) rfl d_B_memory_51 ?_
                refine lv_goto (tgt := 61) hx hb d_B_memory_54 (by decide) ?_
                refine hk_ist (w2 := wB G ad (f_B_memory_61_1 (2 : Int32) (0 : Int32) u)) C hP hD hS 20 0 rfl rfl (hk_inl (by decide)) rfl d_B_memory_61 (fun H locs hP hD hS => ?_)
                have hI16 : Iv (f_B_memory_61_1 (2 : Int32) (0 : Int32) u) := (Iv_of (k2_f_B_memory_61_1 _ _ _) (k6_f_B_memory_61_1 _ _ _) hI)
                obtain ⟨U16, hU16⟩ : ∃ z, (f_B_memory_61_1 (2 : Int32) (0 : Int32) u) = z := ⟨_, rfl⟩
                rw [hU16] at hP hD hI16
                refine lv_goto (tgt := 78) hx hb d_B_memory_62 (by decide) ?_
                refine lv_aload_n hx hb d_B_memory_78 rfl (lv_at hl 0 rfl) ?_
                refine hk_get (v := .ref (ad 17)) C hP 0 4 7 i_B rfl rfl (by decide) (hk_in (by decide +kernel) rfl) rfl d_B_memory_79 ?_
                refine lv_iload_n hx hb d_B_memory_82 rfl (lv_at hl 1 rfl) ?_
                refine hk_aldg C hP 17 4 (v := (ad 20)) rfl rfl (hk_inl (by decide)) rfl d_B_memory_83 ?_
                refine lv_iload_n hx hb d_B_memory_84 rfl (lv_at hl 2 rfl) ?_
                refine hk_ild C hP 20 0 (v := (b7 U16 2) 0) rfl rfl (hk_inl (by decide)) rfl d_B_memory_85 ?_
                subst hU16
                have e : m_B_memory (2 : Int32) (0 : Int32) p3 u = ((b7 (f_B_memory_61_1 (2 : Int32) (0 : Int32) u) 2) 0, (f_B_memory_61_1 (2 : Int32) (0 : Int32) u)) := (if_neg c_1).trans ((if_neg c_2).trans ((if_neg c_3).trans ((if_pos c_4).trans ((if_neg c_7).trans (rfl)))))
                exact hk_ri C hAe hP hD hS (by rw [e]) (by rw [e]) d_B_memory_86
              · skip
                refine lv_aload_n hx hb d_B_memory_45 rfl (lv_at hl 0 rfl) ?_
                refine hk_get (v := .ref (ad 8)) C hP 0 4 5 i_B rfl rfl (by decide) (hk_in (by decide +kernel) rfl) rfl d_B_memory_46 ?_
                refine lv_iload_n hx hb d_B_memory_49 rfl (lv_at hl 2 rfl) ?_
                refine hk_ald C hP 8 3 (v := (ad 10)) rfl rfl (hk_inl (by decide)) rfl d_B_memory_50 ?_
                refine hk_getN (host := "BodyRows2") (v := .int ((b5 u 1).2.1)) C hP 10 2 1 i_Window rfl rfl (by decide) (by decide +kernel) rfl d_B_memory_51 ?_
                refine lv_goto (tgt := 61) hx hb d_B_memory_54 (by decide) ?_
                refine hk_ist (w2 := wB G ad (f_B_memory_61_1 (2 : Int32) (1 : Int32) u)) C hP hD hS 20 0 rfl rfl (hk_inl (by decide)) rfl d_B_memory_61 (fun H locs hP hD hS => ?_)
                have hI17 : Iv (f_B_memory_61_1 (2 : Int32) (1 : Int32) u) := (Iv_of (k2_f_B_memory_61_1 _ _ _) (k6_f_B_memory_61_1 _ _ _) hI)
                obtain ⟨U17, hU17⟩ : ∃ z, (f_B_memory_61_1 (2 : Int32) (1 : Int32) u) = z := ⟨_, rfl⟩
                rw [hU17] at hP hD hI17
                refine lv_goto (tgt := 78) hx hb d_B_memory_62 (by decide) ?_
                refine lv_aload_n hx hb d_B_memory_78 rfl (lv_at hl 0 rfl) ?_
                refine hk_get (v := .ref (ad 17)) C hP 0 4 7 i_B rfl rfl (by decide) (hk_in (by decide +kernel) rfl) rfl d_B_memory_79 ?_
                refine lv_iload_n hx hb d_B_memory_82 rfl (lv_at hl 1 rfl) ?_
                refine hk_aldg C hP 17 4 (v := (ad 20)) rfl rfl (hk_inl (by decide)) rfl d_B_memory_83 ?_
                refine lv_iload_n hx hb d_B_memory_84 rfl (lv_at hl 2 rfl) ?_
                refine hk_ild C hP 20 0 (v := (b7 U17 2) 1) rfl rfl (hk_inl (by decide)) rfl d_B_memory_85 ?_
                subst hU17
                have e : m_B_memory (2 : Int32) (1 : Int32) p3 u = ((b7 (f_B_memory_61_1 (2 : Int32) (1 : Int32) u) 2) 1, (f_B_memory_61_1 (2 : Int32) (1 : Int32) u)) := (if_neg c_1).trans ((if_neg c_2).trans ((if_neg c_3).trans ((if_pos c_4).trans ((if_neg c_7).trans (rfl)))))
                exact hk_ri C hAe hP hD hS (by rw [e]) (by rw [e]) d_B_memory_86
              · skip
                refine lv_aload_n hx hb d_B_memory_45 rfl (lv_at hl 0 rfl) ?_
                refine hk_get (v := .ref (ad 8)) C hP 0 4 5 i_B rfl rfl (by decide) (hk_in (by decide +kernel) rfl) rfl d_B_memory_46 ?_
                refine lv_iload_n hx hb d_B_memory_49 rfl (lv_at hl 2 rfl) ?_
                refine hk_ald C hP 8 3 (v := (ad 11)) rfl rfl (hk_inl (by decide)) rfl d_B_memory_50 ?_
                refine hk_getN (host := "BodyRows2") (v := .int ((b5 u 2).2.1)) C hP 11 2 1 i_Window rfl rfl (by decide) (by decide +kernel) rfl d_B_memory_51 ?_
                refine lv_goto (tgt := 61) hx hb d_B_memory_54 (by decide) ?_
                refine hk_ist (w2 := wB G ad (f_B_memory_61_1 (2 : Int32) (2 : Int32) u)) C hP hD hS 20 0 rfl rfl (hk_inl (by decide)) rfl d_B_memory_61 (fun H locs hP hD hS => ?_)
                have hI18 : Iv (f_B_memory_61_1 (2 : Int32) (2 : Int32) u) := (Iv_of (k2_f_B_memory_61_1 _ _ _) (k6_f_B_memory_61_1 _ _ _) hI)
                obtain ⟨U18, hU18⟩ : ∃ z, (f_B_memory_61_1 (2 : Int32) (2 : Int32) u) = z := ⟨_, rfl⟩
                rw [hU18] at hP hD hI18
                refine lv_goto (tgt := 78) hx hb d_B_memory_62 (by decide) ?_
                refine lv_aload_n hx hb d_B_memory_78 rfl (lv_at hl 0 rfl) ?_
                refine hk_get (v := .ref (ad 17)) C hP 0 4 7 i_B rfl rfl (by decide) (hk_in (by decide +kernel) rfl) rfl d_B_memory_79 ?_
                refine lv_iload_n hx hb d_B_memory_82 rfl (lv_at hl 1 rfl) ?_
                refine hk_aldg C hP 17 4 (v := (ad 20)) rfl rfl (hk_inl (by decide)) rfl d_B_memory_83 ?_
                refine lv_iload_n hx hb d_B_memory_84 rfl (lv_at hl 2 rfl) ?_
                refine hk_ild C hP 20 0 (v := (b7 U18 2) 2) rfl rfl (hk_inl (by decide)) rfl d_B_memory_85 ?_
                subst hU18
                have e : m_B_memory (2 : Int32) (2 : Int32) p3 u = ((b7 (f_B_memory_61_1 (2 : Int32) (2 : Int32) u) 2) 2, (f_B_memory_61_1 (2 : Int32) (2 : Int32) u)) := (if_neg c_1).trans ((if_neg c_2).trans ((if_neg c_3).trans ((if_pos c_4).trans ((if_neg c_7).trans (rfl)))))
                exact hk_ri C hAe hP hD hS (by rw [e]) (by rw [e]) d_B_memory_86
              · skip
                refine lv_aload_n hx hb d_B_memory_45 rfl (lv_at hl 0 rfl) ?_
                refine hk_get (v := .ref (ad 8)) C hP 0 4 5 i_B rfl rfl (by decide) (hk_in (by decide +kernel) rfl) rfl d_B_memory_46 ?_
                refine lv_iload_n hx hb d_B_memory_49 rfl (lv_at hl 2 rfl) ?_
                refine hk_ald C hP 8 3 (v := (ad 12)) rfl rfl (hk_inl (by decide)) rfl d_B_memory_50 ?_
                refine hk_getN (host := "BodyRows2") (v := .int ((b5 u 3).2.1)) C hP 12 2 1 i_Window rfl rfl (by decide) (by decide +kernel) rfl d_B_memory_51 ?_
                refine lv_goto (tgt := 61) hx hb d_B_memory_54 (by decide) ?_
                refine hk_ist (w2 := wB G ad (f_B_memory_61_1 (2 : Int32) (3 : Int32) u)) C hP hD hS 20 0 rfl rfl (hk_inl (by decide)) rfl d_B_memory_61 (fun H locs hP hD hS => ?_)
                have hI19 : Iv (f_B_memory_61_1 (2 : Int32) (3 : Int32) u) := (Iv_of (k2_f_B_memory_61_1 _ _ _) (k6_f_B_memory_61_1 _ _ _) hI)
                obtain ⟨U19, hU19⟩ : ∃ z, (f_B_memory_61_1 (2 : Int32) (3 : Int32) u) = z := ⟨_, rfl⟩
                rw [hU19] at hP hD hI19
                refine lv_goto (tgt := 78) hx hb d_B_memory_62 (by decide) ?_
                refine lv_aload_n hx hb d_B_memory_78 rfl (lv_at hl 0 rfl) ?_
                refine hk_get (v := .ref (ad 17)) C hP 0 4 7 i_B rfl rfl (by decide) (hk_in (by decide +kernel) rfl) rfl d_B_memory_79 ?_
                refine lv_iload_n hx hb d_B_memory_82 rfl (lv_at hl 1 rfl) ?_
                refine hk_aldg C hP 17 4 (v := (ad 20)) rfl rfl (hk_inl (by decide)) rfl d_B_memory_83 ?_
                refine lv_iload_n hx hb d_B_memory_84 rfl (lv_at hl 2 rfl) ?_
                refine hk_ild C hP 20 0 (v := (b7 U19 2) 3) rfl rfl (hk_inl (by decide)) rfl d_B_memory_85 ?_
                subst hU19
                have e : m_B_memory (2 : Int32) (3 : Int32) p3 u = ((b7 (f_B_memory_61_1 (2 : Int32) (3 : Int32) u) 2) 3, (f_B_memory_61_1 (2 : Int32) (3 : Int32) u)) := (if_neg c_1).trans ((if_neg c_2).trans ((if_neg c_3).trans ((if_pos c_4).trans ((if_neg c_7).trans (rfl)))))
                exact hk_ri C hAe hP hD hS (by rw [e]) (by rw [e]) d_B_memory_86
          · skip
            refine lv_aload_n hx hb d_B_memory_33 rfl (lv_at hl 0 rfl) ?_
            refine hk_get (v := .ref (ad 17)) C hP 0 4 7 i_B rfl rfl (by decide) (hk_in (by decide +kernel) rfl) rfl d_B_memory_34 ?_
            refine lv_iload_n hx hb d_B_memory_37 rfl (lv_at hl 1 rfl) ?_
            refine hk_aldg C hP 17 4 (v := (ad 21)) rfl rfl (hk_inl (by decide)) rfl d_B_memory_38 ?_
            refine lv_iload_n hx hb d_B_memory_39 rfl (lv_at hl 2 rfl) ?_
            refine lv_iload_n hx hb d_B_memory_40 rfl (lv_at hl 2 rfl) ?_
            refine lv_iconst (v := (4 : Int32)) hx hb d_B_memory_41 (by decide) ?_
            refine lv_icmp_ge (tgt := 57) hx hb d_B_memory_42 (by decide) (fun c_8 => ?_) (fun c_8 => ?_)
            · skip
              refine lv_aload_n hx hb d_B_memory_57 rfl (lv_at hl 0 rfl) ?_
              refine hk_get (v := .int (b9 u)) C hP 0 4 9 i_B rfl rfl (by decide) (hk_in (by decide +kernel) rfl) rfl d_B_memory_58 ?_
              refine hk_ist (w2 := wB G ad (f_B_memory_61 (3 : Int32) p2 u)) C hP hD hS 21 0 rfl rfl (hk_ib c_2 (N := 5) rfl) rfl d_B_memory_61 (fun H locs hP hD hS => ?_)
              have hI20 : Iv (f_B_memory_61 (3 : Int32) p2 u) := (Iv_of (k2_f_B_memory_61 _ _ _) (k6_f_B_memory_61 _ _ _) hI)
              obtain ⟨U20, hU20⟩ : ∃ z, (f_B_memory_61 (3 : Int32) p2 u) = z := ⟨_, rfl⟩
              rw [hU20] at hP hD hI20
              refine lv_goto (tgt := 78) hx hb d_B_memory_62 (by decide) ?_
              refine lv_aload_n hx hb d_B_memory_78 rfl (lv_at hl 0 rfl) ?_
              refine hk_get (v := .ref (ad 17)) C hP 0 4 7 i_B rfl rfl (by decide) (hk_in (by decide +kernel) rfl) rfl d_B_memory_79 ?_
              refine lv_iload_n hx hb d_B_memory_82 rfl (lv_at hl 1 rfl) ?_
              refine hk_aldg C hP 17 4 (v := (ad 21)) rfl rfl (hk_inl (by decide)) rfl d_B_memory_83 ?_
              refine lv_iload_n hx hb d_B_memory_84 rfl (lv_at hl 2 rfl) ?_
              refine hk_ild C hP 21 0 (v := (b7 U20 3) p2.toNatClampNeg) rfl rfl (by subst hU20; exact hk_ib c_2 (N := 5) rfl) rfl d_B_memory_85 ?_
              subst hU20
              have e : m_B_memory (3 : Int32) p2 p3 u = ((b7 (f_B_memory_61 (3 : Int32) p2 u) 3) p2.toNatClampNeg, (f_B_memory_61 (3 : Int32) p2 u)) := (if_neg c_1).trans ((if_neg c_2).trans ((if_neg c_3).trans ((if_pos c_4).trans ((if_pos c_8).trans (rfl)))))
              exact hk_ri C hAe hP hD hS (by rw [e]) (by rw [e]) d_B_memory_86
            · skip
              rcases hk_w4 c_2 c_8 with rfl | rfl | rfl | rfl
              · skip
                refine lv_aload_n hx hb d_B_memory_45 rfl (lv_at hl 0 rfl) ?_
                refine hk_get (v := .ref (ad 8)) C hP 0 4 5 i_B rfl rfl (by decide) (hk_in (by decide +kernel) rfl) rfl d_B_memory_46 ?_
                refine lv_iload_n hx hb d_B_memory_49 rfl (lv_at hl 2 rfl) ?_
                refine hk_ald C hP 8 3 (v := (ad 9)) rfl rfl (hk_inl (by decide)) rfl d_B_memory_50 ?_
                refine hk_getN (host := "BodyRows2") (v := .int ((b5 u 0).2.1)) C hP 9 2 1 i_Window rfl rfl (by decide) (by decide +kernel) rfl d_B_memory_51 ?_
                refine lv_goto (tgt := 61) hx hb d_B_memory_54 (by decide) ?_
                refine hk_ist (w2 := wB G ad (f_B_memory_61_1 (3 : Int32) (0 : Int32) u)) C hP hD hS 21 0 rfl rfl (hk_inl (by decide)) rfl d_B_memory_61 (fun H locs hP hD hS => ?_)
                have hI21 : Iv (f_B_memory_61_1 (3 : Int32) (0 : Int32) u) := (Iv_of (k2_f_B_memory_61_1 _ _ _) (k6_f_B_memory_61_1 _ _ _) hI)
                obtain ⟨U21, hU21⟩ : ∃ z, (f_B_memory_61_1 (3 : Int32) (0 : Int32) u) = z := ⟨_, rfl⟩
                rw [hU21] at hP hD hI21
                refine lv_goto (tgt := 78) hx hb d_B_memory_62 (by decide) ?_
                refine lv_aload_n hx hb d_B_memory_78 rfl (lv_at hl 0 rfl) ?_
                refine hk_get (v := .ref (ad 17)) C hP 0 4 7 i_B rfl rfl (by decide) (hk_in (by decide +kernel) rfl) rfl d_B_memory_79 ?_
                refine lv_iload_n hx hb d_B_memory_82 rfl (lv_at hl 1 rfl) ?_
                refine hk_aldg C hP 17 4 (v := (ad 21)) rfl rfl (hk_inl (by decide)) rfl d_B_memory_83 ?_
                refine lv_iload_n hx hb d_B_memory_84 rfl (lv_at hl 2 rfl) ?_
                refine hk_ild C hP 21 0 (v := (b7 U21 3) 0) rfl rfl (hk_inl (by decide)) rfl d_B_memory_85 ?_
                subst hU21
                have e : m_B_memory (3 : Int32) (0 : Int32) p3 u = ((b7 (f_B_memory_61_1 (3 : Int32) (0 : Int32) u) 3) 0, (f_B_memory_61_1 (3 : Int32) (0 : Int32) u)) := (if_neg c_1).trans ((if_neg c_2).trans ((if_neg c_3).trans ((if_pos c_4).trans ((if_neg c_8).trans (rfl)))))
                exact hk_ri C hAe hP hD hS (by rw [e]) (by rw [e]) d_B_memory_86
              · skip
                refine lv_aload_n hx hb d_B_memory_45 rfl (lv_at hl 0 rfl) ?_
                refine hk_get (v := .ref (ad 8)) C hP 0 4 5 i_B rfl rfl (by decide) (hk_in (by decide +kernel) rfl) rfl d_B_memory_46 ?_
                refine lv_iload_n hx hb d_B_memory_49 rfl (lv_at hl 2 rfl) ?_
                refine hk_ald C hP 8 3 (v := (ad 10)) rfl rfl (hk_inl (by decide)) rfl d_B_memory_50 ?_
                refine hk_getN (host := "BodyRows2") (v := .int ((b5 u 1).2.1)) C hP 10 2 1 i_Window rfl rfl (by decide) (by decide +kernel) rfl d_B_memory_51 ?_
                refine lv_goto (tgt := 61) hx hb d_B_memory_54 (by decide) ?_
                refine hk_ist (w2 := wB G ad (f_B_memory_61_1 (3 : Int32) (1 : Int32) u)) C hP hD hS 21 0 rfl rfl (hk_inl (by decide)) rfl d_B_memory_61 (fun H locs hP hD hS => ?_)
                have hI22 : Iv (f_B_memory_61_1 (3 : Int32) (1 : Int32) u) := (Iv_of (k2_f_B_memory_61_1 _ _ _) (k6_f_B_memory_61_1 _ _ _) hI)
                obtain ⟨U22, hU22⟩ : ∃ z, (f_B_memory_61_1 (3 : Int32) (1 : Int32) u) = z := ⟨_, rfl⟩
                rw [hU22] at hP hD hI22
                refine lv_goto (tgt := 78) hx hb d_B_memory_62 (by decide) ?_
                refine lv_aload_n hx hb d_B_memory_78 rfl (lv_at hl 0 rfl) ?_
                refine hk_get (v := .ref (ad 17)) C hP 0 4 7 i_B rfl rfl (by decide) (hk_in (by decide +kernel) rfl) rfl d_B_memory_79 ?_
                refine lv_iload_n hx hb d_B_memory_82 rfl (lv_at hl 1 rfl) ?_
                refine hk_aldg C hP 17 4 (v := (ad 21)) rfl rfl (hk_inl (by decide)) rfl d_B_memory_83 ?_
                refine lv_iload_n hx hb d_B_memory_84 rfl (lv_at hl 2 rfl) ?_
                refine hk_ild C hP 21 0 (v := (b7 U22 3) 1) rfl rfl (hk_inl (by decide)) rfl d_B_memory_85 ?_
                subst hU22
                have e : m_B_memory (3 : Int32) (1 : Int32) p3 u = ((b7 (f_B_memory_61_1 (3 : Int32) (1 : Int32) u) 3) 1, (f_B_memory_61_1 (3 : Int32) (1 : Int32) u)) := (if_neg c_1).trans ((if_neg c_2).trans ((if_neg c_3).trans ((if_pos c_4).trans ((if_neg c_8).trans (rfl)))))
                exact hk_ri C hAe hP hD hS (by rw [e]) (by rw [e]) d_B_memory_86
              · skip
                refine lv_aload_n hx hb d_B_memory_45 rfl (lv_at hl 0 rfl) ?_
                refine hk_get (v := .ref (ad 8)) C hP 0 4 5 i_B rfl rfl (by decide) (hk_in (by decide +kernel) rfl) rfl d_B_memory_46 ?_
                refine lv_iload_n hx hb d_B_memory_49 rfl (lv_at hl 2 rfl) ?_
                refine hk_ald C hP 8 3 (v := (ad 11)) rfl rfl (hk_inl (by decide)) rfl d_B_memory_50 ?_
                refine hk_getN (host := "BodyRows2") (v := .int ((b5 u 2).2.1)) C hP 11 2 1 i_Window rfl rfl (by decide) (by decide +kernel) rfl d_B_memory_51 ?_
                refine lv_goto (tgt := 61) hx hb d_B_memory_54 (by decide) ?_
                refine hk_ist (w2 := wB G ad (f_B_memory_61_1 (3 : Int32) (2 : Int32) u)) C hP hD hS 21 0 rfl rfl (hk_inl (by decide)) rfl d_B_memory_61 (fun H locs hP hD hS => ?_)
                have hI23 : Iv (f_B_memory_61_1 (3 : Int32) (2 : Int32) u) := (Iv_of (k2_f_B_memory_61_1 _ _ _) (k6_f_B_memory_61_1 _ _ _) hI)
                obtain ⟨U23, hU23⟩ : ∃ z, (f_B_memory_61_1 (3 : Int32) (2 : Int32) u) = z := ⟨_, rfl⟩
                rw [hU23] at hP hD hI23
                refine lv_goto (tgt := 78) hx hb d_B_memory_62 (by decide) ?_
                refine lv_aload_n hx hb d_B_memory_78 rfl (lv_at hl 0 rfl) ?_
                refine hk_get (v := .ref (ad 17)) C hP 0 4 7 i_B rfl rfl (by decide) (hk_in (by decide +kernel) rfl) rfl d_B_memory_79 ?_
                refine lv_iload_n hx hb d_B_memory_82 rfl (lv_at hl 1 rfl) ?_
                refine hk_aldg C hP 17 4 (v := (ad 21)) rfl rfl (hk_inl (by decide)) rfl d_B_memory_83 ?_
                refine lv_iload_n hx hb d_B_memory_84 rfl (lv_at hl 2 rfl) ?_
                refine hk_ild C hP 21 0 (v := (b7 U23 3) 2) rfl rfl (hk_inl (by decide)) rfl d_B_memory_85 ?_
                subst hU23
                have e : m_B_memory (3 : Int32) (2 : Int32) p3 u = ((b7 (f_B_memory_61_1 (3 : Int32) (2 : Int32) u) 3) 2, (f_B_memory_61_1 (3 : Int32) (2 : Int32) u)) := (if_neg c_1).trans ((if_neg c_2).trans ((if_neg c_3).trans ((if_pos c_4).trans ((if_neg c_8).trans (rfl)))))
                exact hk_ri C hAe hP hD hS (by rw [e]) (by rw [e]) d_B_memory_86
              · skip
                refine lv_aload_n hx hb d_B_memory_45 rfl (lv_at hl 0 rfl) ?_
                refine hk_get (v := .ref (ad 8)) C hP 0 4 5 i_B rfl rfl (by decide) (hk_in (by decide +kernel) rfl) rfl d_B_memory_46 ?_
                refine lv_iload_n hx hb d_B_memory_49 rfl (lv_at hl 2 rfl) ?_
                refine hk_ald C hP 8 3 (v := (ad 12)) rfl rfl (hk_inl (by decide)) rfl d_B_memory_50 ?_
                refine hk_getN (host := "BodyRows2") (v := .int ((b5 u 3).2.1)) C hP 12 2 1 i_Window rfl rfl (by decide) (by decide +kernel) rfl d_B_memory_51 ?_
                refine lv_goto (tgt := 61) hx hb d_B_memory_54 (by decide) ?_
                refine hk_ist (w2 := wB G ad (f_B_memory_61_1 (3 : Int32) (3 : Int32) u)) C hP hD hS 21 0 rfl rfl (hk_inl (by decide)) rfl d_B_memory_61 (fun H locs hP hD hS => ?_)
                have hI24 : Iv (f_B_memory_61_1 (3 : Int32) (3 : Int32) u) := (Iv_of (k2_f_B_memory_61_1 _ _ _) (k6_f_B_memory_61_1 _ _ _) hI)
                obtain ⟨U24, hU24⟩ : ∃ z, (f_B_memory_61_1 (3 : Int32) (3 : Int32) u) = z := ⟨_, rfl⟩
                rw [hU24] at hP hD hI24
                refine lv_goto (tgt := 78) hx hb d_B_memory_62 (by decide) ?_
                refine lv_aload_n hx hb d_B_memory_78 rfl (lv_at hl 0 rfl) ?_
                refine hk_get (v := .ref (ad 17)) C hP 0 4 7 i_B rfl rfl (by decide) (hk_in (by decide +kernel) rfl) rfl d_B_memory_79 ?_
                refine lv_iload_n hx hb d_B_memory_82 rfl (lv_at hl 1 rfl) ?_
                refine hk_aldg C hP 17 4 (v := (ad 21)) rfl rfl (hk_inl (by decide)) rfl d_B_memory_83 ?_
                refine lv_iload_n hx hb d_B_memory_84 rfl (lv_at hl 2 rfl) ?_
                refine hk_ild C hP 21 0 (v := (b7 U24 3) 3) rfl rfl (hk_inl (by decide)) rfl d_B_memory_85 ?_
                subst hU24
                have e : m_B_memory (3 : Int32) (3 : Int32) p3 u = ((b7 (f_B_memory_61_1 (3 : Int32) (3 : Int32) u) 3) 3, (f_B_memory_61_1 (3 : Int32) (3 : Int32) u)) := (if_neg c_1).trans ((if_neg c_2).trans ((if_neg c_3).trans ((if_pos c_4).trans ((if_neg c_8).trans (rfl)))))
                exact hk_ri C hAe hP hD hS (by rw [e]) (by rw [e]) d_B_memory_86
      · skip
        refine lv_bipush (v := (-2 : Int32)) hx hb d_B_memory_26 (by decide) ?_
        have e : m_B_memory p1 p2 p3 u = ((-2 : Int32), u) := (if_neg c_1).trans ((if_neg c_2).trans ((if_pos c_3).trans (rfl)))
        exact hk_ri C hAe hP hD hS (by rw [e]) (by rw [e]) d_B_memory_28
  · skip
    refine lv_iconst (v := (-1 : Int32)) hx hb d_B_memory_8 (by decide) ?_
    have e : m_B_memory p1 p2 p3 u = ((-1 : Int32), u) := (if_pos c_1).trans (rfl)
    exact hk_ri C hAe hP hD hS (by rw [e]) (by rw [e]) d_B_memory_9
theorem Y_B_trailer : hk_Y y_B_trailer b_B_trailer 2 (some .int) 1 := ⟨hk_in (by decide +kernel) rfl, hk_in (by decide +kernel) rfl, hk_in (by decide +kernel) rfl, hk_in (List.mem_of_getElem? (i := 424) rfl) rfl, by decide, by decide, by decide +kernel⟩
abbrev rm_B_trailer : Room := { frames := 5, cells := 0, slots := 0, locals := 105 }
set_option maxHeartbeats 4000000 in
set_option maxRecDepth 100000 in
theorem c_B_trailer (l : Launch) (G : hk_G) (ad : Nat → Nat) (u : cB) (p1 : Int32) (hI : Iv u) (h01 : p1 = 0 ∨ p1 = 1) : hk_I l G y_B_trailer b_B_trailer 2 (some .int) rm_B_trailer [.ref (ad 0), .int p1] (wB G ad u) ((m_B_trailer p1 u).1) (wB G ad ((m_B_trailer p1 u).2)) := by
  refine hk_I_of (by decide) (Nat.le_of_ble_eq_true rfl) ?_
  intro p e s m below meth c A ls C hAe hA hP hD hS hl
  have hx := C.1
  have hb := C.2.1
  have hown := C.2.2.2.2.1
  have hts := C.2.2.2.2.2.1
  have hE := C.2.2.2.2.2.2.2
  have hl : lv_has ls 2 [(0, .ref (ad 0)), (1, .int p1)] := hl
  refine lv_aload_n hx hb d_B_trailer_0 rfl (lv_at hl 0 rfl) ?_
  refine hk_goV (hk_kV (k := 0) (As := []) (rest := []) C (c_B_noteOutputs l G ad u hI _) Y_B_noteOutputs (hk_in (by decide +kernel) rfl) rfl rfl ⟨Nat.le_of_ble_eq_true rfl, Nat.le_of_ble_eq_true rfl⟩ (va_recv hE.1 hP (ci := 4) (q0 := 0) rfl rfl) hP hD rfl hl.1 rfl (Nat.le_of_ble_eq_true rfl) d_B_trailer_1 ⟨Nat.zero_le _, Nat.zero_le _⟩) hD hS hA (fun H locs hP hD hS => ?_)
  have hI1 : Iv (m_B_noteOutputs u) := (km_B_noteOutputs hI)
  obtain ⟨U1, hU1⟩ : ∃ z, (m_B_noteOutputs u) = z := ⟨_, rfl⟩
  rw [hU1] at hP hD hI1
  refine lv_aload_n hx hb d_B_trailer_4 rfl (lv_at hl 0 rfl) ?_
  refine lv_iload_n hx hb d_B_trailer_5 rfl (lv_at hl 1 rfl) ?_
  refine hk_put (w2 := wB G ad (f_B_trailer_6 p1 U1)) (v := .int p1) (ty := .boolean) C hP hD hS 0 4 13 i_B t_B_ok n_B rfl rfl (by decide) (hk_in (by decide +kernel) rfl) rfl (by decide +kernel) (hk_nb h01) (hk_fb h01) (Nat.le_of_ble_eq_true rfl) rfl d_B_trailer_6 (fun H locs hP hD hS => ?_)
  have hI2 : Iv (f_B_trailer_6 p1 U1) := (Iv_of (k2_f_B_trailer_6 _ _) (k6_f_B_trailer_6 _ _) hI1)
  obtain ⟨U2, hU2⟩ : ∃ z, (f_B_trailer_6 p1 U1) = z := ⟨_, rfl⟩
  rw [hU2] at hP hD hI2
  refine lv_aload_n hx hb d_B_trailer_9 rfl (lv_at hl 0 rfl) ?_
  refine hk_goI (hk_kV (k := 0) (As := []) (rest := []) C (c_B_countChangedOutputs l G ad U2 hI2 _) Y_B_countChangedOutputs (hk_in (by decide +kernel) rfl) rfl rfl ⟨Nat.le_of_ble_eq_true rfl, Nat.le_of_ble_eq_true rfl⟩ (va_recv hE.1 hP (ci := 4) (q0 := 0) rfl rfl) hP hD rfl hl.1 rfl (Nat.le_of_ble_eq_true rfl) d_B_trailer_10 ⟨Nat.zero_le _, Nat.zero_le _⟩) hD hS hA (fun H locs hP hD hS => ?_)
  subst hU1 hU2
  have e : m_B_trailer p1 u = (m_B_countChangedOutputs (f_B_trailer_6 p1 (m_B_noteOutputs u)), (f_B_trailer_6 p1 (m_B_noteOutputs u))) := rfl
  exact hk_ri C hAe hP hD hS (by rw [e]) (by rw [e]) d_B_trailer_13
theorem Y_B_state : hk_Y y_B_state b_B_state 2 (some .int) 1 := ⟨hk_in (by decide +kernel) rfl, hk_in (by decide +kernel) rfl, hk_in (by decide +kernel) rfl, hk_in (List.mem_of_getElem? (i := 428) rfl) rfl, by decide, by decide, by decide +kernel⟩
abbrev rm_B_state : Room := { frames := 1, cells := 0, slots := 0, locals := 20 }
set_option maxHeartbeats 4000000 in
set_option maxRecDepth 100000 in
theorem c_B_state (l : Launch) (G : hk_G) (ad : Nat → Nat) (u : cB) (p1 : Int32) (hI : Iv u) : hk_I l G y_B_state b_B_state 2 (some .int) rm_B_state [.ref (ad 0), .int p1] (wB G ad u) (m_B_state p1 u) (wB G ad u) := by
  refine hk_I_of (by decide) (Nat.le_of_ble_eq_true rfl) ?_
  intro p e s m below meth c A ls C hAe hA hP hD hS hl
  have hx := C.1
  have hb := C.2.1
  have hown := C.2.2.2.2.1
  have hts := C.2.2.2.2.2.1
  have hE := C.2.2.2.2.2.2.2
  have hl : lv_has ls 2 [(0, .ref (ad 0)), (1, .int p1)] := hl
  rcases hk_s10 p1 with rfl | rfl | rfl | rfl | rfl | rfl | rfl | rfl | rfl | rfl | ho
  · skip
    refine lv_iload_n hx hb d_B_state_0 rfl (lv_at hl 1 rfl) ?_
    refine lv_tableIn (tgt := 56) (off := 55) hx hb d_B_state_1 (by decide) (by decide) rfl (by decide) ?_
    refine lv_aload_n hx hb d_B_state_56 rfl (lv_at hl 0 rfl) ?_
    refine hk_get (v := .ref (ad 8)) C hP 0 4 5 i_B rfl rfl (by decide) (hk_in (by decide +kernel) rfl) rfl d_B_state_57 ?_
    refine lv_iload_n hx hb d_B_state_60 rfl (lv_at hl 1 rfl) ?_
    refine hk_ald C hP 8 3 (v := (ad 9)) rfl rfl (hk_inl (by decide)) rfl d_B_state_61 ?_
    refine hk_getN (host := "BodyRows2") (v := .int ((b5 u 0).1)) C hP 9 2 0 i_Window rfl rfl (by decide) (by decide +kernel) rfl d_B_state_62 ?_
    have e : m_B_state (0 : Int32) u = (b5 u 0).1 := (if_pos rfl).trans (rfl)
    exact hk_ri C hAe hP hD hS e.symm rfl d_B_state_65
  · skip
    refine lv_iload_n hx hb d_B_state_0 rfl (lv_at hl 1 rfl) ?_
    refine lv_tableIn (tgt := 56) (off := 55) hx hb d_B_state_1 (by decide) (by decide) rfl (by decide) ?_
    refine lv_aload_n hx hb d_B_state_56 rfl (lv_at hl 0 rfl) ?_
    refine hk_get (v := .ref (ad 8)) C hP 0 4 5 i_B rfl rfl (by decide) (hk_in (by decide +kernel) rfl) rfl d_B_state_57 ?_
    refine lv_iload_n hx hb d_B_state_60 rfl (lv_at hl 1 rfl) ?_
    refine hk_ald C hP 8 3 (v := (ad 10)) rfl rfl (hk_inl (by decide)) rfl d_B_state_61 ?_
    refine hk_getN (host := "BodyRows2") (v := .int ((b5 u 1).1)) C hP 10 2 0 i_Window rfl rfl (by decide) (by decide +kernel) rfl d_B_state_62 ?_
    have e : m_B_state (1 : Int32) u = (b5 u 1).1 := (if_neg (by decide)).trans ((if_pos rfl).trans (rfl))
    exact hk_ri C hAe hP hD hS e.symm rfl d_B_state_65
  · skip
    refine lv_iload_n hx hb d_B_state_0 rfl (lv_at hl 1 rfl) ?_
    refine lv_tableIn (tgt := 56) (off := 55) hx hb d_B_state_1 (by decide) (by decide) rfl (by decide) ?_
    refine lv_aload_n hx hb d_B_state_56 rfl (lv_at hl 0 rfl) ?_
    refine hk_get (v := .ref (ad 8)) C hP 0 4 5 i_B rfl rfl (by decide) (hk_in (by decide +kernel) rfl) rfl d_B_state_57 ?_
    refine lv_iload_n hx hb d_B_state_60 rfl (lv_at hl 1 rfl) ?_
    refine hk_ald C hP 8 3 (v := (ad 11)) rfl rfl (hk_inl (by decide)) rfl d_B_state_61 ?_
    refine hk_getN (host := "BodyRows2") (v := .int ((b5 u 2).1)) C hP 11 2 0 i_Window rfl rfl (by decide) (by decide +kernel) rfl d_B_state_62 ?_
    have e : m_B_state (2 : Int32) u = (b5 u 2).1 := (if_neg (by decide)).trans ((if_neg (by decide)).trans ((if_pos rfl).trans (rfl)))
    exact hk_ri C hAe hP hD hS e.symm rfl d_B_state_65
  · skip
    refine lv_iload_n hx hb d_B_state_0 rfl (lv_at hl 1 rfl) ?_
    refine lv_tableIn (tgt := 56) (off := 55) hx hb d_B_state_1 (by decide) (by decide) rfl (by decide) ?_
    refine lv_aload_n hx hb d_B_state_56 rfl (lv_at hl 0 rfl) ?_
    refine hk_get (v := .ref (ad 8)) C hP 0 4 5 i_B rfl rfl (by decide) (hk_in (by decide +kernel) rfl) rfl d_B_state_57 ?_
    refine lv_iload_n hx hb d_B_state_60 rfl (lv_at hl 1 rfl) ?_
    refine hk_ald C hP 8 3 (v := (ad 12)) rfl rfl (hk_inl (by decide)) rfl d_B_state_61 ?_
    refine hk_getN (host := "BodyRows2") (v := .int ((b5 u 3).1)) C hP 12 2 0 i_Window rfl rfl (by decide) (by decide +kernel) rfl d_B_state_62 ?_
    have e : m_B_state (3 : Int32) u = (b5 u 3).1 := (if_neg (by decide)).trans ((if_neg (by decide)).trans ((if_neg (by decide)).trans ((if_pos rfl).trans (rfl))))
    exact hk_ri C hAe hP hD hS e.symm rfl d_B_state_65
  · skip
    refine lv_iload_n hx hb d_B_state_0 rfl (lv_at hl 1 rfl) ?_
    refine lv_tableIn (tgt := 66) (off := 65) hx hb d_B_state_1 (by decide) (by decide) rfl (by decide) ?_
    refine lv_aload_n hx hb d_B_state_66 rfl (lv_at hl 0 rfl) ?_
    refine hk_get (v := .ref (ad 7)) C hP 0 4 4 i_B rfl rfl (by decide) (hk_in (by decide +kernel) rfl) rfl d_B_state_67 ?_
    refine hk_getN (host := "BodyRows2") (v := .int ((b4 u).1)) C hP 7 1 0 i_Wiper rfl rfl (by decide) (by decide +kernel) rfl d_B_state_70 ?_
    have e : m_B_state (4 : Int32) u = (b4 u).1 := (if_neg (by decide)).trans ((if_neg (by decide)).trans ((if_neg (by decide)).trans ((if_neg (by decide)).trans ((if_pos rfl).trans (rfl)))))
    exact hk_ri C hAe hP hD hS e.symm rfl d_B_state_73
  · skip
    refine lv_iload_n hx hb d_B_state_0 rfl (lv_at hl 1 rfl) ?_
    refine lv_tableIn (tgt := 74) (off := 73) hx hb d_B_state_1 (by decide) (by decide) rfl (by decide) ?_
    refine lv_aload_n hx hb d_B_state_74 rfl (lv_at hl 0 rfl) ?_
    refine hk_get (v := .ref (ad 7)) C hP 0 4 4 i_B rfl rfl (by decide) (hk_in (by decide +kernel) rfl) rfl d_B_state_75 ?_
    refine hk_getN (host := "BodyRows2") (v := .int ((b4 u).2.1)) C hP 7 1 1 i_Wiper rfl rfl (by decide) (by decide +kernel) rfl d_B_state_78 ?_
    have e : m_B_state (5 : Int32) u = (b4 u).2.1 := (if_neg (by decide)).trans ((if_neg (by decide)).trans ((if_neg (by decide)).trans ((if_neg (by decide)).trans ((if_neg (by decide)).trans ((if_pos rfl).trans (rfl))))))
    exact hk_ri C hAe hP hD hS e.symm rfl d_B_state_81
  · skip
    refine lv_iload_n hx hb d_B_state_0 rfl (lv_at hl 1 rfl) ?_
    refine lv_tableIn (tgt := 82) (off := 81) hx hb d_B_state_1 (by decide) (by decide) rfl (by decide) ?_
    refine lv_aload_n hx hb d_B_state_82 rfl (lv_at hl 0 rfl) ?_
    refine hk_get (v := .ref (ad 4)) C hP 0 4 3 i_B rfl rfl (by decide) (hk_in (by decide +kernel) rfl) rfl d_B_state_83 ?_
    refine lv_iload_n hx hb d_B_state_86 rfl (lv_at hl 1 rfl) ?_
    refine lv_bipush (v := (6 : Int32)) hx hb d_B_state_87 (by decide) ?_
    refine lv_isub hx hb d_B_state_89 ?_
    refine hk_fold (z := (0 : Int32)) (by decide) ?_
    refine hk_ald C hP 4 2 (v := (ad 5)) rfl rfl (hk_inl (by decide)) rfl d_B_state_90 ?_
    refine hk_getN (host := "BodyRows2") (v := .int ((b3 u 0).2.2)) C hP 5 0 2 i_Side rfl rfl (by decide) (by decide +kernel) rfl d_B_state_91 ?_
    have e : m_B_state (6 : Int32) u = (b3 u 0).2.2 := (if_neg (by decide)).trans ((if_neg (by decide)).trans ((if_neg (by decide)).trans ((if_neg (by decide)).trans ((if_neg (by decide)).trans ((if_neg (by decide)).trans ((if_pos rfl).trans (rfl)))))))
    exact hk_ri C hAe hP hD hS e.symm rfl d_B_state_94
  · skip
    refine lv_iload_n hx hb d_B_state_0 rfl (lv_at hl 1 rfl) ?_
    refine lv_tableIn (tgt := 82) (off := 81) hx hb d_B_state_1 (by decide) (by decide) rfl (by decide) ?_
    refine lv_aload_n hx hb d_B_state_82 rfl (lv_at hl 0 rfl) ?_
    refine hk_get (v := .ref (ad 4)) C hP 0 4 3 i_B rfl rfl (by decide) (hk_in (by decide +kernel) rfl) rfl d_B_state_83 ?_
    refine lv_iload_n hx hb d_B_state_86 rfl (lv_at hl 1 rfl) ?_
    refine lv_bipush (v := (6 : Int32)) hx hb d_B_state_87 (by decide) ?_
    refine lv_isub hx hb d_B_state_89 ?_
    refine hk_fold (z := (1 : Int32)) (by decide) ?_
    refine hk_ald C hP 4 2 (v := (ad 6)) rfl rfl (hk_inl (by decide)) rfl d_B_state_90 ?_
    refine hk_getN (host := "BodyRows2") (v := .int ((b3 u 1).2.2)) C hP 6 0 2 i_Side rfl rfl (by decide) (by decide +kernel) rfl d_B_state_91 ?_
    have e : m_B_state (7 : Int32) u = (b3 u 1).2.2 := (if_neg (by decide)).trans ((if_neg (by decide)).trans ((if_neg (by decide)).trans ((if_neg (by decide)).trans ((if_neg (by decide)).trans ((if_neg (by decide)).trans ((if_neg (by decide)).trans ((if_pos rfl).trans (rfl))))))))
    exact hk_ri C hAe hP hD hS e.symm rfl d_B_state_94
  · skip
    refine lv_iload_n hx hb d_B_state_0 rfl (lv_at hl 1 rfl) ?_
    refine lv_tableIn (tgt := 95) (off := 94) hx hb d_B_state_1 (by decide) (by decide) rfl (by decide) ?_
    refine lv_aload_n hx hb d_B_state_95 rfl (lv_at hl 0 rfl) ?_
    refine hk_get (v := .int (b11 u)) C hP 0 4 11 i_B rfl rfl (by decide) (hk_in (by decide +kernel) rfl) rfl d_B_state_96 ?_
    refine hk_goIe (hk_kS (k := 1) (As := [.int (b11 u)]) (rest := []) C (c_B_bit l G (b11 u) _) Y_B_bit (hk_in (by decide +kernel) rfl) rfl rfl ⟨Nat.le_of_ble_eq_true rfl, Nat.le_of_ble_eq_true rfl⟩ hk_Pn (hk_Dn (A := A)) rfl hl.1 rfl (Nat.le_of_ble_eq_true rfl) d_B_state_99 ⟨Nat.zero_le _, Nat.zero_le _⟩) hP hS hA (fun H locs hP hS => ?_)
    have e : m_B_state (8 : Int32) u = m_B_bit (b11 u) := (if_neg (by decide)).trans ((if_neg (by decide)).trans ((if_neg (by decide)).trans ((if_neg (by decide)).trans ((if_neg (by decide)).trans ((if_neg (by decide)).trans ((if_neg (by decide)).trans ((if_neg (by decide)).trans ((if_pos rfl).trans (rfl)))))))))
    exact hk_ri C hAe hP hD hS e.symm rfl d_B_state_102
  · skip
    refine lv_iload_n hx hb d_B_state_0 rfl (lv_at hl 1 rfl) ?_
    refine lv_tableIn (tgt := 103) (off := 102) hx hb d_B_state_1 (by decide) (by decide) rfl (by decide) ?_
    refine lv_aload_n hx hb d_B_state_103 rfl (lv_at hl 0 rfl) ?_
    refine hk_get (v := .int (b10 u)) C hP 0 4 10 i_B rfl rfl (by decide) (hk_in (by decide +kernel) rfl) rfl d_B_state_104 ?_
    have e : m_B_state (9 : Int32) u = b10 u := (if_neg (by decide)).trans ((if_neg (by decide)).trans ((if_neg (by decide)).trans ((if_neg (by decide)).trans ((if_neg (by decide)).trans ((if_neg (by decide)).trans ((if_neg (by decide)).trans ((if_neg (by decide)).trans ((if_neg (by decide)).trans ((if_pos rfl).trans (rfl))))))))))
    exact hk_ri C hAe hP hD hS e.symm rfl d_B_state_107
  · skip
    refine lv_iload_n hx hb d_B_state_0 rfl (lv_at hl 1 rfl) ?_
    refine lv_tableOut (tgt := 108) hx hb d_B_state_1 ho (by decide) ?_
    refine lv_bipush (v := (-2 : Int32)) hx hb d_B_state_108 (by decide) ?_
    have e : m_B_state p1 u = (-2 : Int32) := (if_neg (hk_sne ho 0 (by decide) (by decide))).trans ((if_neg (hk_sne ho 1 (by decide) (by decide))).trans ((if_neg (hk_sne ho 2 (by decide) (by decide))).trans ((if_neg (hk_sne ho 3 (by decide) (by decide))).trans ((if_neg (hk_sne ho 4 (by decide) (by decide))).trans ((if_neg (hk_sne ho 5 (by decide) (by decide))).trans ((if_neg (hk_sne ho 6 (by decide) (by decide))).trans ((if_neg (hk_sne ho 7 (by decide) (by decide))).trans ((if_neg (hk_sne ho 8 (by decide) (by decide))).trans ((if_neg (hk_sne ho 9 (by decide) (by decide))).trans (rfl))))))))))
    exact hk_ri C hAe hP hD hS e.symm rfl d_B_state_110
