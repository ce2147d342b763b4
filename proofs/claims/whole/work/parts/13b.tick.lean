theorem Y_B_tick : hk_Y y_B_tick b_B_tick 2 none 0 := ⟨hk_in (by decide +kernel) rfl, hk_in (by decide +kernel) rfl, hk_in (by decide +kernel) rfl, hk_in (List.mem_of_getElem? (i := 281) rfl) rfl, by decide, by decide, by decide +kernel⟩
abbrev rm_B_tick : Room := { frames := 2, cells := 0, slots := 0, locals := 43 }
set_option maxHeartbeats 4000000 in
set_option maxRecDepth 100000 in
theorem tl_B_tick_53_4 {p : Program} {l : Launch} {e : Env} {s : State} {m : MethodId} {below : List Frame} {meth : Method} {c : Code} {A : Nat → Prop} {H : Heap} {locs : List Loc} {ls : Array Slot} {w0 w1 : va_W} (G : hk_G) (ad : Nat → Nat) (u : cB) (hI : Iv u) (C : hk_C p s m meth c R_B b_B_tick 2 none ([.ref (ad 0)] : List Value).toArray G) (hAe : va_A w0 s.heap.size = A) (hA : ∀ q : Nat, s.heap.size ≤ q → A q) (hP : va_P (hk_D G) classes (wB G ad u) H) (hD : va_D A (wB G ad u)) (hS : va_S A s.heap H locs) (hl : lv_has ls 2 [(1, .int (4 : Int32)), (0, .ref (ad 0))]) (hw : w1 = wB G ad (g_B_tick_53_4 u)) : W p l e rm_B_tick s m ([.ref (ad 0)] : List Value).toArray below meth c H locs 0 0 (MQ below (va_Qv (fun (_ : Unit) => True) (hk_B G w0 w1 s.heap.size) A) ([.ref (ad 0)] : List Value).toArray s 0 0 A) (F0 m 53 ls []) := by
  subst hw
  have hx := C.1
  have hb := C.2.1
  have hown := C.2.2.2.2.1
  have hts := C.2.2.2.2.2.1
  have hE := C.2.2.2.2.2.2.2
  refine lv_iload_n hx hb d_B_tick_53 rfl (lv_at hl 0 rfl) ?_
  refine lv_iconst (v := (4 : Int32)) hx hb d_B_tick_54 (by decide) ?_
  refine lv_icmp_ge (tgt := 73) hx hb d_B_tick_55 (by decide) (fun c_1 => ?_) (fun c_1 => absurd (by decide) c_1)
  refine lv_aload_n hx hb d_B_tick_73 rfl (lv_at hl 1 rfl) ?_
  refine lv_dup hx hb d_B_tick_74 rfl ?_
  refine hk_get (v := .int (b10 u)) C hP 0 4 10 i_B rfl rfl (by decide) (hk_in (by decide +kernel) rfl) rfl d_B_tick_75 ?_
  refine lv_iconst (v := (1 : Int32)) hx hb d_B_tick_78 (by decide) ?_
  refine lv_iadd hx hb d_B_tick_79 ?_
  refine hk_put (w2 := wB G ad (f_B_tick_80 u)) (v := .int ((b10 u) + (1 : Int32))) (ty := .int) C hP hD hS 0 4 10 i_B t_B_ok n_B rfl rfl (by decide) (hk_in (by decide +kernel) rfl) rfl (by decide +kernel) rfl rfl (Nat.le_of_ble_eq_true rfl) rfl d_B_tick_80 (fun H locs hP hD hS => ?_)
  have hI1 : Iv (f_B_tick_80 u) := (Iv_of (k2_f_B_tick_80 _) (k6_f_B_tick_80 _) hI)
  obtain ⟨U1, hU1⟩ : ∃ z, (f_B_tick_80 u) = z := ⟨_, rfl⟩
  rw [hU1] at hP hD hI1
  subst hU1
  have e : g_B_tick_53_4 u = (f_B_tick_80 u) := rfl
  exact hk_rv C hAe hP hD hS (by rw [e]) d_B_tick_83
set_option maxHeartbeats 4000000 in
set_option maxRecDepth 100000 in
theorem tl_B_tick_53_3 {p : Program} {l : Launch} {e : Env} {s : State} {m : MethodId} {below : List Frame} {meth : Method} {c : Code} {A : Nat → Prop} {H : Heap} {locs : List Loc} {ls : Array Slot} {w0 w1 : va_W} (G : hk_G) (ad : Nat → Nat) (u : cB) (hI : Iv u) (C : hk_C p s m meth c R_B b_B_tick 2 none ([.ref (ad 0)] : List Value).toArray G) (hAe : va_A w0 s.heap.size = A) (hA : ∀ q : Nat, s.heap.size ≤ q → A q) (hP : va_P (hk_D G) classes (wB G ad u) H) (hD : va_D A (wB G ad u)) (hS : va_S A s.heap H locs) (hl : lv_has ls 2 [(1, .int (3 : Int32)), (0, .ref (ad 0))]) (hw : w1 = wB G ad (g_B_tick_53_3 u)) : W p l e rm_B_tick s m ([.ref (ad 0)] : List Value).toArray below meth c H locs 0 0 (MQ below (va_Qv (fun (_ : Unit) => True) (hk_B G w0 w1 s.heap.size) A) ([.ref (ad 0)] : List Value).toArray s 0 0 A) (F0 m 53 ls []) := by
  subst hw
  have hx := C.1
  have hb := C.2.1
  have hown := C.2.2.2.2.1
  have hts := C.2.2.2.2.2.1
  have hE := C.2.2.2.2.2.2.2
  refine lv_iload_n hx hb d_B_tick_53 rfl (lv_at hl 0 rfl) ?_
  refine lv_iconst (v := (4 : Int32)) hx hb d_B_tick_54 (by decide) ?_
  refine lv_icmp_ge (tgt := 73) hx hb d_B_tick_55 (by decide) (fun c_1 => absurd c_1 (by decide)) (fun c_1 => ?_)
  refine lv_aload_n hx hb d_B_tick_58 rfl (lv_at hl 1 rfl) ?_
  refine hk_get (v := .ref (ad 8)) C hP 0 4 5 i_B rfl rfl (by decide) (hk_in (by decide +kernel) rfl) rfl d_B_tick_59 ?_
  refine lv_iload_n hx hb d_B_tick_62 rfl (lv_at hl 0 rfl) ?_
  refine hk_ald C hP 8 3 (v := (ad 12)) rfl rfl (hk_inl (by decide)) rfl d_B_tick_63 ?_
  refine hk_goV1 12 (w2 := wB G ad (f_B_tick_64_3 u)) (hk_kN (host := "BodyRows2") (k := 0) (As := []) (rest := []) C (c_Window_tick l G (ad 12) (b5 u 3) _) Y_Window_tick (by decide +kernel) rfl rfl ⟨Nat.le_of_ble_eq_true rfl, Nat.le_of_ble_eq_true rfl⟩ (va_recv hE.1 hP (ci := 2) (q0 := 12) rfl rfl) (hP.sub (ws' := (wN (ad 12) (b5 u 3))) [12] rfl) (hD.sub (ws' := (wN (ad 12) (b5 u 3))) [12] (by decide) rfl) rfl hl.1 rfl (Nat.le_of_ble_eq_true rfl) d_B_tick_64 ⟨Nat.zero_le _, Nat.zero_le _⟩) hP hD hS hA rfl rfl (fun H locs hP hD hS => ?_)
  have hI1 : Iv (f_B_tick_64_3 u) := (Iv_of (k2_f_B_tick_64_3 _) (k6_f_B_tick_64_3 _) hI)
  obtain ⟨U1, hU1⟩ : ∃ z, (f_B_tick_64_3 u) = z := ⟨_, rfl⟩
  rw [hU1] at hP hD hI1
  refine lv_iinc (v := (4 : Int32)) (lv' := [(1, .int (4 : Int32)), (0, .ref (ad 0))]) hx hb d_B_tick_67 hl (k := 0) rfl (by decide) (by decide) rfl (fun ls hl => ?_)
  refine lv_goto (tgt := 53) hx hb d_B_tick_70 (by decide) ?_
  subst hU1
  have e : g_B_tick_53_3 u = (g_B_tick_53_4 (f_B_tick_64_3 u)) := rfl
  exact tl_B_tick_53_4 G ad (f_B_tick_64_3 u) hI1 C hAe hA hP hD hS (lv_sub hl [0, 1] rfl) (by rw [e])
set_option maxHeartbeats 4000000 in
set_option maxRecDepth 100000 in
theorem tl_B_tick_53_2 {p : Program} {l : Launch} {e : Env} {s : State} {m : MethodId} {below : List Frame} {meth : Method} {c : Code} {A : Nat → Prop} {H : Heap} {locs : List Loc} {ls : Array Slot} {w0 w1 : va_W} (G : hk_G) (ad : Nat → Nat) (u : cB) (hI : Iv u) (C : hk_C p s m meth c R_B b_B_tick 2 none ([.ref (ad 0)] : List Value).toArray G) (hAe : va_A w0 s.heap.size = A) (hA : ∀ q : Nat, s.heap.size ≤ q → A q) (hP : va_P (hk_D G) classes (wB G ad u) H) (hD : va_D A (wB G ad u)) (hS : va_S A s.heap H locs) (hl : lv_has ls 2 [(1, .int (2 : Int32)), (0, .ref (ad 0))]) (hw : w1 = wB G ad (g_B_tick_53_2 u)) : W p l e rm_B_tick s m ([.ref (ad 0)] : List Value).toArray below meth c H locs 0 0 (MQ below (va_Qv (fun (_ : Unit) => True) (hk_B G w0 w1 s.heap.size) A) ([.ref (ad 0)] : List Value).toArray s 0 0 A) (F0 m 53 ls []) := by
  subst hw
  have hx := C.1
  have hb := C.2.1
  have hown := C.2.2.2.2.1
  have hts := C.2.2.2.2.2.1
  have hE := C.2.2.2.2.2.2.2
  refine lv_iload_n hx hb d_B_tick_53 rfl (lv_at hl 0 rfl) ?_
  refine lv_iconst (v := (4 : Int32)) hx hb d_B_tick_54 (by decide) ?_
  refine lv_icmp_ge (tgt := 73) hx hb d_B_tick_55 (by decide) (fun c_1 => absurd c_1 (by decide)) (fun c_1 => ?_)
  refine lv_aload_n hx hb d_B_tick_58 rfl (lv_at hl 1 rfl) ?_
  refine hk_get (v := .ref (ad 8)) C hP 0 4 5 i_B rfl rfl (by decide) (hk_in (by decide +kernel) rfl) rfl d_B_tick_59 ?_
  refine lv_iload_n hx hb d_B_tick_62 rfl (lv_at hl 0 rfl) ?_
  refine hk_ald C hP 8 3 (v := (ad 11)) rfl rfl (hk_inl (by decide)) rfl d_B_tick_63 ?_
  refine hk_goV1 11 (w2 := wB G ad (f_B_tick_64_2 u)) (hk_kN (host := "BodyRows2") (k := 0) (As := []) (rest := []) C (c_Window_tick l G (ad 11) (b5 u 2) _) Y_Window_tick (by decide +kernel) rfl rfl ⟨Nat.le_of_ble_eq_true rfl, Nat.le_of_ble_eq_true rfl⟩ (va_recv hE.1 hP (ci := 2) (q0 := 11) rfl rfl) (hP.sub (ws' := (wN (ad 11) (b5 u 2))) [11] rfl) (hD.sub (ws' := (wN (ad 11) (b5 u 2))) [11] (by decide) rfl) rfl hl.1 rfl (Nat.le_of_ble_eq_true rfl) d_B_tick_64 ⟨Nat.zero_le _, Nat.zero_le _⟩) hP hD hS hA rfl rfl (fun H locs hP hD hS => ?_)
  have hI1 : Iv (f_B_tick_64_2 u) := (Iv_of (k2_f_B_tick_64_2 _) (k6_f_B_tick_64_2 _) hI)
  obtain ⟨U1, hU1⟩ : ∃ z, (f_B_tick_64_2 u) = z := ⟨_, rfl⟩
  rw [hU1] at hP hD hI1
  refine lv_iinc (v := (3 : Int32)) (lv' := [(1, .int (3 : Int32)), (0, .ref (ad 0))]) hx hb d_B_tick_67 hl (k := 0) rfl (by decide) (by decide) rfl (fun ls hl => ?_)
  refine lv_goto (tgt := 53) hx hb d_B_tick_70 (by decide) ?_
  subst hU1
  have e : g_B_tick_53_2 u = (g_B_tick_53_3 (f_B_tick_64_2 u)) := rfl
  exact tl_B_tick_53_3 G ad (f_B_tick_64_2 u) hI1 C hAe hA hP hD hS (lv_sub hl [0, 1] rfl) (by rw [e])
set_option maxHeartbeats 4000000 in
set_option maxRecDepth 100000 in
theorem tl_B_tick_53_1 {p : Program} {l : Launch} {e : Env} {s : State} {m : MethodId} {below : List Frame} {meth : Method} {c : Code} {A : Nat → Prop} {H : Heap} {locs : List Loc} {ls : Array Slot} {w0 w1 : va_W} (G : hk_G) (ad : Nat → Nat) (u : cB) (hI : Iv u) (C : hk_C p s m meth c R_B b_B_tick 2 none ([.ref (ad 0)] : List Value).toArray G) (hAe : va_A w0 s.heap.size = A) (hA : ∀ q : Nat, s.heap.size ≤ q → A q) (hP : va_P (hk_D G) classes (wB G ad u) H) (hD : va_D A (wB G ad u)) (hS : va_S A s.heap H locs) (hl : lv_has ls 2 [(1, .int (1 : Int32)), (0, .ref (ad 0))]) (hw : w1 = wB G ad (g_B_tick_53_1 u)) : W p l e rm_B_tick s m ([.ref (ad 0)] : List Value).toArray below meth c H locs 0 0 (MQ below (va_Qv (fun (_ : Unit) => True) (hk_B G w0 w1 s.heap.size) A) ([.ref (ad 0)] : List Value).toArray s 0 0 A) (F0 m 53 ls []) := by
  subst hw
  have hx := C.1
  have hb := C.2.1
  have hown := C.2.2.2.2.1
  have hts := C.2.2.2.2.2.1
  have hE := C.2.2.2.2.2.2.2
  refine lv_iload_n hx hb d_B_tick_53 rfl (lv_at hl 0 rfl) ?_
  refine lv_iconst (v := (4 : Int32)) hx hb d_B_tick_54 (by decide) ?_
  refine lv_icmp_ge (tgt := 73) hx hb d_B_tick_55 (by decide) (fun c_1 => absurd c_1 (by decide)) (fun c_1 => ?_)
  refine lv_aload_n hx hb d_B_tick_58 rfl (lv_at hl 1 rfl) ?_
  refine hk_get (v := .ref (ad 8)) C hP 0 4 5 i_B rfl rfl (by decide) (hk_in (by decide +kernel) rfl) rfl d_B_tick_59 ?_
  refine lv_iload_n hx hb d_B_tick_62 rfl (lv_at hl 0 rfl) ?_
  refine hk_ald C hP 8 3 (v := (ad 10)) rfl rfl (hk_inl (by decide)) rfl d_B_tick_63 ?_
  refine hk_goV1 10 (w2 := wB G ad (f_B_tick_64_1 u)) (hk_kN (host := "BodyRows2") (k := 0) (As := []) (rest := []) C (c_Window_tick l G (ad 10) (b5 u 1) _) Y_Window_tick (by decide +kernel) rfl rfl ⟨Nat.le_of_ble_eq_true rfl, Nat.le_of_ble_eq_true rfl⟩ (va_recv hE.1 hP (ci := 2) (q0 := 10) rfl rfl) (hP.sub (ws' := (wN (ad 10) (b5 u 1))) [10] rfl) (hD.sub (ws' := (wN (ad 10) (b5 u 1))) [10] (by decide) rfl) rfl hl.1 rfl (Nat.le_of_ble_eq_true rfl) d_B_tick_64 ⟨Nat.zero_le _, Nat.zero_le _⟩) hP hD hS hA rfl rfl (fun H locs hP hD hS => ?_)
  have hI1 : Iv (f_B_tick_64_1 u) := (Iv_of (k2_f_B_tick_64_1 _) (k6_f_B_tick_64_1 _) hI)
  obtain ⟨U1, hU1⟩ : ∃ z, (f_B_tick_64_1 u) = z := ⟨_, rfl⟩
  rw [hU1] at hP hD hI1
  refine lv_iinc (v := (2 : Int32)) (lv' := [(1, .int (2 : Int32)), (0, .ref (ad 0))]) hx hb d_B_tick_67 hl (k := 0) rfl (by decide) (by decide) rfl (fun ls hl => ?_)
  refine lv_goto (tgt := 53) hx hb d_B_tick_70 (by decide) ?_
  subst hU1
  have e : g_B_tick_53_1 u = (g_B_tick_53_2 (f_B_tick_64_1 u)) := rfl
  exact tl_B_tick_53_2 G ad (f_B_tick_64_1 u) hI1 C hAe hA hP hD hS (lv_sub hl [0, 1] rfl) (by rw [e])
set_option maxHeartbeats 4000000 in
set_option maxRecDepth 100000 in
theorem tl_B_tick_53_0 {p : Program} {l : Launch} {e : Env} {s : State} {m : MethodId} {below : List Frame} {meth : Method} {c : Code} {A : Nat → Prop} {H : Heap} {locs : List Loc} {ls : Array Slot} {w0 w1 : va_W} (G : hk_G) (ad : Nat → Nat) (u : cB) (hI : Iv u) (C : hk_C p s m meth c R_B b_B_tick 2 none ([.ref (ad 0)] : List Value).toArray G) (hAe : va_A w0 s.heap.size = A) (hA : ∀ q : Nat, s.heap.size ≤ q → A q) (hP : va_P (hk_D G) classes (wB G ad u) H) (hD : va_D A (wB G ad u)) (hS : va_S A s.heap H locs) (hl : lv_has ls 2 [(1, .int (0 : Int32)), (0, .ref (ad 0))]) (hw : w1 = wB G ad (g_B_tick_53_0 u)) : W p l e rm_B_tick s m ([.ref (ad 0)] : List Value).toArray below meth c H locs 0 0 (MQ below (va_Qv (fun (_ : Unit) => True) (hk_B G w0 w1 s.heap.size) A) ([.ref (ad 0)] : List Value).toArray s 0 0 A) (F0 m 53 ls []) := by
  subst hw
  have hx := C.1
  have hb := C.2.1
  have hown := C.2.2.2.2.1
  have hts := C.2.2.2.2.2.1
  have hE := C.2.2.2.2.2.2.2
  refine lv_iload_n hx hb d_B_tick_53 rfl (lv_at hl 0 rfl) ?_
  refine lv_iconst (v := (4 : Int32)) hx hb d_B_tick_54 (by decide) ?_
  refine lv_icmp_ge (tgt := 73) hx hb d_B_tick_55 (by decide) (fun c_1 => absurd c_1 (by decide)) (fun c_1 => ?_)
  refine lv_aload_n hx hb d_B_tick_58 rfl (lv_at hl 1 rfl) ?_
  refine hk_get (v := .ref (ad 8)) C hP 0 4 5 i_B rfl rfl (by decide) (hk_in (by decide +kernel) rfl) rfl d_B_tick_59 ?_
  refine lv_iload_n hx hb d_B_tick_62 rfl (lv_at hl 0 rfl) ?_
  refine hk_ald C hP 8 3 (v := (ad 9)) rfl rfl (hk_inl (by decide)) rfl d_B_tick_63 ?_
  refine hk_goV1 9 (w2 := wB G ad (f_B_tick_64 u)) (hk_kN (host := "BodyRows2") (k := 0) (As := []) (rest := []) C (c_Window_tick l G (ad 9) (b5 u 0) _) Y_Window_tick (by decide +kernel) rfl rfl ⟨Nat.le_of_ble_eq_true rfl, Nat.le_of_ble_eq_true rfl⟩ (va_recv hE.1 hP (ci := 2) (q0 := 9) rfl rfl) (hP.sub (ws' := (wN (ad 9) (b5 u 0))) [9] rfl) (hD.sub (ws' := (wN (ad 9) (b5 u 0))) [9] (by decide) rfl) rfl hl.1 rfl (Nat.le_of_ble_eq_true rfl) d_B_tick_64 ⟨Nat.zero_le _, Nat.zero_le _⟩) hP hD hS hA rfl rfl (fun H locs hP hD hS => ?_)
  have hI1 : Iv (f_B_tick_64 u) := (Iv_of (k2_f_B_tick_64 _) (k6_f_B_tick_64 _) hI)
  obtain ⟨U1, hU1⟩ : ∃ z, (f_B_tick_64 u) = z := ⟨_, rfl⟩
  rw [hU1] at hP hD hI1
  refine lv_iinc (v := (1 : Int32)) (lv' := [(1, .int (1 : Int32)), (0, .ref (ad 0))]) hx hb d_B_tick_67 hl (k := 0) rfl (by decide) (by decide) rfl (fun ls hl => ?_)
  refine lv_goto (tgt := 53) hx hb d_B_tick_70 (by decide) ?_
  subst hU1
  have e : g_B_tick_53_0 u = (g_B_tick_53_1 (f_B_tick_64 u)) := rfl
  exact tl_B_tick_53_1 G ad (f_B_tick_64 u) hI1 C hAe hA hP hD hS (lv_sub hl [0, 1] rfl) (by rw [e])
set_option maxHeartbeats 4000000 in
set_option maxRecDepth 100000 in
theorem tl_B_tick_32_2 {p : Program} {l : Launch} {e : Env} {s : State} {m : MethodId} {below : List Frame} {meth : Method} {c : Code} {A : Nat → Prop} {H : Heap} {locs : List Loc} {ls : Array Slot} {w0 w1 : va_W} (G : hk_G) (ad : Nat → Nat) (u : cB) (hI : Iv u) (C : hk_C p s m meth c R_B b_B_tick 2 none ([.ref (ad 0)] : List Value).toArray G) (hAe : va_A w0 s.heap.size = A) (hA : ∀ q : Nat, s.heap.size ≤ q → A q) (hP : va_P (hk_D G) classes (wB G ad u) H) (hD : va_D A (wB G ad u)) (hS : va_S A s.heap H locs) (hl : lv_has ls 2 [(1, .int (2 : Int32)), (0, .ref (ad 0))]) (hw : w1 = wB G ad (g_B_tick_32_2 u)) : W p l e rm_B_tick s m ([.ref (ad 0)] : List Value).toArray below meth c H locs 0 0 (MQ below (va_Qv (fun (_ : Unit) => True) (hk_B G w0 w1 s.heap.size) A) ([.ref (ad 0)] : List Value).toArray s 0 0 A) (F0 m 32 ls []) := by
  subst hw
  have hx := C.1
  have hb := C.2.1
  have hown := C.2.2.2.2.1
  have hts := C.2.2.2.2.2.1
  have hE := C.2.2.2.2.2.2.2
  refine lv_aload_n hx hb d_B_tick_32 rfl (lv_at hl 1 rfl) ?_
  refine hk_get (v := .ref (ad 7)) C hP 0 4 4 i_B rfl rfl (by decide) (hk_in (by decide +kernel) rfl) rfl d_B_tick_33 ?_
  refine lv_aload_n hx hb d_B_tick_36 rfl (lv_at hl 1 rfl) ?_
  refine hk_goI (hk_kV (k := 0) (As := []) (rest := [.ref (ad 7)]) C (c_B_wiperSpeed l G ad u hI _) Y_B_wiperSpeed (hk_in (by decide +kernel) rfl) rfl rfl ⟨Nat.le_of_ble_eq_true rfl, Nat.le_of_ble_eq_true rfl⟩ (va_recv hE.1 hP (ci := 4) (q0 := 0) rfl rfl) hP hD rfl hl.1 rfl (Nat.le_of_ble_eq_true rfl) d_B_tick_37 ⟨Nat.zero_le _, Nat.zero_le _⟩) hD hS hA (fun H locs hP hD hS => ?_)
  refine lv_aload_n hx hb d_B_tick_40 rfl (lv_at hl 1 rfl) ?_
  refine hk_goI (hk_kV (k := 0) (As := []) (rest := [.int (m_B_wiperSpeed u), .ref (ad 7)]) C (c_B_pauseAfterWiping l G ad u hI _) Y_B_pauseAfterWiping (hk_in (by decide +kernel) rfl) rfl rfl ⟨Nat.le_of_ble_eq_true rfl, Nat.le_of_ble_eq_true rfl⟩ (va_recv hE.1 hP (ci := 4) (q0 := 0) rfl rfl) hP hD rfl hl.1 rfl (Nat.le_of_ble_eq_true rfl) d_B_tick_41 ⟨Nat.zero_le _, Nat.zero_le _⟩) hD hS hA (fun H locs hP hD hS => ?_)
  refine hk_goV1 7 (w2 := wB G ad (f_B_tick_44 u)) (hk_kN (host := "BodyRows2") (k := 2) (As := [.int (m_B_wiperSpeed u), .int (m_B_pauseAfterWiping u)]) (rest := []) C (c_Wiper_tick l G (ad 7) (b4 u) (m_B_wiperSpeed u) (m_B_pauseAfterWiping u) _) Y_Wiper_tick (by decide +kernel) rfl rfl ⟨Nat.le_of_ble_eq_true rfl, Nat.le_of_ble_eq_true rfl⟩ (va_recv hE.1 hP (ci := 1) (q0 := 7) rfl rfl) (hP.sub (ws' := (wP (ad 7) (b4 u))) [7] rfl) (hD.sub (ws' := (wP (ad 7) (b4 u))) [7] (by decide) rfl) rfl hl.1 rfl (Nat.le_of_ble_eq_true rfl) d_B_tick_44 ⟨Nat.zero_le _, Nat.zero_le _⟩) hP hD hS hA rfl rfl (fun H locs hP hD hS => ?_)
  have hI1 : Iv (f_B_tick_44 u) := (Iv_of (k2_f_B_tick_44 _) (k6_f_B_tick_44 _) hI)
  obtain ⟨U1, hU1⟩ : ∃ z, (f_B_tick_44 u) = z := ⟨_, rfl⟩
  rw [hU1] at hP hD hI1
  refine lv_aload_n hx hb d_B_tick_47 rfl (lv_at hl 1 rfl) ?_
  refine hk_goV (hk_kV (k := 0) (As := []) (rest := []) C (c_B_tickInterior l G ad U1 hI1 _) Y_B_tickInterior (hk_in (by decide +kernel) rfl) rfl rfl ⟨Nat.le_of_ble_eq_true rfl, Nat.le_of_ble_eq_true rfl⟩ (va_recv hE.1 hP (ci := 4) (q0 := 0) rfl rfl) hP hD rfl hl.1 rfl (Nat.le_of_ble_eq_true rfl) d_B_tick_48 ⟨Nat.zero_le _, Nat.zero_le _⟩) hD hS hA (fun H locs hP hD hS => ?_)
  have hI2 : Iv (m_B_tickInterior U1) := (km_B_tickInterior hI1)
  obtain ⟨U2, hU2⟩ : ∃ z, (m_B_tickInterior U1) = z := ⟨_, rfl⟩
  rw [hU2] at hP hD hI2
  refine lv_iconst (v := (0 : Int32)) hx hb d_B_tick_51 (by decide) ?_
  refine lv_istore_n (lv' := [(1, .int (0 : Int32)), (0, .ref (ad 0))]) hx hb d_B_tick_52 rfl hl (by decide) rfl (fun ls hl => ?_)
  subst hU1 hU2
  have e : g_B_tick_32_2 u = (g_B_tick_53_0 (m_B_tickInterior (f_B_tick_44 u))) := rfl
  exact tl_B_tick_53_0 G ad (m_B_tickInterior (f_B_tick_44 u)) hI2 C hAe hA hP hD hS (lv_sub hl [0, 1] rfl) (by rw [e])
set_option maxHeartbeats 4000000 in
set_option maxRecDepth 100000 in
theorem tl_B_tick_2_2 {p : Program} {l : Launch} {e : Env} {s : State} {m : MethodId} {below : List Frame} {meth : Method} {c : Code} {A : Nat → Prop} {H : Heap} {locs : List Loc} {ls : Array Slot} {w0 w1 : va_W} (G : hk_G) (ad : Nat → Nat) (u : cB) (hI : Iv u) (C : hk_C p s m meth c R_B b_B_tick 2 none ([.ref (ad 0)] : List Value).toArray G) (hAe : va_A w0 s.heap.size = A) (hA : ∀ q : Nat, s.heap.size ≤ q → A q) (hP : va_P (hk_D G) classes (wB G ad u) H) (hD : va_D A (wB G ad u)) (hS : va_S A s.heap H locs) (hl : lv_has ls 2 [(1, .int (2 : Int32)), (0, .ref (ad 0))]) (hw : w1 = wB G ad (g_B_tick_2_2 u)) : W p l e rm_B_tick s m ([.ref (ad 0)] : List Value).toArray below meth c H locs 0 0 (MQ below (va_Qv (fun (_ : Unit) => True) (hk_B G w0 w1 s.heap.size) A) ([.ref (ad 0)] : List Value).toArray s 0 0 A) (F0 m 2 ls []) := by
  subst hw
  have hx := C.1
  have hb := C.2.1
  have hown := C.2.2.2.2.1
  have hts := C.2.2.2.2.2.1
  have hE := C.2.2.2.2.2.2.2
  refine lv_iload_n hx hb d_B_tick_2 rfl (lv_at hl 0 rfl) ?_
  refine lv_iconst (v := (2 : Int32)) hx hb d_B_tick_3 (by decide) ?_
  refine lv_icmp_ge (tgt := 32) hx hb d_B_tick_4 (by decide) (fun c_1 => ?_) (fun c_1 => absurd (by decide) c_1)
  have e : g_B_tick_2_2 u = (g_B_tick_32_2 u) := rfl
  exact tl_B_tick_32_2 G ad u hI C hAe hA hP hD hS (lv_sub hl [0, 1] rfl) (by rw [e])
set_option maxHeartbeats 4000000 in
set_option maxRecDepth 100000 in
theorem tl_B_tick_2_1 {p : Program} {l : Launch} {e : Env} {s : State} {m : MethodId} {below : List Frame} {meth : Method} {c : Code} {A : Nat → Prop} {H : Heap} {locs : List Loc} {ls : Array Slot} {w0 w1 : va_W} (G : hk_G) (ad : Nat → Nat) (u : cB) (hI : Iv u) (C : hk_C p s m meth c R_B b_B_tick 2 none ([.ref (ad 0)] : List Value).toArray G) (hAe : va_A w0 s.heap.size = A) (hA : ∀ q : Nat, s.heap.size ≤ q → A q) (hP : va_P (hk_D G) classes (wB G ad u) H) (hD : va_D A (wB G ad u)) (hS : va_S A s.heap H locs) (hl : lv_has ls 2 [(1, .int (1 : Int32)), (0, .ref (ad 0))]) (hw : w1 = wB G ad (g_B_tick_2_1 u)) : W p l e rm_B_tick s m ([.ref (ad 0)] : List Value).toArray below meth c H locs 0 0 (MQ below (va_Qv (fun (_ : Unit) => True) (hk_B G w0 w1 s.heap.size) A) ([.ref (ad 0)] : List Value).toArray s 0 0 A) (F0 m 2 ls []) := by
  subst hw
  have hx := C.1
  have hb := C.2.1
  have hown := C.2.2.2.2.1
  have hts := C.2.2.2.2.2.1
  have hE := C.2.2.2.2.2.2.2
  refine lv_iload_n hx hb d_B_tick_2 rfl (lv_at hl 0 rfl) ?_
  refine lv_iconst (v := (2 : Int32)) hx hb d_B_tick_3 (by decide) ?_
  refine lv_icmp_ge (tgt := 32) hx hb d_B_tick_4 (by decide) (fun c_1 => absurd c_1 (by decide)) (fun c_1 => ?_)
  refine lv_aload_n hx hb d_B_tick_7 rfl (lv_at hl 1 rfl) ?_
  refine hk_get (v := .ref (ad 4)) C hP 0 4 3 i_B rfl rfl (by decide) (hk_in (by decide +kernel) rfl) rfl d_B_tick_8 ?_
  refine lv_iload_n hx hb d_B_tick_11 rfl (lv_at hl 0 rfl) ?_
  refine hk_ald C hP 4 2 (v := (ad 6)) rfl rfl (hk_inl (by decide)) rfl d_B_tick_12 ?_
  refine lv_aload_n hx hb d_B_tick_13 rfl (lv_at hl 1 rfl) ?_
  refine lv_iload_n hx hb d_B_tick_14 rfl (lv_at hl 0 rfl) ?_
  refine hk_goI (hk_kV (k := 1) (As := [.int (1 : Int32)]) (rest := [.ref (ad 6)]) C (c_B_turnBulbIsOut l G ad u (1 : Int32) hI (Or.inr rfl) _) Y_B_turnBulbIsOut (hk_in (by decide +kernel) rfl) rfl rfl ⟨Nat.le_of_ble_eq_true rfl, Nat.le_of_ble_eq_true rfl⟩ (va_recv hE.1 hP (ci := 4) (q0 := 0) rfl rfl) hP hD rfl hl.1 rfl (Nat.le_of_ble_eq_true rfl) d_B_tick_15 ⟨Nat.zero_le _, Nat.zero_le _⟩) hD hS hA (fun H locs hP hD hS => ?_)
  refine lv_aload_n hx hb d_B_tick_18 rfl (lv_at hl 1 rfl) ?_
  refine lv_iload_n hx hb d_B_tick_19 rfl (lv_at hl 0 rfl) ?_
  refine hk_goI (hk_kV (k := 1) (As := [.int (1 : Int32)]) (rest := [.int (m_B_turnBulbIsOut (1 : Int32) u), .ref (ad 6)]) C (c_B_isWanted l G ad u (1 : Int32) hI _) Y_B_isWanted (hk_in (by decide +kernel) rfl) rfl rfl ⟨Nat.le_of_ble_eq_true rfl, Nat.le_of_ble_eq_true rfl⟩ (va_recv hE.1 hP (ci := 4) (q0 := 0) rfl rfl) hP hD rfl hl.1 rfl (Nat.le_of_ble_eq_true rfl) d_B_tick_20 ⟨Nat.zero_le _, Nat.zero_le _⟩) hD hS hA (fun H locs hP hD hS => ?_)
  refine hk_goV1 6 (w2 := wB G ad (f_B_tick_23_1 u)) (hk_kN (host := "BodyRows2") (k := 2) (As := [.int (m_B_turnBulbIsOut (1 : Int32) u), .int (m_B_isWanted (1 : Int32) u)]) (rest := []) C (c_Side_tick l G (ad 6) (b3 u 1) (m_B_turnBulbIsOut (1 : Int32) u) (m_B_isWanted (1 : Int32) u) _) Y_Side_tick (by decide +kernel) rfl rfl ⟨Nat.le_of_ble_eq_true rfl, Nat.le_of_ble_eq_true rfl⟩ (va_recv hE.1 hP (ci := 0) (q0 := 6) rfl rfl) (hP.sub (ws' := (wS (ad 6) (b3 u 1))) [6] rfl) (hD.sub (ws' := (wS (ad 6) (b3 u 1))) [6] (by decide) rfl) rfl hl.1 rfl (Nat.le_of_ble_eq_true rfl) d_B_tick_23 ⟨Nat.zero_le _, Nat.zero_le _⟩) hP hD hS hA rfl rfl (fun H locs hP hD hS => ?_)
  have hI1 : Iv (f_B_tick_23_1 u) := (Iv_of (k2_f_B_tick_23_1 _) (k6_f_B_tick_23_1 _) hI)
  obtain ⟨U1, hU1⟩ : ∃ z, (f_B_tick_23_1 u) = z := ⟨_, rfl⟩
  rw [hU1] at hP hD hI1
  refine lv_iinc (v := (2 : Int32)) (lv' := [(1, .int (2 : Int32)), (0, .ref (ad 0))]) hx hb d_B_tick_26 hl (k := 0) rfl (by decide) (by decide) rfl (fun ls hl => ?_)
  refine lv_goto (tgt := 2) hx hb d_B_tick_29 (by decide) ?_
  subst hU1
  have e : g_B_tick_2_1 u = (g_B_tick_2_2 (f_B_tick_23_1 u)) := rfl
  exact tl_B_tick_2_2 G ad (f_B_tick_23_1 u) hI1 C hAe hA hP hD hS (lv_sub hl [0, 1] rfl) (by rw [e])
set_option maxHeartbeats 4000000 in
set_option maxRecDepth 100000 in
theorem tl_B_tick_2_0 {p : Program} {l : Launch} {e : Env} {s : State} {m : MethodId} {below : List Frame} {meth : Method} {c : Code} {A : Nat → Prop} {H : Heap} {locs : List Loc} {ls : Array Slot} {w0 w1 : va_W} (G : hk_G) (ad : Nat → Nat) (u : cB) (hI : Iv u) (C : hk_C p s m meth c R_B b_B_tick 2 none ([.ref (ad 0)] : List Value).toArray G) (hAe : va_A w0 s.heap.size = A) (hA : ∀ q : Nat, s.heap.size ≤ q → A q) (hP : va_P (hk_D G) classes (wB G ad u) H) (hD : va_D A (wB G ad u)) (hS : va_S A s.heap H locs) (hl : lv_has ls 2 [(1, .int (0 : Int32)), (0, .ref (ad 0))]) (hw : w1 = wB G ad (g_B_tick_2_0 u)) : W p l e rm_B_tick s m ([.ref (ad 0)] : List Value).toArray below meth c H locs 0 0 (MQ below (va_Qv (fun (_ : Unit) => True) (hk_B G w0 w1 s.heap.size) A) ([.ref (ad 0)] : List Value).toArray s 0 0 A) (F0 m 2 ls []) := by
  subst hw
  have hx := C.1
  have hb := C.2.1
  have hown := C.2.2.2.2.1
  have hts := C.2.2.2.2.2.1
  have hE := C.2.2.2.2.2.2.2
  refine lv_iload_n hx hb d_B_tick_2 rfl (lv_at hl 0 rfl) ?_
  refine lv_iconst (v := (2 : Int32)) hx hb d_B_tick_3 (by decide) ?_
  refine lv_icmp_ge (tgt := 32) hx hb d_B_tick_4 (by decide) (fun c_1 => absurd c_1 (by decide)) (fun c_1 => ?_)
  refine lv_aload_n hx hb d_B_tick_7 rfl (lv_at hl 1 rfl) ?_
  refine hk_get (v := .ref (ad 4)) C hP 0 4 3 i_B rfl rfl (by decide) (hk_in (by decide +kernel) rfl) rfl d_B_tick_8 ?_
  refine lv_iload_n hx hb d_B_tick_11 rfl (lv_at hl 0 rfl) ?_
  refine hk_ald C hP 4 2 (v := (ad 5)) rfl rfl (hk_inl (by decide)) rfl d_B_tick_12 ?_
  refine lv_aload_n hx hb d_B_tick_13 rfl (lv_at hl 1 rfl) ?_
  refine lv_iload_n hx hb d_B_tick_14 rfl (lv_at hl 0 rfl) ?_
  refine hk_goI (hk_kV (k := 1) (As := [.int (0 : Int32)]) (rest := [.ref (ad 5)]) C (c_B_turnBulbIsOut l G ad u (0 : Int32) hI (Or.inl rfl) _) Y_B_turnBulbIsOut (hk_in (by decide +kernel) rfl) rfl rfl ⟨Nat.le_of_ble_eq_true rfl, Nat.le_of_ble_eq_true rfl⟩ (va_recv hE.1 hP (ci := 4) (q0 := 0) rfl rfl) hP hD rfl hl.1 rfl (Nat.le_of_ble_eq_true rfl) d_B_tick_15 ⟨Nat.zero_le _, Nat.zero_le _⟩) hD hS hA (fun H locs hP hD hS => ?_)
  refine lv_aload_n hx hb d_B_tick_18 rfl (lv_at hl 1 rfl) ?_
  refine lv_iload_n hx hb d_B_tick_19 rfl (lv_at hl 0 rfl) ?_
  refine hk_goI (hk_kV (k := 1) (As := [.int (0 : Int32)]) (rest := [.int (m_B_turnBulbIsOut (0 : Int32) u), .ref (ad 5)]) C (c_B_isWanted l G ad u (0 : Int32) hI _) Y_B_isWanted (hk_in (by decide +kernel) rfl) rfl rfl ⟨Nat.le_of_ble_eq_true rfl, Nat.le_of_ble_eq_true rfl⟩ (va_recv hE.1 hP (ci := 4) (q0 := 0) rfl rfl) hP hD rfl hl.1 rfl (Nat.le_of_ble_eq_true rfl) d_B_tick_20 ⟨Nat.zero_le _, Nat.zero_le _⟩) hD hS hA (fun H locs hP hD hS => ?_)
  refine hk_goV1 5 (w2 := wB G ad (f_B_tick_23 u)) (hk_kN (host := "BodyRows2") (k := 2) (As := [.int (m_B_turnBulbIsOut (0 : Int32) u), .int (m_B_isWanted (0 : Int32) u)]) (rest := []) C (c_Side_tick l G (ad 5) (b3 u 0) (m_B_turnBulbIsOut (0 : Int32) u) (m_B_isWanted (0 : Int32) u) _) Y_Side_tick (by decide +kernel) rfl rfl ⟨Nat.le_of_ble_eq_true rfl, Nat.le_of_ble_eq_true rfl⟩ (va_recv hE.1 hP (ci := 0) (q0 := 5) rfl rfl) (hP.sub (ws' := (wS (ad 5) (b3 u 0))) [5] rfl) (hD.sub (ws' := (wS (ad 5) (b3 u 0))) [5] (by decide) rfl) rfl hl.1 rfl (Nat.le_of_ble_eq_true rfl) d_B_tick_23 ⟨Nat.zero_le _, Nat.zero_le _⟩) hP hD hS hA rfl rfl (fun H locs hP hD hS => ?_)
  have hI1 : Iv (f_B_tick_23 u) := (Iv_of (k2_f_B_tick_23 _) (k6_f_B_tick_23 _) hI)
  obtain ⟨U1, hU1⟩ : ∃ z, (f_B_tick_23 u) = z := ⟨_, rfl⟩
  rw [hU1] at hP hD hI1
  refine lv_iinc (v := (1 : Int32)) (lv' := [(1, .int (1 : Int32)), (0, .ref (ad 0))]) hx hb d_B_tick_26 hl (k := 0) rfl (by decide) (by decide) rfl (fun ls hl => ?_)
  refine lv_goto (tgt := 2) hx hb d_B_tick_29 (by decide) ?_
  subst hU1
  have e : g_B_tick_2_0 u = (g_B_tick_2_1 (f_B_tick_23 u)) := rfl
  exact tl_B_tick_2_1 G ad (f_B_tick_23 u) hI1 C hAe hA hP hD hS (lv_sub hl [0, 1] rfl) (by rw [e])
set_option maxHeartbeats 4000000 in
set_option maxRecDepth 100000 in
theorem c_B_tick (l : Launch) (G : hk_G) (ad : Nat → Nat) (u : cB) (hI : Iv u) : hk_V l G y_B_tick b_B_tick 2 rm_B_tick [.ref (ad 0)] (wB G ad u) (wB G ad (m_B_tick u)) := by
  refine hk_V_of (by decide) (Nat.le_of_ble_eq_true rfl) ?_
  intro p e s m below meth c A ls C hAe hA hP hD hS hl
  have hx := C.1
  have hb := C.2.1
  have hown := C.2.2.2.2.1
  have hts := C.2.2.2.2.2.1
  have hE := C.2.2.2.2.2.2.2
  have hl : lv_has ls 2 [(0, .ref (ad 0))] := hl
  refine lv_iconst (v := (0 : Int32)) hx hb d_B_tick_0 (by decide) ?_
  refine lv_istore_n (lv' := [(1, .int (0 : Int32)), (0, .ref (ad 0))]) hx hb d_B_tick_1 rfl hl (by decide) rfl (fun ls hl => ?_)
  have e : m_B_tick u = (g_B_tick_2_0 u) := rfl
  exact tl_B_tick_2_0 G ad u hI C hAe hA hP hD hS (lv_sub hl [0, 1] rfl) (by rw [e])
