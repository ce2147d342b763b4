def m_B_output (p1 : Int32) (u : cB) : Int32 := if (m_B_isBelow p1 (10 : Int32)) = 0 then (0 : Int32) else m_B_outputNow p1 u
theorem hk_b10 {p : Int32} (h : ¬ m_B_isBelow p 10 = 0) : p = 0 ∨ p = 1 ∨ p = 2 ∨ p = 3 ∨ p = 4 ∨ p = 5 ∨ p = 6 ∨ p = 7 ∨ p = 8 ∨ p = 9 := by
  obtain ⟨j, hj, hN, rfl⟩ := hk_bl (N := 10) h rfl
  exact hk_d10 hN
theorem Y_B_output : hk_Y y_B_output b_B_output 2 (some .int) 1 := ⟨hk_in (by decide +kernel) rfl, hk_in (by decide +kernel) rfl, hk_in (by decide +kernel) rfl, hk_in (List.mem_of_getElem? (i := 436) rfl) rfl, by decide, by decide, by decide +kernel⟩
abbrev rm_B_output : Room := { frames := 4, cells := 0, slots := 0, locals := 83 }
set_option maxHeartbeats 4000000 in
set_option maxRecDepth 100000 in
theorem c_B_output (l : Launch) (G : hk_G) (ad : Nat → Nat) (u : cB) (p1 : Int32) (hI : Iv u) (h10 : ¬ m_B_isBelow p1 10 = 0) : hk_I l G y_B_output b_B_output 2 (some .int) rm_B_output [.ref (ad 0), .int p1] (wB G ad u) (m_B_output p1 u) (wB G ad u) := by
  refine hk_I_of (by decide) (Nat.le_of_ble_eq_true rfl) ?_
  intro p e s m below meth c A ls C hAe hA hP hD hS hl
  have hx := C.1
  have hb := C.2.1
  have hown := C.2.2.2.2.1
  have hts := C.2.2.2.2.2.1
  have hE := C.2.2.2.2.2.2.2
  have hl : lv_has ls 2 [(0, .ref (ad 0)), (1, .int p1)] := hl
  refine lv_iload_n hx hb d_B_output_0 rfl (lv_at hl 1 rfl) ?_
  refine lv_bipush (v := (10 : Int32)) hx hb d_B_output_1 (by decide) ?_
  refine hk_goIe (hk_kS (k := 2) (As := [.int p1, .int (10 : Int32)]) (rest := []) C (c_B_isBelow l G p1 (10 : Int32) _) Y_B_isBelow (hk_in (by decide +kernel) rfl) rfl rfl ⟨Nat.le_of_ble_eq_true rfl, Nat.le_of_ble_eq_true rfl⟩ hk_Pn (hk_Dn (A := A)) rfl hl.1 rfl (Nat.le_of_ble_eq_true rfl) d_B_output_3 ⟨Nat.zero_le _, Nat.zero_le _⟩) hP hS hA (fun H locs hP hS => ?_)
  refine lv_if_ne (tgt := 19) hx hb d_B_output_6 (by decide) (fun c_1 => ?_) (fun c_1 => ?_)
  · skip
    refine lv_aload_n hx hb d_B_output_19 rfl (lv_at hl 0 rfl) ?_
    refine lv_iload_n hx hb d_B_output_20 rfl (lv_at hl 1 rfl) ?_
    refine hk_goI (hk_kV (k := 1) (As := [.int p1]) (rest := []) C (c_B_outputNow l G ad u p1 hI (hk_b10 h10) _) Y_B_outputNow (hk_in (by decide +kernel) rfl) rfl rfl ⟨Nat.le_of_ble_eq_true rfl, Nat.le_of_ble_eq_true rfl⟩ (va_recv hE.1 hP (ci := 4) (q0 := 0) rfl rfl) hP hD rfl hl.1 rfl (Nat.le_of_ble_eq_true rfl) d_B_output_21 ⟨Nat.zero_le _, Nat.zero_le _⟩) hD hS hA (fun H locs hP hD hS => ?_)
    have e : m_B_output p1 u = m_B_outputNow p1 u := (if_neg c_1).trans (rfl)
    exact hk_ri C hAe hP hD hS e.symm rfl d_B_output_24
  · skip
    exact absurd c_1 h10
