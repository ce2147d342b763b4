set_option maxHeartbeats 8000000 in
set_option maxRecDepth 100000 in
theorem lw_case_input {p : Program} {l : Launch} {e : Env} {s : State} {m : MethodId} {below : List Frame} {meth : Method} {c : Code} {b L : Nat} {xs : Nat → Int32} {G : hk_G} {tz1 tz2 : Nat} (K : lw_C p l s m meth c b L xs G tz1 tz2) (hL : L ≤ 2048) {i cells slots : Nat} (hi : i + 4 ≤ L) (hcc : cells ≤ 3000) (hss : slots ≤ 20000) {ab am : Nat → Nat} {q : Nat} {u : cB} {v : cM} {lo : Nat → Int64} {H : Heap} {locs : List Loc} {ls : Array Slot} (hR : RV u v) (hP : va_P (hk_D G) classes (wW G ab am q u v lo) H) (hD : va_D (lw_A s) (wW G ab am q u v lo)) (hS : va_S (lw_A s) s.heap H locs) (hl : lv_has ls 7 (lw_lv b q (am 0) (ab 0) i)) (kk : lw_K p l e s m below meth c b G ab am q i cells slots) : W p l e room_1 s m #[Value.ref b] below meth c H locs cells slots (lw_Z below #[Value.ref b] s) (F0 m 112 ls []) := by
  obtain ⟨hx, hb, hr, hml, hown, hts, hX, hbl, hlocks, hgv⟩ := id K.1
  have C := K.2.1
  have hE := C.2.2.2.2.2.2.2
  have hA : ∀ x : Nat, s.heap.size ≤ x → lw_A s x := fun _ h => h
  have hbA : ¬ lw_A s b := Nat.not_le.mpr hbl
  have hIv := hR.iv
  have hIM := hR.im
  have in1 : vp_in (nI i + 1) L := by rw [nI_1]; exact vp_in_nI (by omega) (by omega)
  have in2 : vp_in (nI i + 2) L := by rw [show (2 : Int32) = nI 2 from rfl, nI_add]; exact vp_in_nI (by omega) (by omega)
  have in3 : vp_in (nI i + 3) L := by rw [show (3 : Int32) = nI 3 from rfl, nI_add]; exact vp_in_nI (by omega) (by omega)
  have hl : lv_has ls 7 [(4, .int (nI i)), (3, .ref q), (2, .ref (am 0)), (1, .ref (ab 0)), (0, .ref b)] := hl
  refine lv_aload_n hx hb d_law_112 rfl (lv_at hl 3 rfl) ?_
  refine lv_aload_n hx hb d_law_113 rfl (lv_at hl 4 rfl) ?_
  refine lv_iload hx hb d_law_114 (lv_at hl 0 rfl) ?_
  refine lv_iconst (v := (1 : Int32)) hx hb d_law_116 (by decide) ?_
  refine lv_iadd hx hb d_law_117 ?_
  refine va_sld hx hb hX hbl hbA hS in1 d_law_118 ?_
  refine lv_aload_n hx hb d_law_119 rfl (lv_at hl 4 rfl) ?_
  refine lv_iload hx hb d_law_120 (lv_at hl 0 rfl) ?_
  refine lv_iconst (v := (2 : Int32)) hx hb d_law_122 (by decide) ?_
  refine lv_iadd hx hb d_law_123 ?_
  refine va_sld hx hb hX hbl hbA hS in2 d_law_124 ?_
  refine lw_goB (u1 := (m_B_input (xs (nI i + 1).toNatClampNeg) (xs (nI i + 2).toNatClampNeg) u).2) (hk_kVg (k := 2) (As := [.int (xs (nI i + 1).toNatClampNeg), .int (xs (nI i + 2).toNatClampNeg)]) (rest := []) C (c_B_input l G tz1 ab u (xs (nI i + 1).toNatClampNeg) (xs (nI i + 2).toNatClampNeg) hIv _) Y_B_input (hk_in (by decide +kernel) rfl) rfl rfl ⟨(Nat.le_of_ble_eq_true rfl), (Nat.le_of_ble_eq_true rfl)⟩ (va_recv hE.1 hP (ci := 4) (q0 := 0) rfl rfl) (lw_pz1 K hP hD hS) rfl hl.1 rfl (Nat.le_of_ble_eq_true rfl) d_law_125 ⟨by show cells + 0 ≤ 674747; omega, by show slots + 0 ≤ 7071862; omega⟩) hP hD hS hA (fun H locs hP hD hS => ?_)
  refine lv_aload_n hx hb d_law_128 rfl (lv_at hl 2 rfl) ?_
  refine lv_aload_n hx hb d_law_129 rfl (lv_at hl 4 rfl) ?_
  refine lv_iload hx hb d_law_130 (lv_at hl 0 rfl) ?_
  refine lv_iconst (v := (1 : Int32)) hx hb d_law_132 (by decide) ?_
  refine lv_iadd hx hb d_law_133 ?_
  refine va_sld hx hb hX hbl hbA hS in1 d_law_134 ?_
  refine lv_aload_n hx hb d_law_135 rfl (lv_at hl 4 rfl) ?_
  refine lv_iload hx hb d_law_136 (lv_at hl 0 rfl) ?_
  refine lv_iconst (v := (2 : Int32)) hx hb d_law_138 (by decide) ?_
  refine lv_iadd hx hb d_law_139 ?_
  refine va_sld hx hb hX hbl hbA hS in2 d_law_140 ?_
  refine lw_goM (v1 := (m_M_input (xs (nI i + 1).toNatClampNeg) (xs (nI i + 2).toNatClampNeg) v).2) (hk_kVg (k := 2) (As := [.int (xs (nI i + 1).toNatClampNeg), .int (xs (nI i + 2).toNatClampNeg)]) (rest := [.int (m_B_input (xs (nI i + 1).toNatClampNeg) (xs (nI i + 2).toNatClampNeg) u).1]) C (c_M_input l G am v (xs (nI i + 1).toNatClampNeg) (xs (nI i + 2).toNatClampNeg) _) Y_M_input (hk_in (by decide +kernel) rfl) rfl rfl ⟨(Nat.le_of_ble_eq_true rfl), (Nat.le_of_ble_eq_true rfl)⟩ (va_recv hE.1 hP (ci := 5) (q0 := 22) rfl rfl) (hk_pre C (hP.sub (ws' := wM G am v) [22, 23, 24, 25, 26, 27, 28, 29, 30, 31, 32, 33, 34, 35] rfl) (hD.sub (ws' := wM G am v) [22, 23, 24, 25, 26, 27, 28, 29, 30, 31, 32, 33, 34, 35] (by decide) rfl)) rfl hl.1 rfl (Nat.le_of_ble_eq_true rfl) d_law_141 ⟨by show cells + 0 ≤ 674747; omega, by show slots + 0 ≤ 7071862; omega⟩) hP hD hS hA (fun H locs hP hD hS => ?_)
  have rr := r_input hR (xs (nI i + 1).toNatClampNeg) (xs (nI i + 2).toNatClampNeg)
  refine lv_icmp_eq (tgt := 638) hx hb d_law_144 (by decide) (fun _ => ?_) (fun c9 => absurd rr.1 c9)
  refine W.widen (k := cells + 1) (n := slots + 6) (by omega) (by omega) ?_
  exact kk _ _ lo _ _ _ rr.2 hP hD hS hl
set_option maxHeartbeats 8000000 in
set_option maxRecDepth 100000 in
theorem lw_case_output {p : Program} {l : Launch} {e : Env} {s : State} {m : MethodId} {below : List Frame} {meth : Method} {c : Code} {b L : Nat} {xs : Nat → Int32} {G : hk_G} {tz1 tz2 : Nat} (K : lw_C p l s m meth c b L xs G tz1 tz2) (hL : L ≤ 2048) {i cells slots : Nat} (hi : i + 4 ≤ L) (hcc : cells ≤ 3000) (hss : slots ≤ 20000) {ab am : Nat → Nat} {q : Nat} {u : cB} {v : cM} {lo : Nat → Int64} {H : Heap} {locs : List Loc} {ls : Array Slot} (hR : RV u v) (hP : va_P (hk_D G) classes (wW G ab am q u v lo) H) (hD : va_D (lw_A s) (wW G ab am q u v lo)) (hS : va_S (lw_A s) s.heap H locs) (hl : lv_has ls 7 (lw_lv b q (am 0) (ab 0) i)) (kk : lw_K p l e s m below meth c b G ab am q i cells slots) : W p l e room_1 s m #[Value.ref b] below meth c H locs cells slots (lw_Z below #[Value.ref b] s) (F0 m 149 ls []) := by
  obtain ⟨hx, hb, hr, hml, hown, hts, hX, hbl, hlocks, hgv⟩ := id K.1
  have C := K.2.1
  have hE := C.2.2.2.2.2.2.2
  have hA : ∀ x : Nat, s.heap.size ≤ x → lw_A s x := fun _ h => h
  have hbA : ¬ lw_A s b := Nat.not_le.mpr hbl
  have hIv := hR.iv
  have hIM := hR.im
  have in1 : vp_in (nI i + 1) L := by rw [nI_1]; exact vp_in_nI (by omega) (by omega)
  have in2 : vp_in (nI i + 2) L := by rw [show (2 : Int32) = nI 2 from rfl, nI_add]; exact vp_in_nI (by omega) (by omega)
  have in3 : vp_in (nI i + 3) L := by rw [show (3 : Int32) = nI 3 from rfl, nI_add]; exact vp_in_nI (by omega) (by omega)
  have hl : lv_has ls 7 [(4, .int (nI i)), (3, .ref q), (2, .ref (am 0)), (1, .ref (ab 0)), (0, .ref b)] := hl
  refine lv_aload_n hx hb d_law_149 rfl (lv_at hl 3 rfl) ?_
  refine lv_aload_n hx hb d_law_150 rfl (lv_at hl 4 rfl) ?_
  refine lv_iload hx hb d_law_151 (lv_at hl 0 rfl) ?_
  refine lv_iconst (v := (1 : Int32)) hx hb d_law_153 (by decide) ?_
  refine lv_iadd hx hb d_law_154 ?_
  refine va_sld hx hb hX hbl hbA hS in1 d_law_155 ?_
  refine lv_aload_n hx hb d_law_156 rfl (lv_at hl 1 rfl) ?_
  refine lw_goO (lo1 := lO (xs (nI i + 1).toNatClampNeg) u lo) (lw_runO K hP hD hS hIv (p1 := xs (nI i + 1).toNatClampNeg) hl.1 d_law_157 ⟨by show cells + 1 ≤ 674747; omega, by show slots + 6 ≤ 7071862; omega⟩) hP hD hS hA (fun H locs hP hD hS => ?_)
  refine lv_istore (lv' := [(5, .int (rO (xs (nI i + 1).toNatClampNeg))), (4, .int (nI i)), (3, .ref q), (2, .ref (am 0)), (1, .ref (ab 0)), (0, .ref b)]) hx hb d_law_160 hl (by decide) rfl (fun ls hl => ?_)
  refine lv_aload_n hx hb d_law_162 rfl (lv_at hl 3 rfl) ?_
  refine lv_aload_n hx hb d_law_163 rfl (lv_at hl 5 rfl) ?_
  refine lv_iload hx hb d_law_164 (lv_at hl 1 rfl) ?_
  refine lv_iconst (v := (1 : Int32)) hx hb d_law_166 (by decide) ?_
  refine lv_iadd hx hb d_law_167 ?_
  refine va_sld hx hb hX hbl hbA hS in1 d_law_168 ?_
  refine lw_goM (v1 := (m_M_output (xs (nI i + 1).toNatClampNeg) v).2) (hk_kVg (k := 1) (As := [.int (xs (nI i + 1).toNatClampNeg)]) (rest := []) C (c_M_output l G am v (xs (nI i + 1).toNatClampNeg) _) Y_M_output (hk_in (by decide +kernel) rfl) rfl rfl ⟨(Nat.le_of_ble_eq_true rfl), (Nat.le_of_ble_eq_true rfl)⟩ (va_recv hE.1 hP (ci := 5) (q0 := 22) rfl rfl) (hk_pre C (hP.sub (ws' := wM G am v) [22, 23, 24, 25, 26, 27, 28, 29, 30, 31, 32, 33, 34, 35] rfl) (hD.sub (ws' := wM G am v) [22, 23, 24, 25, 26, 27, 28, 29, 30, 31, 32, 33, 34, 35] (by decide) rfl)) rfl hl.1 rfl (Nat.le_of_ble_eq_true rfl) d_law_169 ⟨by show cells + 1 + 0 ≤ 674747; omega, by show slots + 6 + 0 ≤ 7071862; omega⟩) hP hD hS hA (fun H locs hP hD hS => ?_)
  refine lv_istore (lv' := [(6, .int (m_M_output (xs (nI i + 1).toNatClampNeg) v).1), (5, .int (rO (xs (nI i + 1).toNatClampNeg))), (4, .int (nI i)), (3, .ref q), (2, .ref (am 0)), (1, .ref (ab 0)), (0, .ref b)]) hx hb d_law_172 hl (by decide) rfl (fun ls hl => ?_)
  refine lv_aload_n hx hb d_law_174 rfl (lv_at hl 4 rfl) ?_
  refine lw_goM (v1 := (m_M_output (xs (nI i + 1).toNatClampNeg) v).2) (hk_kVg (k := 0) (As := []) (rest := []) C (c_M_thrown l G am (m_M_output (xs (nI i + 1).toNatClampNeg) v).2 _) Y_M_thrown (hk_in (by decide +kernel) rfl) rfl rfl ⟨(Nat.le_of_ble_eq_true rfl), (Nat.le_of_ble_eq_true rfl)⟩ (va_recv hE.1 hP (ci := 5) (q0 := 22) rfl rfl) (hk_pre C (hP.sub (ws' := wM G am (m_M_output (xs (nI i + 1).toNatClampNeg) v).2) [22, 23, 24, 25, 26, 27, 28, 29, 30, 31, 32, 33, 34, 35] rfl) (hD.sub (ws' := wM G am (m_M_output (xs (nI i + 1).toNatClampNeg) v).2) [22, 23, 24, 25, 26, 27, 28, 29, 30, 31, 32, 33, 34, 35] (by decide) rfl)) rfl hl.1 rfl (Nat.le_of_ble_eq_true rfl) d_law_175 ⟨by show cells + 1 + 0 ≤ 674747; omega, by show slots + 6 + 0 ≤ 7071862; omega⟩) hP hD hS hA (fun H locs hP hD hS => ?_)
  refine lv_iload hx hb d_law_178 (lv_at hl 1 rfl) ?_
  have hbe : m_B_isBelow (xs (nI i + 1).toNatClampNeg) 10 = m_M_within (xs (nI i + 1).toNatClampNeg) 0 9 := ab_be 9 (by decide)
  by_cases hp : m_B_isBelow (xs (nI i + 1).toNatClampNeg) 10 = 0
  · skip
    obtain ⟨r1, r2⟩ := r_outputX hR (xs (nI i + 1).toNatClampNeg) (hbe.symm.trans hp)
    have r0 : rO (xs (nI i + 1).toNatClampNeg) = 1 := if_pos hp
    refine lv_icmp_eq (tgt := 185) hx hb d_law_180 (by decide) (fun _ => ?_) (fun c9 => absurd (r1.trans r0.symm) c9)
    refine lv_iload hx hb d_law_185 (lv_at hl 1 rfl) ?_
    refine lv_if_ne (tgt := 202) hx hb d_law_187 (by decide) (fun _ => ?_) (fun c9 => absurd (r0.symm.trans c9) (by decide))
    refine lv_goto (tgt := 638) hx hb d_law_202 (by decide) ?_
    exact kk _ _ _ _ _ _ r2 hP hD hS (lv_sub hl [2, 3, 4, 5, 6] rfl)
  · skip
    obtain ⟨r3, r1, r2⟩ := r_output hR (xs (nI i + 1).toNatClampNeg) (fun z => hp (hbe.trans z))
    have r0 : rO (xs (nI i + 1).toNatClampNeg) = 0 := if_neg hp
    refine lv_icmp_eq (tgt := 185) hx hb d_law_180 (by decide) (fun _ => ?_) (fun c9 => absurd (r1.trans r0.symm) c9)
    refine lv_iload hx hb d_law_185 (lv_at hl 1 rfl) ?_
    refine lv_if_ne (tgt := 202) hx hb d_law_187 (by decide) (fun c9 => absurd r0 c9) (fun _ => ?_)
    refine lv_aload_n hx hb d_law_190 rfl (lv_at hl 3 rfl) ?_
    refine lv_iconst (v := (0 : Int32)) hx hb d_law_191 (by decide) ?_
    refine va_lald (D := hk_D G) hx hb hE.1 hP 36 5 (cA := G.2.2 5) (n := 1) (f := lO (xs (nI i + 1).toNatClampNeg) u lo) rfl rfl (hk_inl (by decide)) d_law_192 ?_
    refine lv_iload hx hb d_law_193 (lv_at hl 0 rfl) ?_
    refine lv_i2l hx hb d_law_195 rfl ?_
    refine W.lcmp hx hb d_law_196 ?_
    have el : lO (xs (nI i + 1).toNatClampNeg) u lo (0 : Int32).toNatClampNeg = (m_M_output (xs (nI i + 1).toNatClampNeg) v).1.toInt64 := lo_read hp r3
    rw [el, lg_cmp_self]
    refine lv_if_eq (tgt := 202) hx hb d_law_197 (by decide) (fun _ => ?_) (fun c9 => absurd rfl c9)
    refine lv_goto (tgt := 638) hx hb d_law_202 (by decide) ?_
    exact kk _ _ _ _ _ _ r2 hP hD hS (lv_sub hl [2, 3, 4, 5, 6] rfl)
set_option maxHeartbeats 8000000 in
set_option maxRecDepth 100000 in
theorem lw_case_step {p : Program} {l : Launch} {e : Env} {s : State} {m : MethodId} {below : List Frame} {meth : Method} {c : Code} {b L : Nat} {xs : Nat → Int32} {G : hk_G} {tz1 tz2 : Nat} (K : lw_C p l s m meth c b L xs G tz1 tz2) (hL : L ≤ 2048) {i cells slots : Nat} (hi : i + 4 ≤ L) (hcc : cells ≤ 3000) (hss : slots ≤ 20000) {ab am : Nat → Nat} {q : Nat} {u : cB} {v : cM} {lo : Nat → Int64} {H : Heap} {locs : List Loc} {ls : Array Slot} (hR : RV u v) (hP : va_P (hk_D G) classes (wW G ab am q u v lo) H) (hD : va_D (lw_A s) (wW G ab am q u v lo)) (hS : va_S (lw_A s) s.heap H locs) (hl : lv_has ls 7 (lw_lv b q (am 0) (ab 0) i)) (kk : lw_K p l e s m below meth c b G ab am q i cells slots) : W p l e room_1 s m #[Value.ref b] below meth c H locs cells slots (lw_Z below #[Value.ref b] s) (F0 m 205 ls []) := by
  obtain ⟨hx, hb, hr, hml, hown, hts, hX, hbl, hlocks, hgv⟩ := id K.1
  have C := K.2.1
  have hE := C.2.2.2.2.2.2.2
  have hA : ∀ x : Nat, s.heap.size ≤ x → lw_A s x := fun _ h => h
  have hbA : ¬ lw_A s b := Nat.not_le.mpr hbl
  have hIv := hR.iv
  have hIM := hR.im
  have in1 : vp_in (nI i + 1) L := by rw [nI_1]; exact vp_in_nI (by omega) (by omega)
  have in2 : vp_in (nI i + 2) L := by rw [show (2 : Int32) = nI 2 from rfl, nI_add]; exact vp_in_nI (by omega) (by omega)
  have in3 : vp_in (nI i + 3) L := by rw [show (3 : Int32) = nI 3 from rfl, nI_add]; exact vp_in_nI (by omega) (by omega)
  have hl : lv_has ls 7 [(4, .int (nI i)), (3, .ref q), (2, .ref (am 0)), (1, .ref (ab 0)), (0, .ref b)] := hl
  refine lv_aload_n hx hb d_law_205 rfl (lv_at hl 3 rfl) ?_
  refine lv_aload_n hx hb d_law_206 rfl (lv_at hl 4 rfl) ?_
  refine lv_iload hx hb d_law_207 (lv_at hl 0 rfl) ?_
  refine lv_iconst (v := (1 : Int32)) hx hb d_law_209 (by decide) ?_
  refine lv_iadd hx hb d_law_210 ?_
  refine va_sld hx hb hX hbl hbA hS in1 d_law_211 ?_
  refine lw_goB (u1 := (m_B_step (xs (nI i + 1).toNatClampNeg) u).2) (hk_kVg (k := 1) (As := [.int (xs (nI i + 1).toNatClampNeg)]) (rest := []) C (c_B_step l G ab u (xs (nI i + 1).toNatClampNeg) hIv _) Y_B_step (hk_in (by decide +kernel) rfl) rfl rfl ⟨(Nat.le_of_ble_eq_true rfl), (Nat.le_of_ble_eq_true rfl)⟩ (va_recv hE.1 hP (ci := 4) (q0 := 0) rfl rfl) (hk_pre C (hP.sub (ws' := wB G ab u) [0, 1, 2, 3, 4, 5, 6, 7, 8, 9, 10, 11, 12, 13, 14, 15, 16, 17, 18, 19, 20, 21] rfl) (hD.sub (ws' := wB G ab u) [0, 1, 2, 3, 4, 5, 6, 7, 8, 9, 10, 11, 12, 13, 14, 15, 16, 17, 18, 19, 20, 21] (by decide) rfl)) rfl hl.1 rfl (Nat.le_of_ble_eq_true rfl) d_law_212 ⟨by show cells + 0 ≤ 674747; omega, by show slots + 0 ≤ 7071862; omega⟩) hP hD hS hA (fun H locs hP hD hS => ?_)
  refine lv_aload_n hx hb d_law_215 rfl (lv_at hl 2 rfl) ?_
  refine lv_aload_n hx hb d_law_216 rfl (lv_at hl 4 rfl) ?_
  refine lv_iload hx hb d_law_217 (lv_at hl 0 rfl) ?_
  refine lv_iconst (v := (1 : Int32)) hx hb d_law_219 (by decide) ?_
  refine lv_iadd hx hb d_law_220 ?_
  refine va_sld hx hb hX hbl hbA hS in1 d_law_221 ?_
  refine lw_goM (v1 := (m_M_step (xs (nI i + 1).toNatClampNeg) v).2) (hk_kVg (k := 1) (As := [.int (xs (nI i + 1).toNatClampNeg)]) (rest := [.int (m_B_step (xs (nI i + 1).toNatClampNeg) u).1]) C (c_M_step l G am v (xs (nI i + 1).toNatClampNeg) _) Y_M_step (hk_in (by decide +kernel) rfl) rfl rfl ⟨(Nat.le_of_ble_eq_true rfl), (Nat.le_of_ble_eq_true rfl)⟩ (va_recv hE.1 hP (ci := 5) (q0 := 22) rfl rfl) (hk_pre C (hP.sub (ws' := wM G am v) [22, 23, 24, 25, 26, 27, 28, 29, 30, 31, 32, 33, 34, 35] rfl) (hD.sub (ws' := wM G am v) [22, 23, 24, 25, 26, 27, 28, 29, 30, 31, 32, 33, 34, 35] (by decide) rfl)) rfl hl.1 rfl (Nat.le_of_ble_eq_true rfl) d_law_222 ⟨by show cells + 0 ≤ 674747; omega, by show slots + 0 ≤ 7071862; omega⟩) hP hD hS hA (fun H locs hP hD hS => ?_)
  have rr := r_step hR (xs (nI i + 1).toNatClampNeg)
  refine lv_icmp_eq (tgt := 638) hx hb d_law_225 (by decide) (fun _ => ?_) (fun c9 => absurd rr.1 c9)
  refine W.widen (k := cells + 1) (n := slots + 6) (by omega) (by omega) ?_
  exact kk _ _ lo _ _ _ rr.2 hP hD hS hl
set_option maxHeartbeats 8000000 in
set_option maxRecDepth 100000 in
theorem lw_case_pinch {p : Program} {l : Launch} {e : Env} {s : State} {m : MethodId} {below : List Frame} {meth : Method} {c : Code} {b L : Nat} {xs : Nat → Int32} {G : hk_G} {tz1 tz2 : Nat} (K : lw_C p l s m meth c b L xs G tz1 tz2) (hL : L ≤ 2048) {i cells slots : Nat} (hi : i + 4 ≤ L) (hcc : cells ≤ 3000) (hss : slots ≤ 20000) {ab am : Nat → Nat} {q : Nat} {u : cB} {v : cM} {lo : Nat → Int64} {H : Heap} {locs : List Loc} {ls : Array Slot} (hR : RV u v) (hP : va_P (hk_D G) classes (wW G ab am q u v lo) H) (hD : va_D (lw_A s) (wW G ab am q u v lo)) (hS : va_S (lw_A s) s.heap H locs) (hl : lv_has ls 7 (lw_lv b q (am 0) (ab 0) i)) (kk : lw_K p l e s m below meth c b G ab am q i cells slots) : W p l e room_1 s m #[Value.ref b] below meth c H locs cells slots (lw_Z below #[Value.ref b] s) (F0 m 230 ls []) := by
  obtain ⟨hx, hb, hr, hml, hown, hts, hX, hbl, hlocks, hgv⟩ := id K.1
  have C := K.2.1
  have hE := C.2.2.2.2.2.2.2
  have hA : ∀ x : Nat, s.heap.size ≤ x → lw_A s x := fun _ h => h
  have hbA : ¬ lw_A s b := Nat.not_le.mpr hbl
  have hIv := hR.iv
  have hIM := hR.im
  have in1 : vp_in (nI i + 1) L := by rw [nI_1]; exact vp_in_nI (by omega) (by omega)
  have in2 : vp_in (nI i + 2) L := by rw [show (2 : Int32) = nI 2 from rfl, nI_add]; exact vp_in_nI (by omega) (by omega)
  have in3 : vp_in (nI i + 3) L := by rw [show (3 : Int32) = nI 3 from rfl, nI_add]; exact vp_in_nI (by omega) (by omega)
  have hl : lv_has ls 7 [(4, .int (nI i)), (3, .ref q), (2, .ref (am 0)), (1, .ref (ab 0)), (0, .ref b)] := hl
  refine lv_aload_n hx hb d_law_230 rfl (lv_at hl 3 rfl) ?_
  refine lv_aload_n hx hb d_law_231 rfl (lv_at hl 4 rfl) ?_
  refine lv_iload hx hb d_law_232 (lv_at hl 0 rfl) ?_
  refine lv_iconst (v := (1 : Int32)) hx hb d_law_234 (by decide) ?_
  refine lv_iadd hx hb d_law_235 ?_
  refine va_sld hx hb hX hbl hbA hS in1 d_law_236 ?_
  refine lv_aload_n hx hb d_law_237 rfl (lv_at hl 4 rfl) ?_
  refine lv_iload hx hb d_law_238 (lv_at hl 0 rfl) ?_
  refine lv_iconst (v := (2 : Int32)) hx hb d_law_240 (by decide) ?_
  refine lv_iadd hx hb d_law_241 ?_
  refine va_sld hx hb hX hbl hbA hS in2 d_law_242 ?_
  refine lw_goB (u1 := (m_B_pinch (xs (nI i + 1).toNatClampNeg) (xs (nI i + 2).toNatClampNeg) u).2) (hk_kVg (k := 2) (As := [.int (xs (nI i + 1).toNatClampNeg), .int (xs (nI i + 2).toNatClampNeg)]) (rest := []) C (c_B_pinch l G ab u (xs (nI i + 1).toNatClampNeg) (xs (nI i + 2).toNatClampNeg) hIv _) Y_B_pinch (hk_in (by decide +kernel) rfl) rfl rfl ⟨(Nat.le_of_ble_eq_true rfl), (Nat.le_of_ble_eq_true rfl)⟩ (va_recv hE.1 hP (ci := 4) (q0 := 0) rfl rfl) (hk_pre C (hP.sub (ws' := wB G ab u) [0, 1, 2, 3, 4, 5, 6, 7, 8, 9, 10, 11, 12, 13, 14, 15, 16, 17, 18, 19, 20, 21] rfl) (hD.sub (ws' := wB G ab u) [0, 1, 2, 3, 4, 5, 6, 7, 8, 9, 10, 11, 12, 13, 14, 15, 16, 17, 18, 19, 20, 21] (by decide) rfl)) rfl hl.1 rfl (Nat.le_of_ble_eq_true rfl) d_law_243 ⟨by show cells + 0 ≤ 674747; omega, by show slots + 0 ≤ 7071862; omega⟩) hP hD hS hA (fun H locs hP hD hS => ?_)
  refine lv_aload_n hx hb d_law_246 rfl (lv_at hl 2 rfl) ?_
  refine lv_aload_n hx hb d_law_247 rfl (lv_at hl 4 rfl) ?_
  refine lv_iload hx hb d_law_248 (lv_at hl 0 rfl) ?_
  refine lv_iconst (v := (1 : Int32)) hx hb d_law_250 (by decide) ?_
  refine lv_iadd hx hb d_law_251 ?_
  refine va_sld hx hb hX hbl hbA hS in1 d_law_252 ?_
  refine lv_aload_n hx hb d_law_253 rfl (lv_at hl 4 rfl) ?_
  refine lv_iload hx hb d_law_254 (lv_at hl 0 rfl) ?_
  refine lv_iconst (v := (2 : Int32)) hx hb d_law_256 (by decide) ?_
  refine lv_iadd hx hb d_law_257 ?_
  refine va_sld hx hb hX hbl hbA hS in2 d_law_258 ?_
  refine lw_goM (v1 := (m_M_pinch (xs (nI i + 1).toNatClampNeg) (xs (nI i + 2).toNatClampNeg) v).2) (hk_kVg (k := 2) (As := [.int (xs (nI i + 1).toNatClampNeg), .int (xs (nI i + 2).toNatClampNeg)]) (rest := [.int (m_B_pinch (xs (nI i + 1).toNatClampNeg) (xs (nI i + 2).toNatClampNeg) u).1]) C (c_M_pinch l G am v (xs (nI i + 1).toNatClampNeg) (xs (nI i + 2).toNatClampNeg) _) Y_M_pinch (hk_in (by decide +kernel) rfl) rfl rfl ⟨(Nat.le_of_ble_eq_true rfl), (Nat.le_of_ble_eq_true rfl)⟩ (va_recv hE.1 hP (ci := 5) (q0 := 22) rfl rfl) (hk_pre C (hP.sub (ws' := wM G am v) [22, 23, 24, 25, 26, 27, 28, 29, 30, 31, 32, 33, 34, 35] rfl) (hD.sub (ws' := wM G am v) [22, 23, 24, 25, 26, 27, 28, 29, 30, 31, 32, 33, 34, 35] (by decide) rfl)) rfl hl.1 rfl (Nat.le_of_ble_eq_true rfl) d_law_259 ⟨by show cells + 0 ≤ 674747; omega, by show slots + 0 ≤ 7071862; omega⟩) hP hD hS hA (fun H locs hP hD hS => ?_)
  have rr := r_pinch hR (xs (nI i + 1).toNatClampNeg) (xs (nI i + 2).toNatClampNeg)
  refine lv_icmp_eq (tgt := 638) hx hb d_law_262 (by decide) (fun _ => ?_) (fun c9 => absurd rr.1 c9)
  refine W.widen (k := cells + 1) (n := slots + 6) (by omega) (by omega) ?_
  exact kk _ _ lo _ _ _ rr.2 hP hD hS hl
set_option maxHeartbeats 8000000 in
set_option maxRecDepth 100000 in
theorem lw_case_learn {p : Program} {l : Launch} {e : Env} {s : State} {m : MethodId} {below : List Frame} {meth : Method} {c : Code} {b L : Nat} {xs : Nat → Int32} {G : hk_G} {tz1 tz2 : Nat} (K : lw_C p l s m meth c b L xs G tz1 tz2) (hL : L ≤ 2048) {i cells slots : Nat} (hi : i + 4 ≤ L) (hcc : cells ≤ 3000) (hss : slots ≤ 20000) {ab am : Nat → Nat} {q : Nat} {u : cB} {v : cM} {lo : Nat → Int64} {H : Heap} {locs : List Loc} {ls : Array Slot} (hR : RV u v) (hP : va_P (hk_D G) classes (wW G ab am q u v lo) H) (hD : va_D (lw_A s) (wW G ab am q u v lo)) (hS : va_S (lw_A s) s.heap H locs) (hl : lv_has ls 7 (lw_lv b q (am 0) (ab 0) i)) (kk : lw_K p l e s m below meth c b G ab am q i cells slots) : W p l e room_1 s m #[Value.ref b] below meth c H locs cells slots (lw_Z below #[Value.ref b] s) (F0 m 267 ls []) := by
  obtain ⟨hx, hb, hr, hml, hown, hts, hX, hbl, hlocks, hgv⟩ := id K.1
  have C := K.2.1
  have hE := C.2.2.2.2.2.2.2
  have hA : ∀ x : Nat, s.heap.size ≤ x → lw_A s x := fun _ h => h
  have hbA : ¬ lw_A s b := Nat.not_le.mpr hbl
  have hIv := hR.iv
  have hIM := hR.im
  have in1 : vp_in (nI i + 1) L := by rw [nI_1]; exact vp_in_nI (by omega) (by omega)
  have in2 : vp_in (nI i + 2) L := by rw [show (2 : Int32) = nI 2 from rfl, nI_add]; exact vp_in_nI (by omega) (by omega)
  have in3 : vp_in (nI i + 3) L := by rw [show (3 : Int32) = nI 3 from rfl, nI_add]; exact vp_in_nI (by omega) (by omega)
  have hl : lv_has ls 7 [(4, .int (nI i)), (3, .ref q), (2, .ref (am 0)), (1, .ref (ab 0)), (0, .ref b)] := hl
  refine lv_aload_n hx hb d_law_267 rfl (lv_at hl 3 rfl) ?_
  refine lv_aload_n hx hb d_law_268 rfl (lv_at hl 4 rfl) ?_
  refine lv_iload hx hb d_law_269 (lv_at hl 0 rfl) ?_
  refine lv_iconst (v := (1 : Int32)) hx hb d_law_271 (by decide) ?_
  refine lv_iadd hx hb d_law_272 ?_
  refine va_sld hx hb hX hbl hbA hS in1 d_law_273 ?_
  refine lw_goB (u1 := (m_B_learn (xs (nI i + 1).toNatClampNeg) u).2) (hk_kVg (k := 1) (As := [.int (xs (nI i + 1).toNatClampNeg)]) (rest := []) C (c_B_learn l G ab u (xs (nI i + 1).toNatClampNeg) hIv _) Y_B_learn (hk_in (by decide +kernel) rfl) rfl rfl ⟨(Nat.le_of_ble_eq_true rfl), (Nat.le_of_ble_eq_true rfl)⟩ (va_recv hE.1 hP (ci := 4) (q0 := 0) rfl rfl) (hk_pre C (hP.sub (ws' := wB G ab u) [0, 1, 2, 3, 4, 5, 6, 7, 8, 9, 10, 11, 12, 13, 14, 15, 16, 17, 18, 19, 20, 21] rfl) (hD.sub (ws' := wB G ab u) [0, 1, 2, 3, 4, 5, 6, 7, 8, 9, 10, 11, 12, 13, 14, 15, 16, 17, 18, 19, 20, 21] (by decide) rfl)) rfl hl.1 rfl (Nat.le_of_ble_eq_true rfl) d_law_274 ⟨by show cells + 0 ≤ 674747; omega, by show slots + 0 ≤ 7071862; omega⟩) hP hD hS hA (fun H locs hP hD hS => ?_)
  refine lv_aload_n hx hb d_law_277 rfl (lv_at hl 2 rfl) ?_
  refine lv_aload_n hx hb d_law_278 rfl (lv_at hl 4 rfl) ?_
  refine lv_iload hx hb d_law_279 (lv_at hl 0 rfl) ?_
  refine lv_iconst (v := (1 : Int32)) hx hb d_law_281 (by decide) ?_
  refine lv_iadd hx hb d_law_282 ?_
  refine va_sld hx hb hX hbl hbA hS in1 d_law_283 ?_
  refine lw_goM (v1 := (m_M_learn (xs (nI i + 1).toNatClampNeg) v).2) (hk_kVg (k := 1) (As := [.int (xs (nI i + 1).toNatClampNeg)]) (rest := [.int (m_B_learn (xs (nI i + 1).toNatClampNeg) u).1]) C (c_M_learn l G am v (xs (nI i + 1).toNatClampNeg) _) Y_M_learn (hk_in (by decide +kernel) rfl) rfl rfl ⟨(Nat.le_of_ble_eq_true rfl), (Nat.le_of_ble_eq_true rfl)⟩ (va_recv hE.1 hP (ci := 5) (q0 := 22) rfl rfl) (hk_pre C (hP.sub (ws' := wM G am v) [22, 23, 24, 25, 26, 27, 28, 29, 30, 31, 32, 33, 34, 35] rfl) (hD.sub (ws' := wM G am v) [22, 23, 24, 25, 26, 27, 28, 29, 30, 31, 32, 33, 34, 35] (by decide) rfl)) rfl hl.1 rfl (Nat.le_of_ble_eq_true rfl) d_law_284 ⟨by show cells + 0 ≤ 674747; omega, by show slots + 0 ≤ 7071862; omega⟩) hP hD hS hA (fun H locs hP hD hS => ?_)
  have rr := r_learn hR (xs (nI i + 1).toNatClampNeg)
  refine lv_icmp_eq (tgt := 638) hx hb d_law_287 (by decide) (fun _ => ?_) (fun c9 => absurd rr.1 c9)
  refine W.widen (k := cells + 1) (n := slots + 6) (by omega) (by omega) ?_
  exact kk _ _ lo _ _ _ rr.2 hP hD hS hl
set_option maxHeartbeats 8000000 in
set_option maxRecDepth 100000 in
theorem lw_case_shed {p : Program} {l : Launch} {e : Env} {s : State} {m : MethodId} {below : List Frame} {meth : Method} {c : Code} {b L : Nat} {xs : Nat → Int32} {G : hk_G} {tz1 tz2 : Nat} (K : lw_C p l s m meth c b L xs G tz1 tz2) (hL : L ≤ 2048) {i cells slots : Nat} (hi : i + 4 ≤ L) (hcc : cells ≤ 3000) (hss : slots ≤ 20000) {ab am : Nat → Nat} {q : Nat} {u : cB} {v : cM} {lo : Nat → Int64} {H : Heap} {locs : List Loc} {ls : Array Slot} (hR : RV u v) (hP : va_P (hk_D G) classes (wW G ab am q u v lo) H) (hD : va_D (lw_A s) (wW G ab am q u v lo)) (hS : va_S (lw_A s) s.heap H locs) (hl : lv_has ls 7 (lw_lv b q (am 0) (ab 0) i)) (kk : lw_K p l e s m below meth c b G ab am q i cells slots) : W p l e room_1 s m #[Value.ref b] below meth c H locs cells slots (lw_Z below #[Value.ref b] s) (F0 m 292 ls []) := by
  obtain ⟨hx, hb, hr, hml, hown, hts, hX, hbl, hlocks, hgv⟩ := id K.1
  have C := K.2.1
  have hE := C.2.2.2.2.2.2.2
  have hA : ∀ x : Nat, s.heap.size ≤ x → lw_A s x := fun _ h => h
  have hbA : ¬ lw_A s b := Nat.not_le.mpr hbl
  have hIv := hR.iv
  have hIM := hR.im
  have in1 : vp_in (nI i + 1) L := by rw [nI_1]; exact vp_in_nI (by omega) (by omega)
  have in2 : vp_in (nI i + 2) L := by rw [show (2 : Int32) = nI 2 from rfl, nI_add]; exact vp_in_nI (by omega) (by omega)
  have in3 : vp_in (nI i + 3) L := by rw [show (3 : Int32) = nI 3 from rfl, nI_add]; exact vp_in_nI (by omega) (by omega)
  have hl : lv_has ls 7 [(4, .int (nI i)), (3, .ref q), (2, .ref (am 0)), (1, .ref (ab 0)), (0, .ref b)] := hl
  refine lv_aload_n hx hb d_law_292 rfl (lv_at hl 3 rfl) ?_
  refine lv_aload_n hx hb d_law_293 rfl (lv_at hl 4 rfl) ?_
  refine lv_iload hx hb d_law_294 (lv_at hl 0 rfl) ?_
  refine lv_iconst (v := (1 : Int32)) hx hb d_law_296 (by decide) ?_
  refine lv_iadd hx hb d_law_297 ?_
  refine va_sld hx hb hX hbl hbA hS in1 d_law_298 ?_
  refine lw_goB (u1 := (m_B_shed (xs (nI i + 1).toNatClampNeg) u).2) (hk_kVg (k := 1) (As := [.int (xs (nI i + 1).toNatClampNeg)]) (rest := []) C (c_B_shed l G ab u (xs (nI i + 1).toNatClampNeg) hIv _) Y_B_shed (hk_in (by decide +kernel) rfl) rfl rfl ⟨(Nat.le_of_ble_eq_true rfl), (Nat.le_of_ble_eq_true rfl)⟩ (va_recv hE.1 hP (ci := 4) (q0 := 0) rfl rfl) (hk_pre C (hP.sub (ws' := wB G ab u) [0, 1, 2, 3, 4, 5, 6, 7, 8, 9, 10, 11, 12, 13, 14, 15, 16, 17, 18, 19, 20, 21] rfl) (hD.sub (ws' := wB G ab u) [0, 1, 2, 3, 4, 5, 6, 7, 8, 9, 10, 11, 12, 13, 14, 15, 16, 17, 18, 19, 20, 21] (by decide) rfl)) rfl hl.1 rfl (Nat.le_of_ble_eq_true rfl) d_law_299 ⟨by show cells + 0 ≤ 674747; omega, by show slots + 0 ≤ 7071862; omega⟩) hP hD hS hA (fun H locs hP hD hS => ?_)
  refine lv_aload_n hx hb d_law_302 rfl (lv_at hl 2 rfl) ?_
  refine lv_aload_n hx hb d_law_303 rfl (lv_at hl 4 rfl) ?_
  refine lv_iload hx hb d_law_304 (lv_at hl 0 rfl) ?_
  refine lv_iconst (v := (1 : Int32)) hx hb d_law_306 (by decide) ?_
  refine lv_iadd hx hb d_law_307 ?_
  refine va_sld hx hb hX hbl hbA hS in1 d_law_308 ?_
  refine lw_goM (v1 := (m_M_shed (xs (nI i + 1).toNatClampNeg) v).2) (hk_kVg (k := 1) (As := [.int (xs (nI i + 1).toNatClampNeg)]) (rest := [.int (m_B_shed (xs (nI i + 1).toNatClampNeg) u).1]) C (c_M_shed l G am v (xs (nI i + 1).toNatClampNeg) hIM _) Y_M_shed (hk_in (by decide +kernel) rfl) rfl rfl ⟨(Nat.le_of_ble_eq_true rfl), (Nat.le_of_ble_eq_true rfl)⟩ (va_recv hE.1 hP (ci := 5) (q0 := 22) rfl rfl) (hk_pre C (hP.sub (ws' := wM G am v) [22, 23, 24, 25, 26, 27, 28, 29, 30, 31, 32, 33, 34, 35] rfl) (hD.sub (ws' := wM G am v) [22, 23, 24, 25, 26, 27, 28, 29, 30, 31, 32, 33, 34, 35] (by decide) rfl)) rfl hl.1 rfl (Nat.le_of_ble_eq_true rfl) d_law_309 ⟨by show cells + 0 ≤ 674747; omega, by show slots + 0 ≤ 7071862; omega⟩) hP hD hS hA (fun H locs hP hD hS => ?_)
  have rr := r_shed hR (xs (nI i + 1).toNatClampNeg)
  refine lv_icmp_eq (tgt := 638) hx hb d_law_312 (by decide) (fun _ => ?_) (fun c9 => absurd rr.1 c9)
  refine W.widen (k := cells + 1) (n := slots + 6) (by omega) (by omega) ?_
  exact kk _ _ lo _ _ _ rr.2 hP hD hS hl
set_option maxHeartbeats 8000000 in
set_option maxRecDepth 100000 in
theorem lw_case_load {p : Program} {l : Launch} {e : Env} {s : State} {m : MethodId} {below : List Frame} {meth : Method} {c : Code} {b L : Nat} {xs : Nat → Int32} {G : hk_G} {tz1 tz2 : Nat} (K : lw_C p l s m meth c b L xs G tz1 tz2) (hL : L ≤ 2048) {i cells slots : Nat} (hi : i + 4 ≤ L) (hcc : cells ≤ 3000) (hss : slots ≤ 20000) {ab am : Nat → Nat} {q : Nat} {u : cB} {v : cM} {lo : Nat → Int64} {H : Heap} {locs : List Loc} {ls : Array Slot} (hR : RV u v) (hP : va_P (hk_D G) classes (wW G ab am q u v lo) H) (hD : va_D (lw_A s) (wW G ab am q u v lo)) (hS : va_S (lw_A s) s.heap H locs) (hl : lv_has ls 7 (lw_lv b q (am 0) (ab 0) i)) (kk : lw_K p l e s m below meth c b G ab am q i cells slots) : W p l e room_1 s m #[Value.ref b] below meth c H locs cells slots (lw_Z below #[Value.ref b] s) (F0 m 317 ls []) := by
  obtain ⟨hx, hb, hr, hml, hown, hts, hX, hbl, hlocks, hgv⟩ := id K.1
  have C := K.2.1
  have hE := C.2.2.2.2.2.2.2
  have hA : ∀ x : Nat, s.heap.size ≤ x → lw_A s x := fun _ h => h
  have hbA : ¬ lw_A s b := Nat.not_le.mpr hbl
  have hIv := hR.iv
  have hIM := hR.im
  have in1 : vp_in (nI i + 1) L := by rw [nI_1]; exact vp_in_nI (by omega) (by omega)
  have in2 : vp_in (nI i + 2) L := by rw [show (2 : Int32) = nI 2 from rfl, nI_add]; exact vp_in_nI (by omega) (by omega)
  have in3 : vp_in (nI i + 3) L := by rw [show (3 : Int32) = nI 3 from rfl, nI_add]; exact vp_in_nI (by omega) (by omega)
  have hl : lv_has ls 7 [(4, .int (nI i)), (3, .ref q), (2, .ref (am 0)), (1, .ref (ab 0)), (0, .ref b)] := hl
  by_cases hz2 : xs (nI i + 2).toNatClampNeg = 0
  · skip
    refine lv_aload_n hx hb d_law_317 rfl (lv_at hl 3 rfl) ?_
    refine lv_aload_n hx hb d_law_318 rfl (lv_at hl 4 rfl) ?_
    refine lv_iload hx hb d_law_319 (lv_at hl 0 rfl) ?_
    refine lv_iconst (v := (1 : Int32)) hx hb d_law_321 (by decide) ?_
    refine lv_iadd hx hb d_law_322 ?_
    refine va_sld hx hb hX hbl hbA hS in1 d_law_323 ?_
    refine lv_aload_n hx hb d_law_324 rfl (lv_at hl 4 rfl) ?_
    refine lv_iload hx hb d_law_325 (lv_at hl 0 rfl) ?_
    refine lv_iconst (v := (2 : Int32)) hx hb d_law_327 (by decide) ?_
    refine lv_iadd hx hb d_law_328 ?_
    refine va_sld hx hb hX hbl hbA hS in2 d_law_329 ?_
    refine lv_if_eq (tgt := 337) hx hb d_law_330 (by decide) (fun _ => ?_) (fun c9 => absurd hz2 c9)
    refine lv_iconst (v := (0 : Int32)) hx hb d_law_337 (by decide) ?_
    refine lw_goB (u1 := (m_B_load (xs (nI i + 1).toNatClampNeg) (0 : Int32) u).2) (hk_kVg (k := 2) (As := [.int (xs (nI i + 1).toNatClampNeg), .int (0 : Int32)]) (rest := []) C (c_B_load l G ab u (xs (nI i + 1).toNatClampNeg) (0 : Int32) hIv (Or.inl rfl) _) Y_B_load (hk_in (by decide +kernel) rfl) rfl rfl ⟨(Nat.le_of_ble_eq_true rfl), (Nat.le_of_ble_eq_true rfl)⟩ (va_recv hE.1 hP (ci := 4) (q0 := 0) rfl rfl) (hk_pre C (hP.sub (ws' := wB G ab u) [0, 1, 2, 3, 4, 5, 6, 7, 8, 9, 10, 11, 12, 13, 14, 15, 16, 17, 18, 19, 20, 21] rfl) (hD.sub (ws' := wB G ab u) [0, 1, 2, 3, 4, 5, 6, 7, 8, 9, 10, 11, 12, 13, 14, 15, 16, 17, 18, 19, 20, 21] (by decide) rfl)) rfl hl.1 rfl (Nat.le_of_ble_eq_true rfl) d_law_338 ⟨by show cells + 0 ≤ 674747; omega, by show slots + 0 ≤ 7071862; omega⟩) hP hD hS hA (fun H locs hP hD hS => ?_)
    refine lv_aload_n hx hb d_law_341 rfl (lv_at hl 2 rfl) ?_
    refine lv_aload_n hx hb d_law_342 rfl (lv_at hl 4 rfl) ?_
    refine lv_iload hx hb d_law_343 (lv_at hl 0 rfl) ?_
    refine lv_iconst (v := (1 : Int32)) hx hb d_law_345 (by decide) ?_
    refine lv_iadd hx hb d_law_346 ?_
    refine va_sld hx hb hX hbl hbA hS in1 d_law_347 ?_
    refine lv_aload_n hx hb d_law_348 rfl (lv_at hl 4 rfl) ?_
    refine lv_iload hx hb d_law_349 (lv_at hl 0 rfl) ?_
    refine lv_iconst (v := (2 : Int32)) hx hb d_law_351 (by decide) ?_
    refine lv_iadd hx hb d_law_352 ?_
    refine va_sld hx hb hX hbl hbA hS in2 d_law_353 ?_
    refine lv_if_eq (tgt := 361) hx hb d_law_354 (by decide) (fun _ => ?_) (fun c9 => absurd hz2 c9)
    refine lv_iconst (v := (0 : Int32)) hx hb d_law_361 (by decide) ?_
    refine lw_goM (v1 := (m_M_load (xs (nI i + 1).toNatClampNeg) (0 : Int32) v).2) (hk_kVg (k := 2) (As := [.int (xs (nI i + 1).toNatClampNeg), .int (0 : Int32)]) (rest := [.int (m_B_load (xs (nI i + 1).toNatClampNeg) (0 : Int32) u).1]) C (c_M_load l G am v (xs (nI i + 1).toNatClampNeg) (0 : Int32) hIM (Or.inl rfl) _) Y_M_load (hk_in (by decide +kernel) rfl) rfl rfl ⟨(Nat.le_of_ble_eq_true rfl), (Nat.le_of_ble_eq_true rfl)⟩ (va_recv hE.1 hP (ci := 5) (q0 := 22) rfl rfl) (hk_pre C (hP.sub (ws' := wM G am v) [22, 23, 24, 25, 26, 27, 28, 29, 30, 31, 32, 33, 34, 35] rfl) (hD.sub (ws' := wM G am v) [22, 23, 24, 25, 26, 27, 28, 29, 30, 31, 32, 33, 34, 35] (by decide) rfl)) rfl hl.1 rfl (Nat.le_of_ble_eq_true rfl) d_law_362 ⟨by show cells + 0 ≤ 674747; omega, by show slots + 0 ≤ 7071862; omega⟩) hP hD hS hA (fun H locs hP hD hS => ?_)
    have rr := r_load hR (xs (nI i + 1).toNatClampNeg) (0 : Int32)
    refine lv_icmp_eq (tgt := 638) hx hb d_law_365 (by decide) (fun _ => ?_) (fun c9 => absurd rr.1 c9)
    refine W.widen (k := cells + 1) (n := slots + 6) (by omega) (by omega) ?_
    exact kk _ _ lo _ _ _ rr.2 hP hD hS hl
  · skip
    refine lv_aload_n hx hb d_law_317 rfl (lv_at hl 3 rfl) ?_
    refine lv_aload_n hx hb d_law_318 rfl (lv_at hl 4 rfl) ?_
    refine lv_iload hx hb d_law_319 (lv_at hl 0 rfl) ?_
    refine lv_iconst (v := (1 : Int32)) hx hb d_law_321 (by decide) ?_
    refine lv_iadd hx hb d_law_322 ?_
    refine va_sld hx hb hX hbl hbA hS in1 d_law_323 ?_
    refine lv_aload_n hx hb d_law_324 rfl (lv_at hl 4 rfl) ?_
    refine lv_iload hx hb d_law_325 (lv_at hl 0 rfl) ?_
    refine lv_iconst (v := (2 : Int32)) hx hb d_law_327 (by decide) ?_
    refine lv_iadd hx hb d_law_328 ?_
    refine va_sld hx hb hX hbl hbA hS in2 d_law_329 ?_
    refine lv_if_eq (tgt := 337) hx hb d_law_330 (by decide) (fun c9 => absurd c9 hz2) (fun _ => ?_)
    refine lv_iconst (v := (1 : Int32)) hx hb d_law_333 (by decide) ?_
    refine lv_goto (tgt := 338) hx hb d_law_334 (by decide) ?_
    refine lw_goB (u1 := (m_B_load (xs (nI i + 1).toNatClampNeg) (1 : Int32) u).2) (hk_kVg (k := 2) (As := [.int (xs (nI i + 1).toNatClampNeg), .int (1 : Int32)]) (rest := []) C (c_B_load l G ab u (xs (nI i + 1).toNatClampNeg) (1 : Int32) hIv (Or.inr rfl) _) Y_B_load (hk_in (by decide +kernel) rfl) rfl rfl ⟨(Nat.le_of_ble_eq_true rfl), (Nat.le_of_ble_eq_true rfl)⟩ (va_recv hE.1 hP (ci := 4) (q0 := 0) rfl rfl) (hk_pre C (hP.sub (ws' := wB G ab u) [0, 1, 2, 3, 4, 5, 6, 7, 8, 9, 10, 11, 12, 13, 14, 15, 16, 17, 18, 19, 20, 21] rfl) (hD.sub (ws' := wB G ab u) [0, 1, 2, 3, 4, 5, 6, 7, 8, 9, 10, 11, 12, 13, 14, 15, 16, 17, 18, 19, 20, 21] (by decide) rfl)) rfl hl.1 rfl (Nat.le_of_ble_eq_true rfl) d_law_338 ⟨by show cells + 0 ≤ 674747; omega, by show slots + 0 ≤ 7071862; omega⟩) hP hD hS hA (fun H locs hP hD hS => ?_)
    refine lv_aload_n hx hb d_law_341 rfl (lv_at hl 2 rfl) ?_
    refine lv_aload_n hx hb d_law_342 rfl (lv_at hl 4 rfl) ?_
    refine lv_iload hx hb d_law_343 (lv_at hl 0 rfl) ?_
    refine lv_iconst (v := (1 : Int32)) hx hb d_law_345 (by decide) ?_
    refine lv_iadd hx hb d_law_346 ?_
    refine va_sld hx hb hX hbl hbA hS in1 d_law_347 ?_
    refine lv_aload_n hx hb d_law_348 rfl (lv_at hl 4 rfl) ?_
    refine lv_iload hx hb d_law_349 (lv_at hl 0 rfl) ?_
    refine lv_iconst (v := (2 : Int32)) hx hb d_law_351 (by decide) ?_
    refine lv_iadd hx hb d_law_352 ?_
    refine va_sld hx hb hX hbl hbA hS in2 d_law_353 ?_
    refine lv_if_eq (tgt := 361) hx hb d_law_354 (by decide) (fun c9 => absurd c9 hz2) (fun _ => ?_)
    refine lv_iconst (v := (1 : Int32)) hx hb d_law_357 (by decide) ?_
    refine lv_goto (tgt := 362) hx hb d_law_358 (by decide) ?_
    refine lw_goM (v1 := (m_M_load (xs (nI i + 1).toNatClampNeg) (1 : Int32) v).2) (hk_kVg (k := 2) (As := [.int (xs (nI i + 1).toNatClampNeg), .int (1 : Int32)]) (rest := [.int (m_B_load (xs (nI i + 1).toNatClampNeg) (1 : Int32) u).1]) C (c_M_load l G am v (xs (nI i + 1).toNatClampNeg) (1 : Int32) hIM (Or.inr rfl) _) Y_M_load (hk_in (by decide +kernel) rfl) rfl rfl ⟨(Nat.le_of_ble_eq_true rfl), (Nat.le_of_ble_eq_true rfl)⟩ (va_recv hE.1 hP (ci := 5) (q0 := 22) rfl rfl) (hk_pre C (hP.sub (ws' := wM G am v) [22, 23, 24, 25, 26, 27, 28, 29, 30, 31, 32, 33, 34, 35] rfl) (hD.sub (ws' := wM G am v) [22, 23, 24, 25, 26, 27, 28, 29, 30, 31, 32, 33, 34, 35] (by decide) rfl)) rfl hl.1 rfl (Nat.le_of_ble_eq_true rfl) d_law_362 ⟨by show cells + 0 ≤ 674747; omega, by show slots + 0 ≤ 7071862; omega⟩) hP hD hS hA (fun H locs hP hD hS => ?_)
    have rr := r_load hR (xs (nI i + 1).toNatClampNeg) (1 : Int32)
    refine lv_icmp_eq (tgt := 638) hx hb d_law_365 (by decide) (fun _ => ?_) (fun c9 => absurd rr.1 c9)
    refine W.widen (k := cells + 1) (n := slots + 6) (by omega) (by omega) ?_
    exact kk _ _ lo _ _ _ rr.2 hP hD hS hl
set_option maxHeartbeats 8000000 in
set_option maxRecDepth 100000 in
theorem lw_case_isOn {p : Program} {l : Launch} {e : Env} {s : State} {m : MethodId} {below : List Frame} {meth : Method} {c : Code} {b L : Nat} {xs : Nat → Int32} {G : hk_G} {tz1 tz2 : Nat} (K : lw_C p l s m meth c b L xs G tz1 tz2) (hL : L ≤ 2048) {i cells slots : Nat} (hi : i + 4 ≤ L) (hcc : cells ≤ 3000) (hss : slots ≤ 20000) {ab am : Nat → Nat} {q : Nat} {u : cB} {v : cM} {lo : Nat → Int64} {H : Heap} {locs : List Loc} {ls : Array Slot} (hR : RV u v) (hP : va_P (hk_D G) classes (wW G ab am q u v lo) H) (hD : va_D (lw_A s) (wW G ab am q u v lo)) (hS : va_S (lw_A s) s.heap H locs) (hl : lv_has ls 7 (lw_lv b q (am 0) (ab 0) i)) (kk : lw_K p l e s m below meth c b G ab am q i cells slots) : W p l e room_1 s m #[Value.ref b] below meth c H locs cells slots (lw_Z below #[Value.ref b] s) (F0 m 370 ls []) := by
  obtain ⟨hx, hb, hr, hml, hown, hts, hX, hbl, hlocks, hgv⟩ := id K.1
  have C := K.2.1
  have hE := C.2.2.2.2.2.2.2
  have hA : ∀ x : Nat, s.heap.size ≤ x → lw_A s x := fun _ h => h
  have hbA : ¬ lw_A s b := Nat.not_le.mpr hbl
  have hIv := hR.iv
  have hIM := hR.im
  have in1 : vp_in (nI i + 1) L := by rw [nI_1]; exact vp_in_nI (by omega) (by omega)
  have in2 : vp_in (nI i + 2) L := by rw [show (2 : Int32) = nI 2 from rfl, nI_add]; exact vp_in_nI (by omega) (by omega)
  have in3 : vp_in (nI i + 3) L := by rw [show (3 : Int32) = nI 3 from rfl, nI_add]; exact vp_in_nI (by omega) (by omega)
  have hl : lv_has ls 7 [(4, .int (nI i)), (3, .ref q), (2, .ref (am 0)), (1, .ref (ab 0)), (0, .ref b)] := hl
  refine lv_aload_n hx hb d_law_370 rfl (lv_at hl 3 rfl) ?_
  refine lv_aload_n hx hb d_law_371 rfl (lv_at hl 4 rfl) ?_
  refine lv_iload hx hb d_law_372 (lv_at hl 0 rfl) ?_
  refine lv_iconst (v := (1 : Int32)) hx hb d_law_374 (by decide) ?_
  refine lv_iadd hx hb d_law_375 ?_
  refine va_sld hx hb hX hbl hbA hS in1 d_law_376 ?_
  refine lw_goB (u1 := u) (hk_kVg (k := 1) (As := [.int (xs (nI i + 1).toNatClampNeg)]) (rest := []) C (c_B_isOn l G ab u (xs (nI i + 1).toNatClampNeg) hIv _) Y_B_isOn (hk_in (by decide +kernel) rfl) rfl rfl ⟨(Nat.le_of_ble_eq_true rfl), (Nat.le_of_ble_eq_true rfl)⟩ (va_recv hE.1 hP (ci := 4) (q0 := 0) rfl rfl) (hk_pre C (hP.sub (ws' := wB G ab u) [0, 1, 2, 3, 4, 5, 6, 7, 8, 9, 10, 11, 12, 13, 14, 15, 16, 17, 18, 19, 20, 21] rfl) (hD.sub (ws' := wB G ab u) [0, 1, 2, 3, 4, 5, 6, 7, 8, 9, 10, 11, 12, 13, 14, 15, 16, 17, 18, 19, 20, 21] (by decide) rfl)) rfl hl.1 rfl (Nat.le_of_ble_eq_true rfl) d_law_377 ⟨by show cells + 0 ≤ 674747; omega, by show slots + 0 ≤ 7071862; omega⟩) hP hD hS hA (fun H locs hP hD hS => ?_)
  refine lv_aload_n hx hb d_law_380 rfl (lv_at hl 2 rfl) ?_
  refine lv_aload_n hx hb d_law_381 rfl (lv_at hl 4 rfl) ?_
  refine lv_iload hx hb d_law_382 (lv_at hl 0 rfl) ?_
  refine lv_iconst (v := (1 : Int32)) hx hb d_law_384 (by decide) ?_
  refine lv_iadd hx hb d_law_385 ?_
  refine va_sld hx hb hX hbl hbA hS in1 d_law_386 ?_
  refine lw_goM (v1 := (m_M_isOn (xs (nI i + 1).toNatClampNeg) v).2) (hk_kVg (k := 1) (As := [.int (xs (nI i + 1).toNatClampNeg)]) (rest := [.int (m_B_isOn (xs (nI i + 1).toNatClampNeg) u)]) C (c_M_isOn l G am v (xs (nI i + 1).toNatClampNeg) hIM _) Y_M_isOn (hk_in (by decide +kernel) rfl) rfl rfl ⟨(Nat.le_of_ble_eq_true rfl), (Nat.le_of_ble_eq_true rfl)⟩ (va_recv hE.1 hP (ci := 5) (q0 := 22) rfl rfl) (hk_pre C (hP.sub (ws' := wM G am v) [22, 23, 24, 25, 26, 27, 28, 29, 30, 31, 32, 33, 34, 35] rfl) (hD.sub (ws' := wM G am v) [22, 23, 24, 25, 26, 27, 28, 29, 30, 31, 32, 33, 34, 35] (by decide) rfl)) rfl hl.1 rfl (Nat.le_of_ble_eq_true rfl) d_law_387 ⟨by show cells + 0 ≤ 674747; omega, by show slots + 0 ≤ 7071862; omega⟩) hP hD hS hA (fun H locs hP hD hS => ?_)
  have rr := r_isOn hR (xs (nI i + 1).toNatClampNeg)
  refine lv_icmp_eq (tgt := 638) hx hb d_law_390 (by decide) (fun _ => ?_) (fun c9 => absurd rr.1 c9)
  refine W.widen (k := cells + 1) (n := slots + 6) (by omega) (by omega) ?_
  exact kk _ _ lo _ _ _ rr.2 hP hD hS hl
set_option maxHeartbeats 8000000 in
set_option maxRecDepth 100000 in
theorem lw_case_bulb {p : Program} {l : Launch} {e : Env} {s : State} {m : MethodId} {below : List Frame} {meth : Method} {c : Code} {b L : Nat} {xs : Nat → Int32} {G : hk_G} {tz1 tz2 : Nat} (K : lw_C p l s m meth c b L xs G tz1 tz2) (hL : L ≤ 2048) {i cells slots : Nat} (hi : i + 4 ≤ L) (hcc : cells ≤ 3000) (hss : slots ≤ 20000) {ab am : Nat → Nat} {q : Nat} {u : cB} {v : cM} {lo : Nat → Int64} {H : Heap} {locs : List Loc} {ls : Array Slot} (hR : RV u v) (hP : va_P (hk_D G) classes (wW G ab am q u v lo) H) (hD : va_D (lw_A s) (wW G ab am q u v lo)) (hS : va_S (lw_A s) s.heap H locs) (hl : lv_has ls 7 (lw_lv b q (am 0) (ab 0) i)) (kk : lw_K p l e s m below meth c b G ab am q i cells slots) : W p l e room_1 s m #[Value.ref b] below meth c H locs cells slots (lw_Z below #[Value.ref b] s) (F0 m 395 ls []) := by
  obtain ⟨hx, hb, hr, hml, hown, hts, hX, hbl, hlocks, hgv⟩ := id K.1
  have C := K.2.1
  have hE := C.2.2.2.2.2.2.2
  have hA : ∀ x : Nat, s.heap.size ≤ x → lw_A s x := fun _ h => h
  have hbA : ¬ lw_A s b := Nat.not_le.mpr hbl
  have hIv := hR.iv
  have hIM := hR.im
  have in1 : vp_in (nI i + 1) L := by rw [nI_1]; exact vp_in_nI (by omega) (by omega)
  have in2 : vp_in (nI i + 2) L := by rw [show (2 : Int32) = nI 2 from rfl, nI_add]; exact vp_in_nI (by omega) (by omega)
  have in3 : vp_in (nI i + 3) L := by rw [show (3 : Int32) = nI 3 from rfl, nI_add]; exact vp_in_nI (by omega) (by omega)
  have hl : lv_has ls 7 [(4, .int (nI i)), (3, .ref q), (2, .ref (am 0)), (1, .ref (ab 0)), (0, .ref b)] := hl
  by_cases hz2 : xs (nI i + 2).toNatClampNeg = 0
  · skip
    refine lv_aload_n hx hb d_law_395 rfl (lv_at hl 3 rfl) ?_
    refine lv_aload_n hx hb d_law_396 rfl (lv_at hl 4 rfl) ?_
    refine lv_iload hx hb d_law_397 (lv_at hl 0 rfl) ?_
    refine lv_iconst (v := (1 : Int32)) hx hb d_law_399 (by decide) ?_
    refine lv_iadd hx hb d_law_400 ?_
    refine va_sld hx hb hX hbl hbA hS in1 d_law_401 ?_
    refine lv_aload_n hx hb d_law_402 rfl (lv_at hl 4 rfl) ?_
    refine lv_iload hx hb d_law_403 (lv_at hl 0 rfl) ?_
    refine lv_iconst (v := (2 : Int32)) hx hb d_law_405 (by decide) ?_
    refine lv_iadd hx hb d_law_406 ?_
    refine va_sld hx hb hX hbl hbA hS in2 d_law_407 ?_
    refine lv_if_eq (tgt := 415) hx hb d_law_408 (by decide) (fun _ => ?_) (fun c9 => absurd hz2 c9)
    refine lv_iconst (v := (0 : Int32)) hx hb d_law_415 (by decide) ?_
    refine lw_goB (u1 := (m_B_bulb (xs (nI i + 1).toNatClampNeg) (0 : Int32) u).2) (hk_kVg (k := 2) (As := [.int (xs (nI i + 1).toNatClampNeg), .int (0 : Int32)]) (rest := []) C (c_B_bulb l G tz2 ab u (xs (nI i + 1).toNatClampNeg) (0 : Int32) hIv _) Y_B_bulb (hk_in (by decide +kernel) rfl) rfl rfl ⟨(Nat.le_of_ble_eq_true rfl), (Nat.le_of_ble_eq_true rfl)⟩ (va_recv hE.1 hP (ci := 4) (q0 := 0) rfl rfl) (lw_pz2 K hP hD hS) rfl hl.1 rfl (Nat.le_of_ble_eq_true rfl) d_law_416 ⟨by show cells + 0 ≤ 674747; omega, by show slots + 0 ≤ 7071862; omega⟩) hP hD hS hA (fun H locs hP hD hS => ?_)
    refine lv_aload_n hx hb d_law_419 rfl (lv_at hl 2 rfl) ?_
    refine lv_aload_n hx hb d_law_420 rfl (lv_at hl 4 rfl) ?_
    refine lv_iload hx hb d_law_421 (lv_at hl 0 rfl) ?_
    refine lv_iconst (v := (1 : Int32)) hx hb d_law_423 (by decide) ?_
    refine lv_iadd hx hb d_law_424 ?_
    refine va_sld hx hb hX hbl hbA hS in1 d_law_425 ?_
    refine lv_aload_n hx hb d_law_426 rfl (lv_at hl 4 rfl) ?_
    refine lv_iload hx hb d_law_427 (lv_at hl 0 rfl) ?_
    refine lv_iconst (v := (2 : Int32)) hx hb d_law_429 (by decide) ?_
    refine lv_iadd hx hb d_law_430 ?_
    refine va_sld hx hb hX hbl hbA hS in2 d_law_431 ?_
    refine lv_if_eq (tgt := 439) hx hb d_law_432 (by decide) (fun _ => ?_) (fun c9 => absurd hz2 c9)
    refine lv_iconst (v := (0 : Int32)) hx hb d_law_439 (by decide) ?_
    refine lw_goM (v1 := (m_M_bulb (xs (nI i + 1).toNatClampNeg) (0 : Int32) v).2) (hk_kVg (k := 2) (As := [.int (xs (nI i + 1).toNatClampNeg), .int (0 : Int32)]) (rest := [.int (m_B_bulb (xs (nI i + 1).toNatClampNeg) (0 : Int32) u).1]) C (c_M_bulb l G am v (xs (nI i + 1).toNatClampNeg) (0 : Int32) _) Y_M_bulb (hk_in (by decide +kernel) rfl) rfl rfl ⟨(Nat.le_of_ble_eq_true rfl), (Nat.le_of_ble_eq_true rfl)⟩ (va_recv hE.1 hP (ci := 5) (q0 := 22) rfl rfl) (hk_pre C (hP.sub (ws' := wM G am v) [22, 23, 24, 25, 26, 27, 28, 29, 30, 31, 32, 33, 34, 35] rfl) (hD.sub (ws' := wM G am v) [22, 23, 24, 25, 26, 27, 28, 29, 30, 31, 32, 33, 34, 35] (by decide) rfl)) rfl hl.1 rfl (Nat.le_of_ble_eq_true rfl) d_law_440 ⟨by show cells + 0 ≤ 674747; omega, by show slots + 0 ≤ 7071862; omega⟩) hP hD hS hA (fun H locs hP hD hS => ?_)
    have rr := r_bulb hR (xs (nI i + 1).toNatClampNeg) (0 : Int32)
    refine lv_icmp_eq (tgt := 638) hx hb d_law_443 (by decide) (fun _ => ?_) (fun c9 => absurd rr.1 c9)
    refine W.widen (k := cells + 1) (n := slots + 6) (by omega) (by omega) ?_
    exact kk _ _ lo _ _ _ rr.2 hP hD hS hl
  · skip
    refine lv_aload_n hx hb d_law_395 rfl (lv_at hl 3 rfl) ?_
    refine lv_aload_n hx hb d_law_396 rfl (lv_at hl 4 rfl) ?_
    refine lv_iload hx hb d_law_397 (lv_at hl 0 rfl) ?_
    refine lv_iconst (v := (1 : Int32)) hx hb d_law_399 (by decide) ?_
    refine lv_iadd hx hb d_law_400 ?_
    refine va_sld hx hb hX hbl hbA hS in1 d_law_401 ?_
    refine lv_aload_n hx hb d_law_402 rfl (lv_at hl 4 rfl) ?_
    refine lv_iload hx hb d_law_403 (lv_at hl 0 rfl) ?_
    refine lv_iconst (v := (2 : Int32)) hx hb d_law_405 (by decide) ?_
    refine lv_iadd hx hb d_law_406 ?_
    refine va_sld hx hb hX hbl hbA hS in2 d_law_407 ?_
    refine lv_if_eq (tgt := 415) hx hb d_law_408 (by decide) (fun c9 => absurd c9 hz2) (fun _ => ?_)
    refine lv_iconst (v := (1 : Int32)) hx hb d_law_411 (by decide) ?_
    refine lv_goto (tgt := 416) hx hb d_law_412 (by decide) ?_
    refine lw_goB (u1 := (m_B_bulb (xs (nI i + 1).toNatClampNeg) (1 : Int32) u).2) (hk_kVg (k := 2) (As := [.int (xs (nI i + 1).toNatClampNeg), .int (1 : Int32)]) (rest := []) C (c_B_bulb l G tz2 ab u (xs (nI i + 1).toNatClampNeg) (1 : Int32) hIv _) Y_B_bulb (hk_in (by decide +kernel) rfl) rfl rfl ⟨(Nat.le_of_ble_eq_true rfl), (Nat.le_of_ble_eq_true rfl)⟩ (va_recv hE.1 hP (ci := 4) (q0 := 0) rfl rfl) (lw_pz2 K hP hD hS) rfl hl.1 rfl (Nat.le_of_ble_eq_true rfl) d_law_416 ⟨by show cells + 0 ≤ 674747; omega, by show slots + 0 ≤ 7071862; omega⟩) hP hD hS hA (fun H locs hP hD hS => ?_)
    refine lv_aload_n hx hb d_law_419 rfl (lv_at hl 2 rfl) ?_
    refine lv_aload_n hx hb d_law_420 rfl (lv_at hl 4 rfl) ?_
    refine lv_iload hx hb d_law_421 (lv_at hl 0 rfl) ?_
    refine lv_iconst (v := (1 : Int32)) hx hb d_law_423 (by decide) ?_
    refine lv_iadd hx hb d_law_424 ?_
    refine va_sld hx hb hX hbl hbA hS in1 d_law_425 ?_
    refine lv_aload_n hx hb d_law_426 rfl (lv_at hl 4 rfl) ?_
    refine lv_iload hx hb d_law_427 (lv_at hl 0 rfl) ?_
    refine lv_iconst (v := (2 : Int32)) hx hb d_law_429 (by decide) ?_
    refine lv_iadd hx hb d_law_430 ?_
    refine va_sld hx hb hX hbl hbA hS in2 d_law_431 ?_
    refine lv_if_eq (tgt := 439) hx hb d_law_432 (by decide) (fun c9 => absurd c9 hz2) (fun _ => ?_)
    refine lv_iconst (v := (1 : Int32)) hx hb d_law_435 (by decide) ?_
    refine lv_goto (tgt := 440) hx hb d_law_436 (by decide) ?_
    refine lw_goM (v1 := (m_M_bulb (xs (nI i + 1).toNatClampNeg) (1 : Int32) v).2) (hk_kVg (k := 2) (As := [.int (xs (nI i + 1).toNatClampNeg), .int (1 : Int32)]) (rest := [.int (m_B_bulb (xs (nI i + 1).toNatClampNeg) (1 : Int32) u).1]) C (c_M_bulb l G am v (xs (nI i + 1).toNatClampNeg) (1 : Int32) _) Y_M_bulb (hk_in (by decide +kernel) rfl) rfl rfl ⟨(Nat.le_of_ble_eq_true rfl), (Nat.le_of_ble_eq_true rfl)⟩ (va_recv hE.1 hP (ci := 5) (q0 := 22) rfl rfl) (hk_pre C (hP.sub (ws' := wM G am v) [22, 23, 24, 25, 26, 27, 28, 29, 30, 31, 32, 33, 34, 35] rfl) (hD.sub (ws' := wM G am v) [22, 23, 24, 25, 26, 27, 28, 29, 30, 31, 32, 33, 34, 35] (by decide) rfl)) rfl hl.1 rfl (Nat.le_of_ble_eq_true rfl) d_law_440 ⟨by show cells + 0 ≤ 674747; omega, by show slots + 0 ≤ 7071862; omega⟩) hP hD hS hA (fun H locs hP hD hS => ?_)
    have rr := r_bulb hR (xs (nI i + 1).toNatClampNeg) (1 : Int32)
    refine lv_icmp_eq (tgt := 638) hx hb d_law_443 (by decide) (fun _ => ?_) (fun c9 => absurd rr.1 c9)
    refine W.widen (k := cells + 1) (n := slots + 6) (by omega) (by omega) ?_
    exact kk _ _ lo _ _ _ rr.2 hP hD hS hl
set_option maxHeartbeats 8000000 in
set_option maxRecDepth 100000 in
theorem lw_case_rain {p : Program} {l : Launch} {e : Env} {s : State} {m : MethodId} {below : List Frame} {meth : Method} {c : Code} {b L : Nat} {xs : Nat → Int32} {G : hk_G} {tz1 tz2 : Nat} (K : lw_C p l s m meth c b L xs G tz1 tz2) (hL : L ≤ 2048) {i cells slots : Nat} (hi : i + 4 ≤ L) (hcc : cells ≤ 3000) (hss : slots ≤ 20000) {ab am : Nat → Nat} {q : Nat} {u : cB} {v : cM} {lo : Nat → Int64} {H : Heap} {locs : List Loc} {ls : Array Slot} (hR : RV u v) (hP : va_P (hk_D G) classes (wW G ab am q u v lo) H) (hD : va_D (lw_A s) (wW G ab am q u v lo)) (hS : va_S (lw_A s) s.heap H locs) (hl : lv_has ls 7 (lw_lv b q (am 0) (ab 0) i)) (kk : lw_K p l e s m below meth c b G ab am q i cells slots) : W p l e room_1 s m #[Value.ref b] below meth c H locs cells slots (lw_Z below #[Value.ref b] s) (F0 m 448 ls []) := by
  obtain ⟨hx, hb, hr, hml, hown, hts, hX, hbl, hlocks, hgv⟩ := id K.1
  have C := K.2.1
  have hE := C.2.2.2.2.2.2.2
  have hA : ∀ x : Nat, s.heap.size ≤ x → lw_A s x := fun _ h => h
  have hbA : ¬ lw_A s b := Nat.not_le.mpr hbl
  have hIv := hR.iv
  have hIM := hR.im
  have in1 : vp_in (nI i + 1) L := by rw [nI_1]; exact vp_in_nI (by omega) (by omega)
  have in2 : vp_in (nI i + 2) L := by rw [show (2 : Int32) = nI 2 from rfl, nI_add]; exact vp_in_nI (by omega) (by omega)
  have in3 : vp_in (nI i + 3) L := by rw [show (3 : Int32) = nI 3 from rfl, nI_add]; exact vp_in_nI (by omega) (by omega)
  have hl : lv_has ls 7 [(4, .int (nI i)), (3, .ref q), (2, .ref (am 0)), (1, .ref (ab 0)), (0, .ref b)] := hl
  refine lv_aload_n hx hb d_law_448 rfl (lv_at hl 3 rfl) ?_
  refine lv_aload_n hx hb d_law_449 rfl (lv_at hl 4 rfl) ?_
  refine lv_iload hx hb d_law_450 (lv_at hl 0 rfl) ?_
  refine lv_iconst (v := (1 : Int32)) hx hb d_law_452 (by decide) ?_
  refine lv_iadd hx hb d_law_453 ?_
  refine va_sld hx hb hX hbl hbA hS in1 d_law_454 ?_
  refine lw_goB (u1 := (m_B_rain (xs (nI i + 1).toNatClampNeg) u).2) (hk_kVg (k := 1) (As := [.int (xs (nI i + 1).toNatClampNeg)]) (rest := []) C (c_B_rain l G ab u (xs (nI i + 1).toNatClampNeg) hIv _) Y_B_rain (hk_in (by decide +kernel) rfl) rfl rfl ⟨(Nat.le_of_ble_eq_true rfl), (Nat.le_of_ble_eq_true rfl)⟩ (va_recv hE.1 hP (ci := 4) (q0 := 0) rfl rfl) (hk_pre C (hP.sub (ws' := wB G ab u) [0, 1, 2, 3, 4, 5, 6, 7, 8, 9, 10, 11, 12, 13, 14, 15, 16, 17, 18, 19, 20, 21] rfl) (hD.sub (ws' := wB G ab u) [0, 1, 2, 3, 4, 5, 6, 7, 8, 9, 10, 11, 12, 13, 14, 15, 16, 17, 18, 19, 20, 21] (by decide) rfl)) rfl hl.1 rfl (Nat.le_of_ble_eq_true rfl) d_law_455 ⟨by show cells + 0 ≤ 674747; omega, by show slots + 0 ≤ 7071862; omega⟩) hP hD hS hA (fun H locs hP hD hS => ?_)
  refine lv_aload_n hx hb d_law_458 rfl (lv_at hl 2 rfl) ?_
  refine lv_aload_n hx hb d_law_459 rfl (lv_at hl 4 rfl) ?_
  refine lv_iload hx hb d_law_460 (lv_at hl 0 rfl) ?_
  refine lv_iconst (v := (1 : Int32)) hx hb d_law_462 (by decide) ?_
  refine lv_iadd hx hb d_law_463 ?_
  refine va_sld hx hb hX hbl hbA hS in1 d_law_464 ?_
  refine lw_goM (v1 := (m_M_rain (xs (nI i + 1).toNatClampNeg) v).2) (hk_kVg (k := 1) (As := [.int (xs (nI i + 1).toNatClampNeg)]) (rest := [.int (m_B_rain (xs (nI i + 1).toNatClampNeg) u).1]) C (c_M_rain l G am v (xs (nI i + 1).toNatClampNeg) _) Y_M_rain (hk_in (by decide +kernel) rfl) rfl rfl ⟨(Nat.le_of_ble_eq_true rfl), (Nat.le_of_ble_eq_true rfl)⟩ (va_recv hE.1 hP (ci := 5) (q0 := 22) rfl rfl) (hk_pre C (hP.sub (ws' := wM G am v) [22, 23, 24, 25, 26, 27, 28, 29, 30, 31, 32, 33, 34, 35] rfl) (hD.sub (ws' := wM G am v) [22, 23, 24, 25, 26, 27, 28, 29, 30, 31, 32, 33, 34, 35] (by decide) rfl)) rfl hl.1 rfl (Nat.le_of_ble_eq_true rfl) d_law_465 ⟨by show cells + 0 ≤ 674747; omega, by show slots + 0 ≤ 7071862; omega⟩) hP hD hS hA (fun H locs hP hD hS => ?_)
  have rr := r_rain hR (xs (nI i + 1).toNatClampNeg)
  refine lv_icmp_eq (tgt := 638) hx hb d_law_468 (by decide) (fun _ => ?_) (fun c9 => absurd rr.1 c9)
  refine W.widen (k := cells + 1) (n := slots + 6) (by omega) (by omega) ?_
  exact kk _ _ lo _ _ _ rr.2 hP hD hS hl
set_option maxHeartbeats 8000000 in
set_option maxRecDepth 100000 in
theorem lw_case_window {p : Program} {l : Launch} {e : Env} {s : State} {m : MethodId} {below : List Frame} {meth : Method} {c : Code} {b L : Nat} {xs : Nat → Int32} {G : hk_G} {tz1 tz2 : Nat} (K : lw_C p l s m meth c b L xs G tz1 tz2) (hL : L ≤ 2048) {i cells slots : Nat} (hi : i + 4 ≤ L) (hcc : cells ≤ 3000) (hss : slots ≤ 20000) {ab am : Nat → Nat} {q : Nat} {u : cB} {v : cM} {lo : Nat → Int64} {H : Heap} {locs : List Loc} {ls : Array Slot} (hR : RV u v) (hP : va_P (hk_D G) classes (wW G ab am q u v lo) H) (hD : va_D (lw_A s) (wW G ab am q u v lo)) (hS : va_S (lw_A s) s.heap H locs) (hl : lv_has ls 7 (lw_lv b q (am 0) (ab 0) i)) (kk : lw_K p l e s m below meth c b G ab am q i cells slots) : W p l e room_1 s m #[Value.ref b] below meth c H locs cells slots (lw_Z below #[Value.ref b] s) (F0 m 473 ls []) := by
  obtain ⟨hx, hb, hr, hml, hown, hts, hX, hbl, hlocks, hgv⟩ := id K.1
  have C := K.2.1
  have hE := C.2.2.2.2.2.2.2
  have hA : ∀ x : Nat, s.heap.size ≤ x → lw_A s x := fun _ h => h
  have hbA : ¬ lw_A s b := Nat.not_le.mpr hbl
  have hIv := hR.iv
  have hIM := hR.im
  have in1 : vp_in (nI i + 1) L := by rw [nI_1]; exact vp_in_nI (by omega) (by omega)
  have in2 : vp_in (nI i + 2) L := by rw [show (2 : Int32) = nI 2 from rfl, nI_add]; exact vp_in_nI (by omega) (by omega)
  have in3 : vp_in (nI i + 3) L := by rw [show (3 : Int32) = nI 3 from rfl, nI_add]; exact vp_in_nI (by omega) (by omega)
  have hl : lv_has ls 7 [(4, .int (nI i)), (3, .ref q), (2, .ref (am 0)), (1, .ref (ab 0)), (0, .ref b)] := hl
  refine lv_aload_n hx hb d_law_473 rfl (lv_at hl 3 rfl) ?_
  refine lv_aload_n hx hb d_law_474 rfl (lv_at hl 4 rfl) ?_
  refine lv_iload hx hb d_law_475 (lv_at hl 0 rfl) ?_
  refine lv_iconst (v := (1 : Int32)) hx hb d_law_477 (by decide) ?_
  refine lv_iadd hx hb d_law_478 ?_
  refine va_sld hx hb hX hbl hbA hS in1 d_law_479 ?_
  refine lv_aload_n hx hb d_law_480 rfl (lv_at hl 4 rfl) ?_
  refine lv_iload hx hb d_law_481 (lv_at hl 0 rfl) ?_
  refine lv_iconst (v := (2 : Int32)) hx hb d_law_483 (by decide) ?_
  refine lv_iadd hx hb d_law_484 ?_
  refine va_sld hx hb hX hbl hbA hS in2 d_law_485 ?_
  refine lw_goB (u1 := (m_B_window (xs (nI i + 1).toNatClampNeg) (xs (nI i + 2).toNatClampNeg) u).2) (hk_kVg (k := 2) (As := [.int (xs (nI i + 1).toNatClampNeg), .int (xs (nI i + 2).toNatClampNeg)]) (rest := []) C (c_B_window l G ab u (xs (nI i + 1).toNatClampNeg) (xs (nI i + 2).toNatClampNeg) hIv _) Y_B_window (hk_in (by decide +kernel) rfl) rfl rfl ⟨(Nat.le_of_ble_eq_true rfl), (Nat.le_of_ble_eq_true rfl)⟩ (va_recv hE.1 hP (ci := 4) (q0 := 0) rfl rfl) (hk_pre C (hP.sub (ws' := wB G ab u) [0, 1, 2, 3, 4, 5, 6, 7, 8, 9, 10, 11, 12, 13, 14, 15, 16, 17, 18, 19, 20, 21] rfl) (hD.sub (ws' := wB G ab u) [0, 1, 2, 3, 4, 5, 6, 7, 8, 9, 10, 11, 12, 13, 14, 15, 16, 17, 18, 19, 20, 21] (by decide) rfl)) rfl hl.1 rfl (Nat.le_of_ble_eq_true rfl) d_law_486 ⟨by show cells + 0 ≤ 674747; omega, by show slots + 0 ≤ 7071862; omega⟩) hP hD hS hA (fun H locs hP hD hS => ?_)
  refine lv_aload_n hx hb d_law_489 rfl (lv_at hl 2 rfl) ?_
  refine lv_aload_n hx hb d_law_490 rfl (lv_at hl 4 rfl) ?_
  refine lv_iload hx hb d_law_491 (lv_at hl 0 rfl) ?_
  refine lv_iconst (v := (1 : Int32)) hx hb d_law_493 (by decide) ?_
  refine lv_iadd hx hb d_law_494 ?_
  refine va_sld hx hb hX hbl hbA hS in1 d_law_495 ?_
  refine lv_aload_n hx hb d_law_496 rfl (lv_at hl 4 rfl) ?_
  refine lv_iload hx hb d_law_497 (lv_at hl 0 rfl) ?_
  refine lv_iconst (v := (2 : Int32)) hx hb d_law_499 (by decide) ?_
  refine lv_iadd hx hb d_law_500 ?_
  refine va_sld hx hb hX hbl hbA hS in2 d_law_501 ?_
  refine lw_goM (v1 := (m_M_window (xs (nI i + 1).toNatClampNeg) (xs (nI i + 2).toNatClampNeg) v).2) (hk_kVg (k := 2) (As := [.int (xs (nI i + 1).toNatClampNeg), .int (xs (nI i + 2).toNatClampNeg)]) (rest := [.int (m_B_window (xs (nI i + 1).toNatClampNeg) (xs (nI i + 2).toNatClampNeg) u).1]) C (c_M_window l G am v (xs (nI i + 1).toNatClampNeg) (xs (nI i + 2).toNatClampNeg) _) Y_M_window (hk_in (by decide +kernel) rfl) rfl rfl ⟨(Nat.le_of_ble_eq_true rfl), (Nat.le_of_ble_eq_true rfl)⟩ (va_recv hE.1 hP (ci := 5) (q0 := 22) rfl rfl) (hk_pre C (hP.sub (ws' := wM G am v) [22, 23, 24, 25, 26, 27, 28, 29, 30, 31, 32, 33, 34, 35] rfl) (hD.sub (ws' := wM G am v) [22, 23, 24, 25, 26, 27, 28, 29, 30, 31, 32, 33, 34, 35] (by decide) rfl)) rfl hl.1 rfl (Nat.le_of_ble_eq_true rfl) d_law_502 ⟨by show cells + 0 ≤ 674747; omega, by show slots + 0 ≤ 7071862; omega⟩) hP hD hS hA (fun H locs hP hD hS => ?_)
  have rr := r_window hR (xs (nI i + 1).toNatClampNeg) (xs (nI i + 2).toNatClampNeg)
  refine lv_icmp_eq (tgt := 638) hx hb d_law_505 (by decide) (fun _ => ?_) (fun c9 => absurd rr.1 c9)
  refine W.widen (k := cells + 1) (n := slots + 6) (by omega) (by omega) ?_
  exact kk _ _ lo _ _ _ rr.2 hP hD hS hl
set_option maxHeartbeats 8000000 in
set_option maxRecDepth 100000 in
theorem lw_case_crash {p : Program} {l : Launch} {e : Env} {s : State} {m : MethodId} {below : List Frame} {meth : Method} {c : Code} {b L : Nat} {xs : Nat → Int32} {G : hk_G} {tz1 tz2 : Nat} (K : lw_C p l s m meth c b L xs G tz1 tz2) (hL : L ≤ 2048) {i cells slots : Nat} (hi : i + 4 ≤ L) (hcc : cells ≤ 3000) (hss : slots ≤ 20000) {ab am : Nat → Nat} {q : Nat} {u : cB} {v : cM} {lo : Nat → Int64} {H : Heap} {locs : List Loc} {ls : Array Slot} (hR : RV u v) (hP : va_P (hk_D G) classes (wW G ab am q u v lo) H) (hD : va_D (lw_A s) (wW G ab am q u v lo)) (hS : va_S (lw_A s) s.heap H locs) (hl : lv_has ls 7 (lw_lv b q (am 0) (ab 0) i)) (kk : lw_K p l e s m below meth c b G ab am q i cells slots) : W p l e room_1 s m #[Value.ref b] below meth c H locs cells slots (lw_Z below #[Value.ref b] s) (F0 m 510 ls []) := by
  obtain ⟨hx, hb, hr, hml, hown, hts, hX, hbl, hlocks, hgv⟩ := id K.1
  have C := K.2.1
  have hE := C.2.2.2.2.2.2.2
  have hA : ∀ x : Nat, s.heap.size ≤ x → lw_A s x := fun _ h => h
  have hbA : ¬ lw_A s b := Nat.not_le.mpr hbl
  have hIv := hR.iv
  have hIM := hR.im
  have in1 : vp_in (nI i + 1) L := by rw [nI_1]; exact vp_in_nI (by omega) (by omega)
  have in2 : vp_in (nI i + 2) L := by rw [show (2 : Int32) = nI 2 from rfl, nI_add]; exact vp_in_nI (by omega) (by omega)
  have in3 : vp_in (nI i + 3) L := by rw [show (3 : Int32) = nI 3 from rfl, nI_add]; exact vp_in_nI (by omega) (by omega)
  have hl : lv_has ls 7 [(4, .int (nI i)), (3, .ref q), (2, .ref (am 0)), (1, .ref (ab 0)), (0, .ref b)] := hl
  refine lv_aload_n hx hb d_law_510 rfl (lv_at hl 3 rfl) ?_
  refine lw_goB (u1 := (m_B_crash u).2) (hk_kVg (k := 0) (As := []) (rest := []) C (c_B_crash l G ab u hIv _) Y_B_crash (hk_in (by decide +kernel) rfl) rfl rfl ⟨(Nat.le_of_ble_eq_true rfl), (Nat.le_of_ble_eq_true rfl)⟩ (va_recv hE.1 hP (ci := 4) (q0 := 0) rfl rfl) (hk_pre C (hP.sub (ws' := wB G ab u) [0, 1, 2, 3, 4, 5, 6, 7, 8, 9, 10, 11, 12, 13, 14, 15, 16, 17, 18, 19, 20, 21] rfl) (hD.sub (ws' := wB G ab u) [0, 1, 2, 3, 4, 5, 6, 7, 8, 9, 10, 11, 12, 13, 14, 15, 16, 17, 18, 19, 20, 21] (by decide) rfl)) rfl hl.1 rfl (Nat.le_of_ble_eq_true rfl) d_law_511 ⟨by show cells + 0 ≤ 674747; omega, by show slots + 0 ≤ 7071862; omega⟩) hP hD hS hA (fun H locs hP hD hS => ?_)
  refine lv_aload_n hx hb d_law_514 rfl (lv_at hl 2 rfl) ?_
  refine lw_goM (v1 := (m_M_crash v).2) (hk_kVg (k := 0) (As := []) (rest := [.int (m_B_crash u).1]) C (c_M_crash l G am v _) Y_M_crash (hk_in (by decide +kernel) rfl) rfl rfl ⟨(Nat.le_of_ble_eq_true rfl), (Nat.le_of_ble_eq_true rfl)⟩ (va_recv hE.1 hP (ci := 5) (q0 := 22) rfl rfl) (hk_pre C (hP.sub (ws' := wM G am v) [22, 23, 24, 25, 26, 27, 28, 29, 30, 31, 32, 33, 34, 35] rfl) (hD.sub (ws' := wM G am v) [22, 23, 24, 25, 26, 27, 28, 29, 30, 31, 32, 33, 34, 35] (by decide) rfl)) rfl hl.1 rfl (Nat.le_of_ble_eq_true rfl) d_law_515 ⟨by show cells + 0 ≤ 674747; omega, by show slots + 0 ≤ 7071862; omega⟩) hP hD hS hA (fun H locs hP hD hS => ?_)
  have rr := r_crash hR
  refine lv_icmp_eq (tgt := 638) hx hb d_law_518 (by decide) (fun _ => ?_) (fun c9 => absurd rr.1 c9)
  refine W.widen (k := cells + 1) (n := slots + 6) (by omega) (by omega) ?_
  exact kk _ _ lo _ _ _ rr.2 hP hD hS hl
set_option maxHeartbeats 8000000 in
set_option maxRecDepth 100000 in
theorem lw_case_memory {p : Program} {l : Launch} {e : Env} {s : State} {m : MethodId} {below : List Frame} {meth : Method} {c : Code} {b L : Nat} {xs : Nat → Int32} {G : hk_G} {tz1 tz2 : Nat} (K : lw_C p l s m meth c b L xs G tz1 tz2) (hL : L ≤ 2048) {i cells slots : Nat} (hi : i + 4 ≤ L) (hcc : cells ≤ 3000) (hss : slots ≤ 20000) {ab am : Nat → Nat} {q : Nat} {u : cB} {v : cM} {lo : Nat → Int64} {H : Heap} {locs : List Loc} {ls : Array Slot} (hR : RV u v) (hP : va_P (hk_D G) classes (wW G ab am q u v lo) H) (hD : va_D (lw_A s) (wW G ab am q u v lo)) (hS : va_S (lw_A s) s.heap H locs) (hl : lv_has ls 7 (lw_lv b q (am 0) (ab 0) i)) (kk : lw_K p l e s m below meth c b G ab am q i cells slots) : W p l e room_1 s m #[Value.ref b] below meth c H locs cells slots (lw_Z below #[Value.ref b] s) (F0 m 523 ls []) := by
  obtain ⟨hx, hb, hr, hml, hown, hts, hX, hbl, hlocks, hgv⟩ := id K.1
  have C := K.2.1
  have hE := C.2.2.2.2.2.2.2
  have hA : ∀ x : Nat, s.heap.size ≤ x → lw_A s x := fun _ h => h
  have hbA : ¬ lw_A s b := Nat.not_le.mpr hbl
  have hIv := hR.iv
  have hIM := hR.im
  have in1 : vp_in (nI i + 1) L := by rw [nI_1]; exact vp_in_nI (by omega) (by omega)
  have in2 : vp_in (nI i + 2) L := by rw [show (2 : Int32) = nI 2 from rfl, nI_add]; exact vp_in_nI (by omega) (by omega)
  have in3 : vp_in (nI i + 3) L := by rw [show (3 : Int32) = nI 3 from rfl, nI_add]; exact vp_in_nI (by omega) (by omega)
  have hl : lv_has ls 7 [(4, .int (nI i)), (3, .ref q), (2, .ref (am 0)), (1, .ref (ab 0)), (0, .ref b)] := hl
  refine lv_aload_n hx hb d_law_523 rfl (lv_at hl 3 rfl) ?_
  refine lv_aload_n hx hb d_law_524 rfl (lv_at hl 4 rfl) ?_
  refine lv_iload hx hb d_law_525 (lv_at hl 0 rfl) ?_
  refine lv_iconst (v := (1 : Int32)) hx hb d_law_527 (by decide) ?_
  refine lv_iadd hx hb d_law_528 ?_
  refine va_sld hx hb hX hbl hbA hS in1 d_law_529 ?_
  refine lv_aload_n hx hb d_law_530 rfl (lv_at hl 4 rfl) ?_
  refine lv_iload hx hb d_law_531 (lv_at hl 0 rfl) ?_
  refine lv_iconst (v := (2 : Int32)) hx hb d_law_533 (by decide) ?_
  refine lv_iadd hx hb d_law_534 ?_
  refine va_sld hx hb hX hbl hbA hS in2 d_law_535 ?_
  refine lv_aload_n hx hb d_law_536 rfl (lv_at hl 4 rfl) ?_
  refine lv_iload hx hb d_law_537 (lv_at hl 0 rfl) ?_
  refine lv_iconst (v := (3 : Int32)) hx hb d_law_539 (by decide) ?_
  refine lv_iadd hx hb d_law_540 ?_
  refine va_sld hx hb hX hbl hbA hS in3 d_law_541 ?_
  refine lw_goB (u1 := (m_B_memory (xs (nI i + 1).toNatClampNeg) (xs (nI i + 2).toNatClampNeg) (xs (nI i + 3).toNatClampNeg) u).2) (hk_kVg (k := 3) (As := [.int (xs (nI i + 1).toNatClampNeg), .int (xs (nI i + 2).toNatClampNeg), .int (xs (nI i + 3).toNatClampNeg)]) (rest := []) C (c_B_memory l G ab u (xs (nI i + 1).toNatClampNeg) (xs (nI i + 2).toNatClampNeg) (xs (nI i + 3).toNatClampNeg) hIv _) Y_B_memory (hk_in (by decide +kernel) rfl) rfl rfl ⟨(Nat.le_of_ble_eq_true rfl), (Nat.le_of_ble_eq_true rfl)⟩ (va_recv hE.1 hP (ci := 4) (q0 := 0) rfl rfl) (hk_pre C (hP.sub (ws' := wB G ab u) [0, 1, 2, 3, 4, 5, 6, 7, 8, 9, 10, 11, 12, 13, 14, 15, 16, 17, 18, 19, 20, 21] rfl) (hD.sub (ws' := wB G ab u) [0, 1, 2, 3, 4, 5, 6, 7, 8, 9, 10, 11, 12, 13, 14, 15, 16, 17, 18, 19, 20, 21] (by decide) rfl)) rfl hl.1 rfl (Nat.le_of_ble_eq_true rfl) d_law_542 ⟨by show cells + 0 ≤ 674747; omega, by show slots + 0 ≤ 7071862; omega⟩) hP hD hS hA (fun H locs hP hD hS => ?_)
  refine lv_aload_n hx hb d_law_545 rfl (lv_at hl 2 rfl) ?_
  refine lv_aload_n hx hb d_law_546 rfl (lv_at hl 4 rfl) ?_
  refine lv_iload hx hb d_law_547 (lv_at hl 0 rfl) ?_
  refine lv_iconst (v := (1 : Int32)) hx hb d_law_549 (by decide) ?_
  refine lv_iadd hx hb d_law_550 ?_
  refine va_sld hx hb hX hbl hbA hS in1 d_law_551 ?_
  refine lv_aload_n hx hb d_law_552 rfl (lv_at hl 4 rfl) ?_
  refine lv_iload hx hb d_law_553 (lv_at hl 0 rfl) ?_
  refine lv_iconst (v := (2 : Int32)) hx hb d_law_555 (by decide) ?_
  refine lv_iadd hx hb d_law_556 ?_
  refine va_sld hx hb hX hbl hbA hS in2 d_law_557 ?_
  refine lv_aload_n hx hb d_law_558 rfl (lv_at hl 4 rfl) ?_
  refine lv_iload hx hb d_law_559 (lv_at hl 0 rfl) ?_
  refine lv_iconst (v := (3 : Int32)) hx hb d_law_561 (by decide) ?_
  refine lv_iadd hx hb d_law_562 ?_
  refine va_sld hx hb hX hbl hbA hS in3 d_law_563 ?_
  refine lw_goM (v1 := (m_M_memory (xs (nI i + 1).toNatClampNeg) (xs (nI i + 2).toNatClampNeg) (xs (nI i + 3).toNatClampNeg) v).2) (hk_kVg (k := 3) (As := [.int (xs (nI i + 1).toNatClampNeg), .int (xs (nI i + 2).toNatClampNeg), .int (xs (nI i + 3).toNatClampNeg)]) (rest := [.int (m_B_memory (xs (nI i + 1).toNatClampNeg) (xs (nI i + 2).toNatClampNeg) (xs (nI i + 3).toNatClampNeg) u).1]) C (c_M_memory l G am v (xs (nI i + 1).toNatClampNeg) (xs (nI i + 2).toNatClampNeg) (xs (nI i + 3).toNatClampNeg) _) Y_M_memory (hk_in (by decide +kernel) rfl) rfl rfl ⟨(Nat.le_of_ble_eq_true rfl), (Nat.le_of_ble_eq_true rfl)⟩ (va_recv hE.1 hP (ci := 5) (q0 := 22) rfl rfl) (hk_pre C (hP.sub (ws' := wM G am v) [22, 23, 24, 25, 26, 27, 28, 29, 30, 31, 32, 33, 34, 35] rfl) (hD.sub (ws' := wM G am v) [22, 23, 24, 25, 26, 27, 28, 29, 30, 31, 32, 33, 34, 35] (by decide) rfl)) rfl hl.1 rfl (Nat.le_of_ble_eq_true rfl) d_law_564 ⟨by show cells + 0 ≤ 674747; omega, by show slots + 0 ≤ 7071862; omega⟩) hP hD hS hA (fun H locs hP hD hS => ?_)
  have rr := r_memory hR (xs (nI i + 1).toNatClampNeg) (xs (nI i + 2).toNatClampNeg) (xs (nI i + 3).toNatClampNeg)
  refine lv_icmp_eq (tgt := 638) hx hb d_law_567 (by decide) (fun _ => ?_) (fun c9 => absurd rr.1 c9)
  refine W.widen (k := cells + 1) (n := slots + 6) (by omega) (by omega) ?_
  exact kk _ _ lo _ _ _ rr.2 hP hD hS hl
set_option maxHeartbeats 8000000 in
set_option maxRecDepth 100000 in
theorem lw_case_trailer {p : Program} {l : Launch} {e : Env} {s : State} {m : MethodId} {below : List Frame} {meth : Method} {c : Code} {b L : Nat} {xs : Nat → Int32} {G : hk_G} {tz1 tz2 : Nat} (K : lw_C p l s m meth c b L xs G tz1 tz2) (hL : L ≤ 2048) {i cells slots : Nat} (hi : i + 4 ≤ L) (hcc : cells ≤ 3000) (hss : slots ≤ 20000) {ab am : Nat → Nat} {q : Nat} {u : cB} {v : cM} {lo : Nat → Int64} {H : Heap} {locs : List Loc} {ls : Array Slot} (hR : RV u v) (hP : va_P (hk_D G) classes (wW G ab am q u v lo) H) (hD : va_D (lw_A s) (wW G ab am q u v lo)) (hS : va_S (lw_A s) s.heap H locs) (hl : lv_has ls 7 (lw_lv b q (am 0) (ab 0) i)) (kk : lw_K p l e s m below meth c b G ab am q i cells slots) : W p l e room_1 s m #[Value.ref b] below meth c H locs cells slots (lw_Z below #[Value.ref b] s) (F0 m 572 ls []) := by
  obtain ⟨hx, hb, hr, hml, hown, hts, hX, hbl, hlocks, hgv⟩ := id K.1
  have C := K.2.1
  have hE := C.2.2.2.2.2.2.2
  have hA : ∀ x : Nat, s.heap.size ≤ x → lw_A s x := fun _ h => h
  have hbA : ¬ lw_A s b := Nat.not_le.mpr hbl
  have hIv := hR.iv
  have hIM := hR.im
  have in1 : vp_in (nI i + 1) L := by rw [nI_1]; exact vp_in_nI (by omega) (by omega)
  have in2 : vp_in (nI i + 2) L := by rw [show (2 : Int32) = nI 2 from rfl, nI_add]; exact vp_in_nI (by omega) (by omega)
  have in3 : vp_in (nI i + 3) L := by rw [show (3 : Int32) = nI 3 from rfl, nI_add]; exact vp_in_nI (by omega) (by omega)
  have hl : lv_has ls 7 [(4, .int (nI i)), (3, .ref q), (2, .ref (am 0)), (1, .ref (ab 0)), (0, .ref b)] := hl
  by_cases hz1 : xs (nI i + 1).toNatClampNeg = 0
  · skip
    refine lv_aload_n hx hb d_law_572 rfl (lv_at hl 3 rfl) ?_
    refine lv_aload_n hx hb d_law_573 rfl (lv_at hl 4 rfl) ?_
    refine lv_iload hx hb d_law_574 (lv_at hl 0 rfl) ?_
    refine lv_iconst (v := (1 : Int32)) hx hb d_law_576 (by decide) ?_
    refine lv_iadd hx hb d_law_577 ?_
    refine va_sld hx hb hX hbl hbA hS in1 d_law_578 ?_
    refine lv_if_eq (tgt := 586) hx hb d_law_579 (by decide) (fun _ => ?_) (fun c9 => absurd hz1 c9)
    refine lv_iconst (v := (0 : Int32)) hx hb d_law_586 (by decide) ?_
    refine lw_goB (u1 := (m_B_trailer (0 : Int32) u).2) (hk_kVg (k := 1) (As := [.int (0 : Int32)]) (rest := []) C (c_B_trailer l G ab u (0 : Int32) hIv (Or.inl rfl) _) Y_B_trailer (hk_in (by decide +kernel) rfl) rfl rfl ⟨(Nat.le_of_ble_eq_true rfl), (Nat.le_of_ble_eq_true rfl)⟩ (va_recv hE.1 hP (ci := 4) (q0 := 0) rfl rfl) (hk_pre C (hP.sub (ws' := wB G ab u) [0, 1, 2, 3, 4, 5, 6, 7, 8, 9, 10, 11, 12, 13, 14, 15, 16, 17, 18, 19, 20, 21] rfl) (hD.sub (ws' := wB G ab u) [0, 1, 2, 3, 4, 5, 6, 7, 8, 9, 10, 11, 12, 13, 14, 15, 16, 17, 18, 19, 20, 21] (by decide) rfl)) rfl hl.1 rfl (Nat.le_of_ble_eq_true rfl) d_law_587 ⟨by show cells + 0 ≤ 674747; omega, by show slots + 0 ≤ 7071862; omega⟩) hP hD hS hA (fun H locs hP hD hS => ?_)
    refine lv_aload_n hx hb d_law_590 rfl (lv_at hl 2 rfl) ?_
    refine lv_aload_n hx hb d_law_591 rfl (lv_at hl 4 rfl) ?_
    refine lv_iload hx hb d_law_592 (lv_at hl 0 rfl) ?_
    refine lv_iconst (v := (1 : Int32)) hx hb d_law_594 (by decide) ?_
    refine lv_iadd hx hb d_law_595 ?_
    refine va_sld hx hb hX hbl hbA hS in1 d_law_596 ?_
    refine lv_if_eq (tgt := 604) hx hb d_law_597 (by decide) (fun _ => ?_) (fun c9 => absurd hz1 c9)
    refine lv_iconst (v := (0 : Int32)) hx hb d_law_604 (by decide) ?_
    refine lw_goM (v1 := (m_M_trailer (0 : Int32) v).2) (hk_kVg (k := 1) (As := [.int (0 : Int32)]) (rest := [.int (m_B_trailer (0 : Int32) u).1]) C (c_M_trailer l G am v (0 : Int32) (Or.inl rfl) _) Y_M_trailer (hk_in (by decide +kernel) rfl) rfl rfl ⟨(Nat.le_of_ble_eq_true rfl), (Nat.le_of_ble_eq_true rfl)⟩ (va_recv hE.1 hP (ci := 5) (q0 := 22) rfl rfl) (hk_pre C (hP.sub (ws' := wM G am v) [22, 23, 24, 25, 26, 27, 28, 29, 30, 31, 32, 33, 34, 35] rfl) (hD.sub (ws' := wM G am v) [22, 23, 24, 25, 26, 27, 28, 29, 30, 31, 32, 33, 34, 35] (by decide) rfl)) rfl hl.1 rfl (Nat.le_of_ble_eq_true rfl) d_law_605 ⟨by show cells + 0 ≤ 674747; omega, by show slots + 0 ≤ 7071862; omega⟩) hP hD hS hA (fun H locs hP hD hS => ?_)
    have rr := r_trailer hR (0 : Int32)
    refine lv_icmp_eq (tgt := 638) hx hb d_law_608 (by decide) (fun _ => ?_) (fun c9 => absurd rr.1 c9)
    refine W.widen (k := cells + 1) (n := slots + 6) (by omega) (by omega) ?_
    exact kk _ _ lo _ _ _ rr.2 hP hD hS hl
  · skip
    refine lv_aload_n hx hb d_law_572 rfl (lv_at hl 3 rfl) ?_
    refine lv_aload_n hx hb d_law_573 rfl (lv_at hl 4 rfl) ?_
    refine lv_iload hx hb d_law_574 (lv_at hl 0 rfl) ?_
    refine lv_iconst (v := (1 : Int32)) hx hb d_law_576 (by decide) ?_
    refine lv_iadd hx hb d_law_577 ?_
    refine va_sld hx hb hX hbl hbA hS in1 d_law_578 ?_
    refine lv_if_eq (tgt := 586) hx hb d_law_579 (by decide) (fun c9 => absurd c9 hz1) (fun _ => ?_)
    refine lv_iconst (v := (1 : Int32)) hx hb d_law_582 (by decide) ?_
    refine lv_goto (tgt := 587) hx hb d_law_583 (by decide) ?_
    refine lw_goB (u1 := (m_B_trailer (1 : Int32) u).2) (hk_kVg (k := 1) (As := [.int (1 : Int32)]) (rest := []) C (c_B_trailer l G ab u (1 : Int32) hIv (Or.inr rfl) _) Y_B_trailer (hk_in (by decide +kernel) rfl) rfl rfl ⟨(Nat.le_of_ble_eq_true rfl), (Nat.le_of_ble_eq_true rfl)⟩ (va_recv hE.1 hP (ci := 4) (q0 := 0) rfl rfl) (hk_pre C (hP.sub (ws' := wB G ab u) [0, 1, 2, 3, 4, 5, 6, 7, 8, 9, 10, 11, 12, 13, 14, 15, 16, 17, 18, 19, 20, 21] rfl) (hD.sub (ws' := wB G ab u) [0, 1, 2, 3, 4, 5, 6, 7, 8, 9, 10, 11, 12, 13, 14, 15, 16, 17, 18, 19, 20, 21] (by decide) rfl)) rfl hl.1 rfl (Nat.le_of_ble_eq_true rfl) d_law_587 ⟨by show cells + 0 ≤ 674747; omega, by show slots + 0 ≤ 7071862; omega⟩) hP hD hS hA (fun H locs hP hD hS => ?_)
    refine lv_aload_n hx hb d_law_590 rfl (lv_at hl 2 rfl) ?_
    refine lv_aload_n hx hb d_law_591 rfl (lv_at hl 4 rfl) ?_
    refine lv_iload hx hb d_law_592 (lv_at hl 0 rfl) ?_
    refine lv_iconst (v := (1 : Int32)) hx hb d_law_594 (by decide) ?_
    refine lv_iadd hx hb d_law_595 ?_
    refine va_sld hx hb hX hbl hbA hS in1 d_law_596 ?_
    refine lv_if_eq (tgt := 604) hx hb d_law_597 (by decide) (fun c9 => absurd c9 hz1) (fun _ => ?_)
    refine lv_iconst (v := (1 : Int32)) hx hb d_law_600 (by decide) ?_
    refine lv_goto (tgt := 605) hx hb d_law_601 (by decide) ?_
    refine lw_goM (v1 := (m_M_trailer (1 : Int32) v).2) (hk_kVg (k := 1) (As := [.int (1 : Int32)]) (rest := [.int (m_B_trailer (1 : Int32) u).1]) C (c_M_trailer l G am v (1 : Int32) (Or.inr rfl) _) Y_M_trailer (hk_in (by decide +kernel) rfl) rfl rfl ⟨(Nat.le_of_ble_eq_true rfl), (Nat.le_of_ble_eq_true rfl)⟩ (va_recv hE.1 hP (ci := 5) (q0 := 22) rfl rfl) (hk_pre C (hP.sub (ws' := wM G am v) [22, 23, 24, 25, 26, 27, 28, 29, 30, 31, 32, 33, 34, 35] rfl) (hD.sub (ws' := wM G am v) [22, 23, 24, 25, 26, 27, 28, 29, 30, 31, 32, 33, 34, 35] (by decide) rfl)) rfl hl.1 rfl (Nat.le_of_ble_eq_true rfl) d_law_605 ⟨by show cells + 0 ≤ 674747; omega, by show slots + 0 ≤ 7071862; omega⟩) hP hD hS hA (fun H locs hP hD hS => ?_)
    have rr := r_trailer hR (1 : Int32)
    refine lv_icmp_eq (tgt := 638) hx hb d_law_608 (by decide) (fun _ => ?_) (fun c9 => absurd rr.1 c9)
    refine W.widen (k := cells + 1) (n := slots + 6) (by omega) (by omega) ?_
    exact kk _ _ lo _ _ _ rr.2 hP hD hS hl
set_option maxHeartbeats 8000000 in
set_option maxRecDepth 100000 in
theorem lw_case_state {p : Program} {l : Launch} {e : Env} {s : State} {m : MethodId} {below : List Frame} {meth : Method} {c : Code} {b L : Nat} {xs : Nat → Int32} {G : hk_G} {tz1 tz2 : Nat} (K : lw_C p l s m meth c b L xs G tz1 tz2) (hL : L ≤ 2048) {i cells slots : Nat} (hi : i + 4 ≤ L) (hcc : cells ≤ 3000) (hss : slots ≤ 20000) {ab am : Nat → Nat} {q : Nat} {u : cB} {v : cM} {lo : Nat → Int64} {H : Heap} {locs : List Loc} {ls : Array Slot} (hR : RV u v) (hP : va_P (hk_D G) classes (wW G ab am q u v lo) H) (hD : va_D (lw_A s) (wW G ab am q u v lo)) (hS : va_S (lw_A s) s.heap H locs) (hl : lv_has ls 7 (lw_lv b q (am 0) (ab 0) i)) (kk : lw_K p l e s m below meth c b G ab am q i cells slots) : W p l e room_1 s m #[Value.ref b] below meth c H locs cells slots (lw_Z below #[Value.ref b] s) (F0 m 613 ls []) := by
  obtain ⟨hx, hb, hr, hml, hown, hts, hX, hbl, hlocks, hgv⟩ := id K.1
  have C := K.2.1
  have hE := C.2.2.2.2.2.2.2
  have hA : ∀ x : Nat, s.heap.size ≤ x → lw_A s x := fun _ h => h
  have hbA : ¬ lw_A s b := Nat.not_le.mpr hbl
  have hIv := hR.iv
  have hIM := hR.im
  have in1 : vp_in (nI i + 1) L := by rw [nI_1]; exact vp_in_nI (by omega) (by omega)
  have in2 : vp_in (nI i + 2) L := by rw [show (2 : Int32) = nI 2 from rfl, nI_add]; exact vp_in_nI (by omega) (by omega)
  have in3 : vp_in (nI i + 3) L := by rw [show (3 : Int32) = nI 3 from rfl, nI_add]; exact vp_in_nI (by omega) (by omega)
  have hl : lv_has ls 7 [(4, .int (nI i)), (3, .ref q), (2, .ref (am 0)), (1, .ref (ab 0)), (0, .ref b)] := hl
  refine lv_aload_n hx hb d_law_613 rfl (lv_at hl 3 rfl) ?_
  refine lv_aload_n hx hb d_law_614 rfl (lv_at hl 4 rfl) ?_
  refine lv_iload hx hb d_law_615 (lv_at hl 0 rfl) ?_
  refine lv_iconst (v := (1 : Int32)) hx hb d_law_617 (by decide) ?_
  refine lv_iadd hx hb d_law_618 ?_
  refine va_sld hx hb hX hbl hbA hS in1 d_law_619 ?_
  refine lw_goB (u1 := u) (hk_kVg (k := 1) (As := [.int (xs (nI i + 1).toNatClampNeg)]) (rest := []) C (c_B_state l G ab u (xs (nI i + 1).toNatClampNeg) hIv _) Y_B_state (hk_in (by decide +kernel) rfl) rfl rfl ⟨(Nat.le_of_ble_eq_true rfl), (Nat.le_of_ble_eq_true rfl)⟩ (va_recv hE.1 hP (ci := 4) (q0 := 0) rfl rfl) (hk_pre C (hP.sub (ws' := wB G ab u) [0, 1, 2, 3, 4, 5, 6, 7, 8, 9, 10, 11, 12, 13, 14, 15, 16, 17, 18, 19, 20, 21] rfl) (hD.sub (ws' := wB G ab u) [0, 1, 2, 3, 4, 5, 6, 7, 8, 9, 10, 11, 12, 13, 14, 15, 16, 17, 18, 19, 20, 21] (by decide) rfl)) rfl hl.1 rfl (Nat.le_of_ble_eq_true rfl) d_law_620 ⟨by show cells + 0 ≤ 674747; omega, by show slots + 0 ≤ 7071862; omega⟩) hP hD hS hA (fun H locs hP hD hS => ?_)
  refine lv_aload_n hx hb d_law_623 rfl (lv_at hl 2 rfl) ?_
  refine lv_aload_n hx hb d_law_624 rfl (lv_at hl 4 rfl) ?_
  refine lv_iload hx hb d_law_625 (lv_at hl 0 rfl) ?_
  refine lv_iconst (v := (1 : Int32)) hx hb d_law_627 (by decide) ?_
  refine lv_iadd hx hb d_law_628 ?_
  refine va_sld hx hb hX hbl hbA hS in1 d_law_629 ?_
  refine lw_goM (v1 := (m_M_state (xs (nI i + 1).toNatClampNeg) v).2) (hk_kVg (k := 1) (As := [.int (xs (nI i + 1).toNatClampNeg)]) (rest := [.int (m_B_state (xs (nI i + 1).toNatClampNeg) u)]) C (c_M_state l G am v (xs (nI i + 1).toNatClampNeg) _) Y_M_state (hk_in (by decide +kernel) rfl) rfl rfl ⟨(Nat.le_of_ble_eq_true rfl), (Nat.le_of_ble_eq_true rfl)⟩ (va_recv hE.1 hP (ci := 5) (q0 := 22) rfl rfl) (hk_pre C (hP.sub (ws' := wM G am v) [22, 23, 24, 25, 26, 27, 28, 29, 30, 31, 32, 33, 34, 35] rfl) (hD.sub (ws' := wM G am v) [22, 23, 24, 25, 26, 27, 28, 29, 30, 31, 32, 33, 34, 35] (by decide) rfl)) rfl hl.1 rfl (Nat.le_of_ble_eq_true rfl) d_law_630 ⟨by show cells + 0 ≤ 674747; omega, by show slots + 0 ≤ 7071862; omega⟩) hP hD hS hA (fun H locs hP hD hS => ?_)
  have rr := r_state hR (xs (nI i + 1).toNatClampNeg)
  refine lv_icmp_eq (tgt := 638) hx hb d_law_633 (by decide) (fun _ => ?_) (fun c9 => absurd rr.1 c9)
  refine W.widen (k := cells + 1) (n := slots + 6) (by omega) (by omega) ?_
  exact kk _ _ lo _ _ _ rr.2 hP hD hS hl
set_option maxHeartbeats 8000000 in
set_option maxRecDepth 100000 in
theorem lw_switch {p : Program} {l : Launch} {e : Env} {s : State} {m : MethodId} {below : List Frame} {meth : Method} {c : Code} {b L : Nat} {xs : Nat → Int32} {G : hk_G} {tz1 tz2 : Nat} (K : lw_C p l s m meth c b L xs G tz1 tz2) (hL : L ≤ 2048) {i cells slots : Nat} (hi4 : i + 4 ≤ L) (hcc : cells ≤ 3000) (hss : slots ≤ 20000) {ab am : Nat → Nat} {q : Nat} {u : cB} {v : cM} {lo : Nat → Int64} {H : Heap} {locs : List Loc} {ls : Array Slot} (hR : RV u v) (hP : va_P (hk_D G) classes (wW G ab am q u v lo) H) (hD : va_D (lw_A s) (wW G ab am q u v lo)) (hS : va_S (lw_A s) s.heap H locs) (hl : lv_has ls 7 (lw_lv b q (am 0) (ab 0) i)) (knext : lw_K p l e s m below meth c b G ab am q i cells slots) : W p l e room_1 s m #[Value.ref b] below meth c H locs cells slots (lw_Z below #[Value.ref b] s) (F0 m 39 ls [.int (xs (nI i).toNatClampNeg &&& 15)]) := by
  obtain ⟨hx, hb, hr, hml, hown, hts, hX, hbl, hlocks, hgv⟩ := id K.1
  by_cases k_0 : (xs (nI i).toNatClampNeg &&& 15) = 0
  · skip
    refine lv_tableIn (tgt := 112) (off := 73) hx hb d_law_39 (by rw [k_0]; decide) (by rw [k_0]; decide) (by rw [k_0]; rfl) (by decide) ?_
    exact lw_case_input K hL hi4 hcc hss hR hP hD hS hl knext
  · skip
    by_cases k_1 : (xs (nI i).toNatClampNeg &&& 15) = 1
    · skip
      refine lv_tableIn (tgt := 149) (off := 110) hx hb d_law_39 (by rw [k_1]; decide) (by rw [k_1]; decide) (by rw [k_1]; rfl) (by decide) ?_
      exact lw_case_output K hL hi4 hcc hss hR hP hD hS hl knext
    · skip
      by_cases k_2 : (xs (nI i).toNatClampNeg &&& 15) = 2
      · skip
        refine lv_tableIn (tgt := 205) (off := 166) hx hb d_law_39 (by rw [k_2]; decide) (by rw [k_2]; decide) (by rw [k_2]; rfl) (by decide) ?_
        exact lw_case_step K hL hi4 hcc hss hR hP hD hS hl knext
      · skip
        by_cases k_3 : (xs (nI i).toNatClampNeg &&& 15) = 3
        · skip
          refine lv_tableIn (tgt := 230) (off := 191) hx hb d_law_39 (by rw [k_3]; decide) (by rw [k_3]; decide) (by rw [k_3]; rfl) (by decide) ?_
          exact lw_case_pinch K hL hi4 hcc hss hR hP hD hS hl knext
        · skip
          by_cases k_4 : (xs (nI i).toNatClampNeg &&& 15) = 4
          · skip
            refine lv_tableIn (tgt := 267) (off := 228) hx hb d_law_39 (by rw [k_4]; decide) (by rw [k_4]; decide) (by rw [k_4]; rfl) (by decide) ?_
            exact lw_case_learn K hL hi4 hcc hss hR hP hD hS hl knext
          · skip
            by_cases k_5 : (xs (nI i).toNatClampNeg &&& 15) = 5
            · skip
              refine lv_tableIn (tgt := 292) (off := 253) hx hb d_law_39 (by rw [k_5]; decide) (by rw [k_5]; decide) (by rw [k_5]; rfl) (by decide) ?_
              exact lw_case_shed K hL hi4 hcc hss hR hP hD hS hl knext
            · skip
              by_cases k_6 : (xs (nI i).toNatClampNeg &&& 15) = 6
              · skip
                refine lv_tableIn (tgt := 317) (off := 278) hx hb d_law_39 (by rw [k_6]; decide) (by rw [k_6]; decide) (by rw [k_6]; rfl) (by decide) ?_
                exact lw_case_load K hL hi4 hcc hss hR hP hD hS hl knext
              · skip
                by_cases k_7 : (xs (nI i).toNatClampNeg &&& 15) = 7
                · skip
                  refine lv_tableIn (tgt := 370) (off := 331) hx hb d_law_39 (by rw [k_7]; decide) (by rw [k_7]; decide) (by rw [k_7]; rfl) (by decide) ?_
                  exact lw_case_isOn K hL hi4 hcc hss hR hP hD hS hl knext
                · skip
                  by_cases k_8 : (xs (nI i).toNatClampNeg &&& 15) = 8
                  · skip
                    refine lv_tableIn (tgt := 395) (off := 356) hx hb d_law_39 (by rw [k_8]; decide) (by rw [k_8]; decide) (by rw [k_8]; rfl) (by decide) ?_
                    exact lw_case_bulb K hL hi4 hcc hss hR hP hD hS hl knext
                  · skip
                    by_cases k_9 : (xs (nI i).toNatClampNeg &&& 15) = 9
                    · skip
                      refine lv_tableIn (tgt := 448) (off := 409) hx hb d_law_39 (by rw [k_9]; decide) (by rw [k_9]; decide) (by rw [k_9]; rfl) (by decide) ?_
                      exact lw_case_rain K hL hi4 hcc hss hR hP hD hS hl knext
                    · skip
                      by_cases k_10 : (xs (nI i).toNatClampNeg &&& 15) = 10
                      · skip
                        refine lv_tableIn (tgt := 473) (off := 434) hx hb d_law_39 (by rw [k_10]; decide) (by rw [k_10]; decide) (by rw [k_10]; rfl) (by decide) ?_
                        exact lw_case_window K hL hi4 hcc hss hR hP hD hS hl knext
                      · skip
                        by_cases k_11 : (xs (nI i).toNatClampNeg &&& 15) = 11
                        · skip
                          refine lv_tableIn (tgt := 510) (off := 471) hx hb d_law_39 (by rw [k_11]; decide) (by rw [k_11]; decide) (by rw [k_11]; rfl) (by decide) ?_
                          exact lw_case_crash K hL hi4 hcc hss hR hP hD hS hl knext
                        · skip
                          by_cases k_12 : (xs (nI i).toNatClampNeg &&& 15) = 12
                          · skip
                            refine lv_tableIn (tgt := 523) (off := 484) hx hb d_law_39 (by rw [k_12]; decide) (by rw [k_12]; decide) (by rw [k_12]; rfl) (by decide) ?_
                            exact lw_case_memory K hL hi4 hcc hss hR hP hD hS hl knext
                          · skip
                            by_cases k_13 : (xs (nI i).toNatClampNeg &&& 15) = 13
                            · skip
                              refine lv_tableIn (tgt := 572) (off := 533) hx hb d_law_39 (by rw [k_13]; decide) (by rw [k_13]; decide) (by rw [k_13]; rfl) (by decide) ?_
                              exact lw_case_trailer K hL hi4 hcc hss hR hP hD hS hl knext
                            · skip
                              by_cases k_14 : (xs (nI i).toNatClampNeg &&& 15) = 14
                              · skip
                                refine lv_tableIn (tgt := 613) (off := 574) hx hb d_law_39 (by rw [k_14]; decide) (by rw [k_14]; decide) (by rw [k_14]; rfl) (by decide) ?_
                                exact lw_case_state K hL hi4 hcc hss hR hP hD hS hl knext
                              · skip
                                refine lv_tableOut (tgt := 638) hx hb d_law_39 (Or.inr ?_) (by decide) ?_
                                · exact lw_out15 k_0 k_1 k_2 k_3 k_4 k_5 k_6 k_7 k_8 k_9 k_10 k_11 k_12 k_13 k_14
                                · refine W.widen (k := cells + 1) (n := slots + 6) (by omega) (by omega) ?_
                                  exact knext _ _ _ _ _ _ hR hP hD hS hl
