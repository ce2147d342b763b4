/-! LAW: its loop, its start -/
set_option maxHeartbeats 8000000 in
set_option maxRecDepth 100000 in
theorem law_loop {p : Program} {l : Launch} {e : Env} {s : State} {m : MethodId} {below : List Frame} {meth : Method} {c : Code} {b L : Nat} {xs : Nat → Int32} {G : hk_G} {tz1 tz2 : Nat} (K : lw_C p l s m meth c b L xs G tz1 tz2) (hL : L ≤ 2048) {ab am : Nat → Nat} {q : Nat} :
    ∀ (n i : Nat), i ≤ L → L + 1 ≤ i + n → ∀ (u : cB) (v : cM) (lo : Nat → Int64) (H : Heap) (locs : List Loc) (ls : Array Slot), RV u v → va_P (hk_D G) classes (wW G ab am q u v lo) H → va_D (lw_A s) (wW G ab am q u v lo) → va_S (lw_A s) s.heap H locs → lv_has ls 7 (lw_lv b q (am 0) (ab 0) i) → W p l e room_1 s m #[Value.ref b] below meth c H locs (100 + i) (400 + 6 * i) (lw_Z below #[Value.ref b] s) (F0 m 23 ls []) := by
  obtain ⟨hx, hb, hr, hml, hown, hts, hX, hbl, hlocks, hgv⟩ := id K.1
  have hbA : ¬ lw_A s b := Nat.not_le.mpr hbl
  intro n
  induction n with
  | zero =>
    intro i h1 h2
    exact absurd h2 (by omega)
  | succ n ih =>
    intro i hi hin u v lo H locs ls hR hP hD hS hl
    have hl : lv_has ls 7 [(4, .int (nI i)), (3, .ref q), (2, .ref (am 0)), (1, .ref (ab 0)), (0, .ref b)] := hl
    refine lv_iload hx hb d_law_23 (lv_at hl 0 rfl) ?_
    refine lv_aload_n hx hb d_law_25 rfl (lv_at hl 4 rfl) ?_
    refine va_slen hx hb hX hbl hbA hS d_law_26 ?_
    refine lv_iconst (v := (4 : Int32)) hx hb d_law_27 (by decide) ?_
    refine lv_isub hx hb d_law_28 ?_
    refine lv_icmp_gt (tgt := 644) hx hb d_law_29 (by decide) (fun c_1 => ?_) (fun c_1 => ?_)
    · refine lv_iconst (v := (1 : Int32)) hx hb d_law_644 (by decide) ?_
      refine va_forget (fun x hx' => hS.2.2 x hx') ?_
      refine W.widen (k := 674747) (n := 7071862) (by omega) (by omega) ?_
      exact lw_ret hx hb hr hlocks d_law_645
    · have hi4 : i + 4 ≤ L := by
        have l4 : (4 : Int32).toInt = 4 := rfl
        have e1 : (Int32.ofNat L).toInt = (L : Int) := nI_toInt (by omega)
        have e2 : (nI i).toInt = (i : Int) := nI_toInt (by omega)
        rw [Int32.lt_iff_toInt_lt, hi_sub (by omega) (by omega), e1, e2, l4] at c_1
        omega
      refine lv_aload_n hx hb d_law_32 rfl (lv_at hl 4 rfl) ?_
      refine lv_iload hx hb d_law_33 (lv_at hl 0 rfl) ?_
      refine va_sld hx hb hX hbl hbA hS (vp_in_nI (by omega) (by omega)) d_law_35 ?_
      refine lv_bipush (v := (15 : Int32)) hx hb d_law_36 (by decide) ?_
      refine lv_iand hx hb d_law_38 ?_
      obtain ⟨cells, hce⟩ : ∃ z, 100 + i = z := ⟨_, rfl⟩
      obtain ⟨slots, hse⟩ : ∃ z, 400 + 6 * i = z := ⟨_, rfl⟩
      rw [hce, hse]
      have hcc : cells ≤ 3000 := by omega
      have hss : slots ≤ 20000 := by omega
      have knext : lw_K p l e s m below meth c b G ab am q i cells slots := by
        intro u v lo H locs ls hR hP hD hS hl
        have hl : lv_has ls 7 [(4, .int (nI i)), (3, .ref q), (2, .ref (am 0)), (1, .ref (ab 0)), (0, .ref b)] := hl
        refine lv_iinc (v := nI (i + 4)) (lv' := [(4, .int (nI (i + 4))), (3, .ref q), (2, .ref (am 0)), (1, .ref (ab 0)), (0, .ref b)]) hx hb d_law_638 hl (k := 0) rfl (by rw [← nI_add]; rfl) (by decide) rfl (fun ls hl => ?_)
        refine lv_goto (tgt := 23) hx hb d_law_641 (by decide) ?_
        refine W.widen (k := 100 + (i + 4)) (n := 400 + 6 * (i + 4)) (by omega) (by omega) ?_
        exact ih (i + 4) hi4 (by omega) u v lo H locs ls hR hP hD hS hl
      exact lw_switch K hL hi4 hcc hss hR hP hD hS hl knext
theorem lw_arr {s : State} {args : Array Value} {ty : FieldType} (h : (Cond.arrayClass ty).before args s = true) : ∃ cA : ClassId, ArrOfT s cA ty ∧ s.vm.findClass ("[" ++ ty.toString) = some cA := by
  obtain ⟨cA, kA, comp, f1, f2, f3⟩ := Cond.arrayClass_spec h
  exact ⟨cA, fun N z => ⟨(fun k h => by cases h), kA, f2, comp, f3⟩, f1⟩
theorem lw_arrO {s : State} {args : Array Value} {C : String} (h : (Cond.arrayOver (.object C)).before args s = true) : ∃ cA : ClassId, ArrOfT s cA (.object C) ∧ va_RA s cA (.object C) := by
  obtain ⟨comp, cA, kA, f1, -, f2, f3, f4⟩ := Cond.arrayOver_spec h
  exact ⟨cA, fun N z => ⟨(fun k h => by cases h), kA, f2, comp, f3⟩, kA, comp, f2, f3, f1, f4⟩
theorem lw_arrA {s : State} {args : Array Value} {t : FieldType} (h : (Cond.arrayOver (.array t)).before args s = true) : ∃ cA : ClassId, ArrOfT s cA (.array t) ∧ s.vm.findClass ("[" ++ (FieldType.array t).toString) = some cA := by
  obtain ⟨comp, cA, kA, -, f2, f3, f4⟩ := Cond.arrayOver_specA h
  exact ⟨cA, fun N z => ⟨(fun k h => by cases h), kA, f2, comp, f3⟩, f4⟩
theorem lw_nest {w : Cond} (h : hk_isNest w = true) : w.onTables = true := by
  cases w <;> first | rfl | (simp [hk_isNest] at h)
theorem lw_E {s : State} {b : Nat} (hts : ∀ w ∈ lw_tbl, w.before #[Value.ref b] s = true) : ∃ G : hk_G, hk_E G s := by
  obtain ⟨c0, i0, h0⟩ := u_known (C := R_Side) (T := F_Side) (N := 3) (n := 3) hts (by decide +kernel) (hts (.instantiable R_Side 3) (by decide +kernel))
  obtain ⟨c1, i1, h1⟩ := u_known (C := R_Wiper) (T := F_Wiper) (N := 3) (n := 3) hts (by decide +kernel) (hts (.instantiable R_Wiper 3) (by decide +kernel))
  obtain ⟨c2, i2, h2⟩ := u_known (C := R_Window) (T := F_Window) (N := 3) (n := 3) hts (by decide +kernel) (hts (.instantiable R_Window 3) (by decide +kernel))
  obtain ⟨c3, i3, h3⟩ := u_known (C := R_Loads) (T := F_Loads) (N := 6) (n := 6) hts (by decide +kernel) (hts (.instantiable R_Loads 6) (by decide +kernel))
  obtain ⟨c4, i4, h4⟩ := u_known (C := R_B) (T := F_B) (N := 14) (n := 14) hts (by decide +kernel) (hts (.instantiable R_B 14) (by decide +kernel))
  obtain ⟨c5, i5, h5⟩ := u_known (C := R_M) (T := F_M) (N := 26) (n := 26) hts (by decide +kernel) (hts (.instantiable R_M 26) (by decide +kernel))
  obtain ⟨a0, b0, d0⟩ := lw_arr (hts (.arrayClass .int) (by decide +kernel))
  obtain ⟨a1, b1, d1⟩ := lw_arr (hts (.arrayClass .boolean) (by decide +kernel))
  obtain ⟨a2, b2, d2⟩ := lw_arrO (hts (.arrayOver (.object "BodyRows2$Side")) (by decide +kernel))
  obtain ⟨a3, b3, d3⟩ := lw_arrO (hts (.arrayOver (.object "BodyRows2$Window")) (by decide +kernel))
  obtain ⟨a4, b4, d4⟩ := lw_arrA (hts (.arrayOver (.array .int)) (by decide +kernel))
  obtain ⟨a5, b5, d5⟩ := lw_arr (hts (.arrayClass .long) (by decide +kernel))
  refine ⟨(fun k => match k with | 0 => c0 | 1 => c1 | 2 => c2 | 3 => c3 | 4 => c4 | _ => c5, fun k => match k with | 0 => i0 | 1 => i1 | 2 => i2 | 3 => i3 | 4 => i4 | _ => i5, fun k => match k with | 0 => a0 | 1 => a1 | 2 => a2 | 3 => a3 | 4 => a4 | _ => a5), ⟨?_, ?_⟩, ?_, ?_⟩
  · intro k q hq
    match k, hq with
    | 0, hq => cases hq; exact h0
    | 1, hq => cases hq; exact h1
    | 2, hq => cases hq; exact h2
    | 3, hq => cases hq; exact h3
    | 4, hq => cases hq; exact h4
    | 5, hq => cases hq; exact h5
    | k + 6, hq => simp [classes] at hq
  · intro k q hq
    match k, hq with
    | 0, hq => cases hq; exact ⟨b0, d0⟩
    | 1, hq => cases hq; exact ⟨b1, d1⟩
    | 2, hq => cases hq; exact ⟨b2, d2⟩
    | 3, hq => cases hq; exact ⟨b3, d3⟩
    | 4, hq => cases hq; exact ⟨b4, d4⟩
    | 5, hq => cases hq; exact ⟨b5, d5⟩
    | k + 6, hq => simp [hk_ty] at hq
  · intro w hw hn
    exact va_Nw.of (lw_nest hn) (hts w hw)
  · exact ⟨va_AO.of (hts (.arrayOver (.object "BodyRows2$Side")) (by decide +kernel)), va_AO.of (hts (.arrayOver (.object "BodyRows2$Window")) (by decide +kernel)), hts (.arrayOver (.array .int)) (by decide +kernel)⟩
theorem lw_T {s : State} {b : Nat} (hts : ∀ w ∈ lw_tbl, w.before #[Value.ref b] s = true) (hgv : (Jvm.Cond.and given_1 narrow_1).before #[Value.ref b] s = true) : hk_T s := by
  have hs := flat_of_before _ hgv
  have hin : ∀ w ∈ tw0, w ∈ lw_tbl ∨ w = Cond.isRef (.static "java/lang/Throwable" "UNASSIGNED_STACK" "[Ljava/lang/StackTraceElement;") ∨ w = Cond.isRef (.static "java/lang/Throwable" "SUPPRESSED_SENTINEL" "Ljava/util/List;") := by decide +kernel
  refine ⟨?_, hts twS (by decide +kernel)⟩
  have h0 : ∀ w ∈ tw0, w.before #[Value.ref b] s = true := by
    intro w hw
    rcases hin w hw with h | rfl | rfl
    · exact hts w h
    · exact hs _ (by decide +kernel)
    · exact hs _ (by decide +kernel)
  exact Jvm.Free.rideK_all (State.WarmedH.refl s) (kept_rfl rfl) tw0_r h0
theorem lw_Z1 {s : State} {b : Nat} (hts : ∀ w ∈ lw_tbl, w.before #[Value.ref b] s = true) (hgv : (Jvm.Cond.and given_1 narrow_1).before #[Value.ref b] s = true) : ∃ tz, hk_Z1 tz (lw_A s) s s.heap := by
  have hs := flat_of_before _ hgv
  obtain ⟨t, ht, hT⟩ := va_Tof (s := s) (args := #[Value.ref b]) (tm := .static "BodyRows2" "GREATEST_INPUT" "[I") (ty := .int) (N := 9) (f := fun j => .int (k_great j)) (A := lw_A s) (by decide) (hs _ (by decide +kernel)) (va_eqt (hs (Cond.eq (.length (.static "BodyRows2" "GREATEST_INPUT" "[I")) (.int 9)) (by decide +kernel)))
    (fun j hj => by
      rcases (show j = 0 ∨ j = 1 ∨ j = 2 ∨ j = 3 ∨ j = 4 ∨ j = 5 ∨ j = 6 ∨ j = 7 ∨ j = 8 by omega) with rfl | rfl | rfl | rfl | rfl | rfl | rfl | rfl | rfl
      · exact va_eqt (hs (Cond.eq (.elem (.static "BodyRows2" "GREATEST_INPUT" "[I") (.int 0)) (.int 3)) (by decide +kernel))
      · exact va_eqt (hs (Cond.eq (.elem (.static "BodyRows2" "GREATEST_INPUT" "[I") (.int 1)) (.int 1000)) (by decide +kernel))
      · exact va_eqt (hs (Cond.eq (.elem (.static "BodyRows2" "GREATEST_INPUT" "[I") (.int 2)) (.int 2)) (by decide +kernel))
      · exact va_eqt (hs (Cond.eq (.elem (.static "BodyRows2" "GREATEST_INPUT" "[I") (.int 3)) (.int 1)) (by decide +kernel))
      · exact va_eqt (hs (Cond.eq (.elem (.static "BodyRows2" "GREATEST_INPUT" "[I") (.int 4)) (.int 3)) (by decide +kernel))
      · exact va_eqt (hs (Cond.eq (.elem (.static "BodyRows2" "GREATEST_INPUT" "[I") (.int 5)) (.int 1)) (by decide +kernel))
      · exact va_eqt (hs (Cond.eq (.elem (.static "BodyRows2" "GREATEST_INPUT" "[I") (.int 6)) (.int 1)) (by decide +kernel))
      · exact va_eqt (hs (Cond.eq (.elem (.static "BodyRows2" "GREATEST_INPUT" "[I") (.int 7)) (.int 1)) (by decide +kernel))
      · exact va_eqt (hs (Cond.eq (.elem (.static "BodyRows2" "GREATEST_INPUT" "[I") (.int 8)) (.int 1)) (by decide +kernel)))
    (fun a ha => Nat.not_le.mpr ha)
  exact ⟨t, va_Zref (args := #[Value.ref b]) (hts (.laysStatic "BodyRows2" "GREATEST_INPUT" "[I") (by decide +kernel)) (hts (.initialized "BodyRows2") (by decide +kernel)) ht (fun a ha => Nat.not_le.mpr ha), hT⟩
theorem lw_Z2 {s : State} {b : Nat} (hts : ∀ w ∈ lw_tbl, w.before #[Value.ref b] s = true) (hgv : (Jvm.Cond.and given_1 narrow_1).before #[Value.ref b] s = true) : ∃ tz, hk_Z2 tz (lw_A s) s s.heap := by
  have hs := flat_of_before _ hgv
  obtain ⟨t, ht, hT⟩ := va_Tof (s := s) (args := #[Value.ref b]) (tm := .static "BodyRows2" "SUBSTITUTES" "[I") (ty := .int) (N := 6) (f := fun j => .int (k_subst j)) (A := lw_A s) (by decide) (hs _ (by decide +kernel)) (va_eqt (hs (Cond.eq (.length (.static "BodyRows2" "SUBSTITUTES" "[I")) (.int 6)) (by decide +kernel)))
    (fun j hj => by
      rcases (show j = 0 ∨ j = 1 ∨ j = 2 ∨ j = 3 ∨ j = 4 ∨ j = 5 by omega) with rfl | rfl | rfl | rfl | rfl | rfl
      · exact va_eqt (hs (Cond.eq (.elem (.static "BodyRows2" "SUBSTITUTES" "[I") (.int 0)) (.int 1)) (by decide +kernel))
      · exact va_eqt (hs (Cond.eq (.elem (.static "BodyRows2" "SUBSTITUTES" "[I") (.int 1)) (.int 0)) (by decide +kernel))
      · exact va_eqt (hs (Cond.eq (.elem (.static "BodyRows2" "SUBSTITUTES" "[I") (.int 2)) (.int 3)) (by decide +kernel))
      · exact va_eqt (hs (Cond.eq (.elem (.static "BodyRows2" "SUBSTITUTES" "[I") (.int 3)) (.int 2)) (by decide +kernel))
      · exact va_eqt (hs (Cond.eq (.elem (.static "BodyRows2" "SUBSTITUTES" "[I") (.int 4)) (.int 0)) (by decide +kernel))
      · exact va_eqt (hs (Cond.eq (.elem (.static "BodyRows2" "SUBSTITUTES" "[I") (.int 5)) (.int 1)) (by decide +kernel)))
    (fun a ha => Nat.not_le.mpr ha)
  exact ⟨t, va_Zref (args := #[Value.ref b]) (hts (.laysStatic "BodyRows2" "SUBSTITUTES" "[I") (by decide +kernel)) (hts (.initialized "BodyRows2") (by decide +kernel)) ht (fun a ha => Nat.not_le.mpr ha), hT⟩
/-- an array of longs -/
theorem hk_newL {p : Program} {l : Launch} {e : Env} {R : Room} {s : State} {m : MethodId} {args : Array Value} {below : List Frame} {meth : Method} {c : Code} {H : Heap} {locs : List Loc} {cells slots : Nat} {Q : State → Prop} {own : String} {cc : ByteArray} {nL : Nat} {ret0 : Option FieldType} {G : hk_G} {A : Nat → Prop} {ws : va_W} {H0 : Heap} {pc : Nat} {ls : Array Slot} {rest : List Value}
    (C : hk_C p s m meth c own cc nL ret0 args G) (harr : Cond.arrayClass .long ∈ hk_w) (hP : va_P (hk_D G) classes ws H) (hD : va_D A ws) (hS : va_S A H0 H locs) (hA : ∀ q, H0.size ≤ q → A q) (t0 : Nat) {cT : ClassId} (ht : (hk_ty G)[t0]? = some (cT, .long)) {z : Int32} {N : Nat} (hn : ¬ z < 0) (hN : z.toNatClampNeg = N) (hby : N * 8 ≤ 536870912) (hc : cells + 1 ≤ R.cells) (hs : slots + N ≤ R.slots) (hdg : decode cc pc = .ok (.newarray .long, 2))
    (kk : ∀ (q : Nat) (H1 : Heap), va_P (hk_D G) classes (ws ++ [(q, .inl (cT, N, .inr (.inl (fun _ => 0))))]) H1 → va_D A (ws ++ [(q, .inl (cT, N, .inr (.inl (fun _ => 0))))]) → va_S A H0 H1 locs → W p l e R s m args below meth c H1 locs (cells + 1) (slots + N) Q (F0 m (pc + 2) ls (.ref q :: rest))) : W p l e R s m args below meth c H locs cells slots Q (F0 m pc ls (.int z :: rest)) := by
  have hK := C.2.2.2.2.2.2.2.1
  refine va_newa (atype := .long) C.1 C.2.1 (C.2.2.2.2.2.1 _ harr) (ty := .long) rfl hK hP hD hS hA (a0 := (N, .inr (.inl (fun _ => 0)))) (fun cA => rfl) hn hN hby hc hs hdg (fun q cA H1 hK1 hP1 hD1 hS1 => ?_)
  have h1 : s.vm.findClass ("[" ++ (FieldType.long).toString) = some cA := (hK1.2 (hk_ty G).length (cA, .long) (by simp)).2
  have h2 : s.vm.findClass ("[" ++ (FieldType.long).toString) = some cT := (hK.2 t0 _ ht).2
  obtain rfl : cA = cT := Option.some.inj (h1.symm.trans h2)
  exact kk q H1 hP1 hD1 hS1
set_option maxHeartbeats 8000000 in
set_option maxRecDepth 100000 in
theorem whole_start {p : Program} {e : Env} {s : State} {m : MethodId} {below : List Frame} {meth : Method} {c : Code} (l : Launch) (hfl : l.flags = flags0) {b L : Nat} {xs : Nat → Int32} (hL : L ≤ 2048) (C0 : lw_At p s m meth c b L xs) : W p l e room_1 s m #[Value.ref b] below meth c s.heap [] 0 0 (lw_Z below #[Value.ref b] s) (entryFrame m ([Value.ref b] : List Value).toArray 7) := by
  obtain ⟨hx, hb, hr, hml, hown, hts, hX, hbl, hlocks, hgv⟩ := id C0
  obtain ⟨G, hE⟩ := lw_E hts
  obtain ⟨tz1, hZ1⟩ := lw_Z1 hts hgv
  obtain ⟨tz2, hZ2⟩ := lw_Z2 hts hgv
  have C : hk_C p s m meth c R_LW code 7 ret #[Value.ref b] G := ⟨hx, hb, hr, hml, hown, fun w h => hts w (List.mem_filter.mp h).1, hlocks, hE⟩
  have K : lw_C p l s m meth c b L xs G tz1 tz2 := ⟨C0, C, hfl, lw_T hts hgv, hZ1, hZ2⟩
  have hA : ∀ x : Nat, s.heap.size ≤ x → lw_A s x := fun _ h => h
  have hS : va_S (lw_A s) s.heap s.heap [] := va_S.rf
  have hP : va_P (hk_D G) classes [] s.heap := fun k q h => by simp at h
  have hD : va_D (lw_A s) [] := ⟨fun i j p q h => by simp at h, fun k q h => by simp at h⟩
  rw [lg_entry_eq]
  have key : ∀ ls : Array Slot, lv_has ls 7 [(0, .ref b)] → W p l e room_1 s m #[Value.ref b] below meth c s.heap [] 0 0 (lw_Z below #[Value.ref b] s) (F0 m 0 ls []) := by
    intro ls hl
    refine hk_new C 4 i_B t_B_ok (hk_in (by decide +kernel) rfl) (hk_in (by decide +kernel) rfl) (hk_in (by decide +kernel) rfl) hP hD hS hA rfl (fs := [.null, .null, .null, .null, .null, .null, .null, .null, .int 0, .int 0, .int 0, .int 0, .int 0, .int 0]) (fun j hj => by rcases (show j = 0 ∨ j = 1 ∨ j = 2 ∨ j = 3 ∨ j = 4 ∨ j = 5 ∨ j = 6 ∨ j = 7 ∨ j = 8 ∨ j = 9 ∨ j = 10 ∨ j = 11 ∨ j = 12 ∨ j = 13 by omega) with rfl | rfl | rfl | rfl | rfl | rfl | rfl | rfl | rfl | rfl | rfl | rfl | rfl | rfl <;> rfl) (Nat.le_of_ble_eq_true rfl) (Nat.le_of_ble_eq_true rfl) d_law_0 (fun qb H hP hD hS => ?_)
    refine lv_dup hx hb d_law_3 rfl ?_
    refine hk_goN (hk_kI (k := 0) (As := []) (rest := [.ref qb]) (wc := [(qb, .inr (4, [.null, .null, .null, .null, .null, .null, .null, .null, .int 0, .int 0, .int 0, .int 0, .int 0, .int 0]))]) C (c_B_init l G qb _) Y_B_init (hk_in (by decide +kernel) rfl) rfl rfl ⟨Nat.le_of_ble_eq_true rfl, Nat.le_of_ble_eq_true rfl⟩ (hP.sub (ws' := [(qb, .inr (4, [.null, .null, .null, .null, .null, .null, .null, .null, .int 0, .int 0, .int 0, .int 0, .int 0, .int 0]))]) [0] rfl) (hD.sub (ws' := [(qb, .inr (4, [.null, .null, .null, .null, .null, .null, .null, .null, .int 0, .int 0, .int 0, .int 0, .int 0, .int 0]))]) [0] (by decide) rfl) rfl hl.1 rfl (Nat.le_of_ble_eq_true rfl) d_law_4 ⟨Nat.le_of_ble_eq_true rfl, Nat.le_of_ble_eq_true rfl⟩) hP hD hS hA [0] [] rfl rfl (by decide) (by decide) (fun fb H locs hP hD hS => ?_)
    have hP : va_P (hk_D G) classes (wB G (hk_ad qb fb) x0_B) H := hP
    have hD : va_D (lw_A s) (wB G (hk_ad qb fb) x0_B) := hD
    refine lv_astore_n (lv' := [(1, .ref qb), (0, .ref b)]) hx hb d_law_7 rfl hl (by decide) rfl (fun ls hl => ?_)
    refine hk_new C 5 i_M t_M_ok (hk_in (by decide +kernel) rfl) (hk_in (by decide +kernel) rfl) (hk_in (by decide +kernel) rfl) hP hD hS hA rfl (fs := [.int 0, .null, .int 0, .int 0, .int 0, .int 0, .int 0, .null, .null, .null, .null, .int 0, .int 0, .int 0, .int 0, .null, .null, .null, .int 0, .null, .null, .null, .int 0, .int 0, .null, .null]) (fun j hj => by rcases (show j = 0 ∨ j = 1 ∨ j = 2 ∨ j = 3 ∨ j = 4 ∨ j = 5 ∨ j = 6 ∨ j = 7 ∨ j = 8 ∨ j = 9 ∨ j = 10 ∨ j = 11 ∨ j = 12 ∨ j = 13 ∨ j = 14 ∨ j = 15 ∨ j = 16 ∨ j = 17 ∨ j = 18 ∨ j = 19 ∨ j = 20 ∨ j = 21 ∨ j = 22 ∨ j = 23 ∨ j = 24 ∨ j = 25 by omega) with rfl | rfl | rfl | rfl | rfl | rfl | rfl | rfl | rfl | rfl | rfl | rfl | rfl | rfl | rfl | rfl | rfl | rfl | rfl | rfl | rfl | rfl | rfl | rfl | rfl | rfl <;> rfl) (Nat.le_of_ble_eq_true rfl) (Nat.le_of_ble_eq_true rfl) d_law_8 (fun qm H hP hD hS => ?_)
    refine lv_dup hx hb d_law_11 rfl ?_
    refine hk_goN (hk_kI (k := 0) (As := []) (rest := [.ref qm]) (wc := [(qm, .inr (5, [.int 0, .null, .int 0, .int 0, .int 0, .int 0, .int 0, .null, .null, .null, .null, .int 0, .int 0, .int 0, .int 0, .null, .null, .null, .int 0, .null, .null, .null, .int 0, .int 0, .null, .null]))]) C (c_M_init l G qm _) Y_M_init (hk_in (by decide +kernel) rfl) rfl rfl ⟨Nat.le_of_ble_eq_true rfl, Nat.le_of_ble_eq_true rfl⟩ (hP.sub (ws' := [(qm, .inr (5, [.int 0, .null, .int 0, .int 0, .int 0, .int 0, .int 0, .null, .null, .null, .null, .int 0, .int 0, .int 0, .int 0, .null, .null, .null, .int 0, .null, .null, .null, .int 0, .int 0, .null, .null]))]) [22] rfl) (hD.sub (ws' := [(qm, .inr (5, [.int 0, .null, .int 0, .int 0, .int 0, .int 0, .int 0, .null, .null, .null, .null, .int 0, .int 0, .int 0, .int 0, .null, .null, .null, .int 0, .null, .null, .null, .int 0, .int 0, .null, .null]))]) [22] (by decide) rfl) rfl hl.1 rfl (Nat.le_of_ble_eq_true rfl) d_law_12 ⟨Nat.le_of_ble_eq_true rfl, Nat.le_of_ble_eq_true rfl⟩) hP hD hS hA [22] [0, 1, 2, 3, 4, 5, 6, 7, 8, 9, 10, 11, 12, 13, 14, 15, 16, 17, 18, 19, 20, 21] rfl rfl (by decide) (by decide) (fun fm H locs hP hD hS => ?_)
    have hP : va_P (hk_D G) classes (wB G (hk_ad qb fb) x0_B ++ wM G (hk_ad qm fm) x0_M) H := hP
    have hD : va_D (lw_A s) (wB G (hk_ad qb fb) x0_B ++ wM G (hk_ad qm fm) x0_M) := hD
    refine lv_astore_n (lv' := [(2, .ref qm), (1, .ref qb), (0, .ref b)]) hx hb d_law_15 rfl hl (by decide) rfl (fun ls hl => ?_)
    refine lv_iconst (v := (1 : Int32)) hx hb d_law_16 (by decide) ?_
    refine hk_newL C (hk_in (by decide +kernel) rfl) hP hD hS hA 5 rfl (N := 1) (by decide) (by decide) (by decide) (Nat.le_of_ble_eq_true rfl) (Nat.le_of_ble_eq_true rfl) d_law_17 (fun q H hP hD hS => ?_)
    have hP : va_P (hk_D G) classes (wW G (hk_ad qb fb) (hk_ad qm fm) q x0_B x0_M (fun _ => 0)) H := by
      rw [List.append_assoc] at hP
      exact hP
    have hD : va_D (lw_A s) (wW G (hk_ad qb fb) (hk_ad qm fm) q x0_B x0_M (fun _ => 0)) := by
      rw [List.append_assoc] at hD
      exact hD
    refine lv_astore_n (lv' := [(3, .ref q), (2, .ref qm), (1, .ref qb), (0, .ref b)]) hx hb d_law_19 rfl hl (by decide) rfl (fun ls hl => ?_)
    refine lv_iconst (v := (0 : Int32)) hx hb d_law_20 (by decide) ?_
    refine lv_istore (lv' := [(4, .int 0), (3, .ref q), (2, .ref qm), (1, .ref qb), (0, .ref b)]) hx hb d_law_21 hl (by decide) rfl (fun ls hl => ?_)
    refine W.widen (k := 100 + 0) (n := 400 + 6 * 0) (Nat.le_of_ble_eq_true rfl) (Nat.le_of_ble_eq_true rfl) ?_
    exact law_loop K hL (L + 1) 0 (Nat.zero_le L) (by omega) x0_B x0_M (fun _ => 0) H locs ls r_zero hP hD hS hl
  exact key _ (lv_entry [.ref b] (Nat.le_of_ble_eq_true rfl))
set_option maxHeartbeats 4000000 in
theorem lw_walk (l : Launch) (hfl : l.flags = flags0) (b : Addr) (xs : List Int32) : MetFree l x (headSpec (Jvm.Cond.code x code maxLocals ret :: tables_1) room_1) (lw_P b xs) (fun _ _ _ _ _ => True) lw_Q := by
  refine MetFree.of_bodyS (code := code) (maxLocals := maxLocals) (ret := ret) (by decide) ?_ ?_
  · intro args s m h hn
    obtain ⟨meth, c, h1, h2, h3, h4, h5, h6, -, -⟩ := Cond.code_spec hn (atoms_spec (ws := Jvm.Cond.code x code maxLocals ret :: tables_1) h _ List.mem_cons_self)
    exact ⟨meth, c, h1, h2, h3, h4, h5, h6⟩
  · intro p e s m args below meth c s₁ B hml0 hP _
    obtain ⟨rfl, hx, hbd, hgv⟩ := hP
    obtain ⟨scr, harrAt, hlist, hof, hsmall⟩ := hx
    obtain ⟨hcb, hkn, -, -⟩ := State.arrayAt?_spec harrAt
    have hown : s.vm.findClass R_law = some m.cls := findClass_of_methodNamed B.named
    have hts0 : ∀ c ∈ (Jvm.Cond.code x code maxLocals ret :: tables_1), c.before #[Value.ref b] s = true := atoms_spec (ws := Jvm.Cond.code x code maxLocals ret :: tables_1) B.pre
    have hts : ∀ w ∈ lw_tbl, w.before #[Value.ref b] s = true := k2_hts_sels lw_privs (fun w hw => hts0 w (List.mem_cons_of_mem _ hw)) lw_privs_ok
    have hml : c.maxLocals = 7 := B.maxLocals_eq (hts0 _ List.mem_cons_self)
    have X₀ : Stand p l e room_1 s m #[Value.ref b] below meth c s₁ [] 0 0 := Stand.of_body B
    have hh0 : s₁.heap = s.heap := by rw [B.state]; rfl
    have hsz : scr.slots.size = xs.length := by rw [← Array.length_toList, hlist, List.length_map]
    have hval : ∀ j : Nat, j < xs.length → scr.slots[j]? = some (.int (xs.getD j 0)) := fun j hj => by
      rw [← Array.getElem?_toList, hlist]
      simp [hj]
    have hbl : b < s.heap.size := (Array.getElem?_eq_some_iff.mp hcb).1
    have hX : va_X b xs.length (fun j => xs.getD j 0) s s.heap := ⟨scr, hcb, hof, hkn, hsz, hval⟩
    have K : W p l e room_1 s m #[Value.ref b] below meth c s₁.heap [] 0 0 (lw_Z below #[Value.ref b] s) (entryFrame m ([Value.ref b] : List Value).toArray 7) := by
      rw [hh0]
      exact whole_start l hfl hbd ⟨B.exec, B.bytes, B.returns, hml, hown, hts, hX, hbl, B.notSynchronized, hgv⟩
    obtain ⟨t, a1, o, b1, b2, b3⟩ := K s₁ rfl X₀
    exact ⟨t, o, a1, b1, b2, b3⟩
theorem lw_pre_spec {args : Array Value} {s : State} (h : (Jvm.Cond.and given_1 narrow_1).before args s = true) (hr : rest_1_c.before args s = true) : ∃ (b : Addr) (xs : List Int32), lw_P b xs args s := by
  have hs := flat_of_before _ h
  have hq := flat_of_before _ hr
  have hc : (Cond.count 1).before args s = true := hs _ (by decide +kernel)
  have harr : (Cond.arrayOf (.arg 0) .int).before args s = true := hs _ (by decide +kernel)
  have hle : (Cond.le (.length (.arg 0)) (.int 2048)).before args s = true := hs _ (by decide +kernel)
  have hlen : (Cond.isInt (.length (.arg 0))).before args s = true := hq _ (by decide +kernel)
  have hall : (Cond.all (.arg 0) (.isInt (.elem (.arg 0) (.index 0)))).before args s = true := hq _ (by decide +kernel)
  obtain ⟨b, xs, hb, hx⟩ := State.ints_of_pre rfl harr hlen hall
  have hsm : xs.length < 2 ^ 31 := hx.choose_spec.2.2.2
  have hev : (Term.length (.arg 0)).eval args s none [] s = some (.int xs.length.toInt32) := hx.length_eval hb
  have hv := Cond.le_ints hev (show (Term.int 2048).eval args s none [] s = some (.int 2048) from rfl)
  have hd : xs.length.toInt32 ≤ 2048 := by
    simpa [Cond.before, Cond.holds, hv] using hle
  have hN : xs.length ≤ 2048 := (Int32.ofNat_le_ofNat hsm (by decide)).mp (show Int32.ofNat xs.length ≤ Int32.ofNat 2048 from hd)
  exact ⟨b, xs, Cond.one_arg hc (show args[0]? = some (.ref b) from hb), hx, hN, h⟩
theorem lw_comes (l : Launch) (hfl : l.flags = flags0) : Comes l x (Jvm.Cond.code x code maxLocals ret :: tables_1) room_1 (fun tb e args s => Calls_1 tb e args s ∧ rest_1 tb e args s ∧ Pre_1 tb e args s)
    (fun _ _ args s o t => lw_Q args s o t) := by
  intro p e ha hc hk s m args below hf hfit hheap happ hpre
  obtain ⟨b, xs, hP⟩ := lw_pre_spec hpre.2.2 hpre.2.1
  obtain ⟨k, o, h1, h2, h3, hQ⟩ := lw_walk l hfl b xs p e ha hc hk s m args below hf ((Spec.applies_iff_loose hf).mp happ).1 hP trivial
  exact ⟨k, o, h1, h2, h3, hQ⟩
theorem lw_frame {s t : State} {o : Outcome} {args : Array Value} (h : Framed s o t [] 674747 7071862) :
    Framed s o t (fieldLocs frame_1_writes args s ++ arrayLocs frame_1_arrays args s ++ staticLocs frame_1_statics s) 674747 7071862 := h
theorem lw_limb (L : Cond) (hL : ∀ (args : Array Value) (s t : State), L.after args s (.returned (some (.int 1))) t = true) :
    ArmFor flags0 classFile x code maxLocals ret World_1 tables_1 room_1 Calls_1 rest_1 Pre_1
      (fun tb e a s o t => postC L tb e a s o t ∧ Framed s o t (fieldLocs frame_1_writes a s ++ arrayLocs frame_1_arrays a s ++ staticLocs frame_1_statics s) 674747 7071862) := by
  intro l hfl _ _ p e ha hc hk s m args below hf hfit hheap happ hpre
  obtain ⟨k, o, h1, h2, h3, rfl, hF⟩ := lw_comes l hfl p e ha hc hk s m args below hf hfit hheap happ hpre
  exact ⟨k, _, h1, h2, h3, hL args s _, lw_frame hF⟩
theorem i_vc : Claimed_1_1 ∧ Claimed_1_2 := ⟨lw_limb limb_1_1 (fun args s t => by simp [limb_1_1, Cond.after, Cond.holds, Cond.value]), lw_limb limb_1_2 (fun args s t => Cond.after_iff.mpr (by
  first | (rw [show limb_1_2 = Cond.eq .result (.int 1) from rfl, Cond.eq_ints (x := 1) (y := 1) rfl rfl]; simp; done) | (simp [limb_1_2, Cond.value, Term.eval]; done)))⟩
