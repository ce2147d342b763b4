/-! THROW: BodyRows2.output throws, the law's own output catches -/
def xN : String := "java/lang/IndexOutOfBoundsException"
def xUp : List String := ["java/lang/RuntimeException", "java/lang/Exception"]
def tw0 : List Cond := Bundle.ownAtoms R_B 84 xN xUp ++ [Cond.classLink R_B 80 xN, Cond.initialized xN]
def twS : Cond := Cond.stringRef R_B 82 "there is no such output"
def hk_T (U : State) : Prop := (∀ w ∈ tw0, w.before #[] U = true) ∧ twS.before #[] U = true
theorem tw0_r : tw0.all Cond.ridesK = true := by decide +kernel
theorem hk_T.words {s U : State} (hW : s.WarmedH U.vm) (hk : Jvm.Free.StaticsKept s U) (h : hk_T s) (a : Array Value) : ∀ w ∈ tw0, w.before a U = true := Jvm.Free.rideK_all hW hk tw0_r h.1
theorem twS_at {s U : State} (hW : s.WarmedH U.vm) (h : twS.before #[] s = true) (a : Array Value) : twS.before a U = true := by
  have h1 := Cond.stringRef_warmed (args := #[]) hW h
  exact h1
theorem hk_T.ride {s U : State} (hW : s.WarmedH U.vm) (hk : Jvm.Free.StaticsKept s U) (h : hk_T s) : hk_T U := ⟨h.words hW hk #[], twS_at hW h.2 #[]⟩
theorem kept_rfl {s U : State} (h : U.heap = s.heap) : Jvm.Free.StaticsKept s U := fun _ _ q _ => by rw [h]; exact q
theorem kept_of_same {s t : State} {c n : Nat} (h : s.sameButNew t [] c n) : ∀ q : Nat, q < s.heap.size → t.heap[q]? = s.heap[q]? := by
  obtain ⟨-, -, -, -, -, h6⟩ := h
  intro q hq
  obtain ⟨c0, hc⟩ : ∃ c0, s.heap[q]? = some c0 := ⟨_, Array.getElem?_eq_getElem hq⟩
  obtain ⟨c1, h1, h2, h3, h4⟩ := h6 q c0 hc
  have e : c1.slots = c0.slots := Array.ext_getElem? (fun i => h4 i (by simp))
  rw [h1, hc, h2, e]
/-- what the throwing call leaves -/
def QX (_ : Array Value) (st : State) (o : Outcome) (t : State) : Prop :=
  (∃ (x : Nat) (ce : Cell), o = .threw x ∧ t.heap[x]? = some ce ∧ ce.vm.isStatics = false ∧ st.vm.findClass xN = some ce.cls ∧ st.vm.assignable ce.cls ce.cls = true) ∧ (∀ q : Nat, q < st.heap.size → t.heap[q]? = st.heap[q]?) ∧ Jvm.Free.FrameEndT st o t [] 1 6
abbrev rmX : Room := { frames := 6, cells := 1, slots := 6, locals := 100 }
theorem flags_off {l : Launch} {e : Env} (hf : l.flags = flags0) (ha : l.admits e) : e.platform.stackTraces = false := Launch.traces_off (hf.trans rfl) ha
set_option maxHeartbeats 4000000 in
set_option maxRecDepth 100000 in
theorem c_B_outputX (l : Launch) (hfl : l.flags = flags0) (G : hk_G) (ad : Nat → Nat) (u : cB) (p1 : Int32) (hp : m_B_isBelow p1 10 = 0) (w : va_W) (sz : Nat) :
    MetFree l y_B_output (headSpec (Cond.code y_B_output b_B_output 2 (some .int) :: hk_w) rmX) (va_Pc [.ref (ad 0), .int p1] (fun U => hk_P G w sz U ∧ hk_T U)) (fun _ _ _ _ _ => True) QX := by
  refine MetFree.of_bodyS (code := b_B_output) (maxLocals := 2) (ret := some .int) (by decide) ?_ ?_
  · intro args s m h hn
    obtain ⟨meth, c, h1, h2, h3, h4, h5, h6, -, -⟩ := Cond.code_spec hn (atoms_spec (ws := Cond.code y_B_output b_B_output 2 (some .int) :: hk_w) h _ List.mem_cons_self)
    exact ⟨meth, c, h1, h2, h3, h4, h5, h6⟩
  · intro p e s m args below meth c s₁ B hml hP _
    have hh0 : s₁.heap = s.heap := by rw [B.state]; rfl
    obtain ⟨rfl, ⟨hsz, hPw, hE, hD0⟩, hT⟩ := hP
    have hts0 := atoms_spec (ws := Cond.code y_B_output b_B_output 2 (some .int) :: hk_w) B.pre
    have C : hk_C p s m meth c R_B b_B_output 2 (some .int) ([.ref (ad 0), .int p1] : List Value).toArray G := ⟨B.exec, B.bytes, B.returns, hml, findClass_of_methodNamed B.named, fun w h => hts0 w (List.mem_cons_of_mem _ h), B.notSynchronized, hE⟩
    have hx := C.1
    have hb := C.2.1
    have hno := B.noHandlers (hts0 _ List.mem_cons_self)
    have key : ∀ ls : Array Slot, lv_has ls 2 [(0, .ref (ad 0)), (1, .int p1)] → W p l e rmX s m ([.ref (ad 0), .int p1] : List Value).toArray below meth c s.heap [] 0 0 (fun t => ∃ o, t.status = .running ∧ Ended t below o ∧ QX ([.ref (ad 0), .int p1] : List Value).toArray s o t) (F0 m 0 ls []) := by
      intro ls hl
      refine lv_iload_n hx hb d_B_output_0 rfl (lv_at hl 1 rfl) ?_
      refine lv_bipush (v := (10 : Int32)) hx hb d_B_output_1 (by decide) ?_
      refine hk_goIe (A := fun q => s.heap.size ≤ q) (H0 := s.heap) (hk_kS (k := 2) (As := [.int p1, .int (10 : Int32)]) (rest := []) C (c_B_isBelow l G p1 (10 : Int32) _) Y_B_isBelow (hk_in (by decide +kernel) rfl) rfl rfl ⟨Nat.le_of_ble_eq_true rfl, Nat.le_of_ble_eq_true rfl⟩ hk_Pn (hk_Dn (A := fun q => s.heap.size ≤ q)) rfl hl.1 rfl (Nat.le_of_ble_eq_true rfl) d_B_output_3 ⟨Nat.zero_le _, Nat.zero_le _⟩) hPw va_S.rf (fun _ h => h) (fun H locs hP hS => ?_)
      refine lv_if_ne (tgt := 19) hx hb d_B_output_6 (by decide) (fun c_1 => absurd hp c_1) (fun c_1 => ?_)
      intro T hTh X
      have hw := hT.words (State.WarmedH.refl s) (kept_rfl rfl) ([.ref (ad 0), .int p1] : List Value).toArray
      have htr : e.platform.stackTraces = false := flags_off hfl X.admits
      obtain ⟨vm₁, cX, kX, hfX, hkX, -, -, X₁, st1⟩ := X.newCold hx (own := R_B) (C := xN) (index := 80) (n := 6) C.2.2.2.2.1 (hw _ (by decide +kernel)) (hw _ (by decide +kernel)) (hw _ (by decide +kernel))
        (g := F0 m 9 ls []) rfl (by rw [hb]; exact d_B_output_9) (by decide) (by decide)
      generalize hT2 : (T.setVm vm₁).pushCell { cls := cX, slots := kX.instanceTypes.map defaultValue, vm := .none } = T2 at X₁ st1
      have hcellA : T2.heap[T.heap.size]? = some (freshCell cX kX) := by rw [← hT2]; exact State.heap_pushCell_size _ _
      have hconst : (Cond.stringRef R_B 82 "there is no such output").before ([.ref (ad 0), .int p1] : List Value).toArray s = true := twS_at (State.WarmedH.refl s) hT.2 _
      obtain ⟨-, -, -, sa, -, -, -, -, -, hev⟩ := Cond.stringRef_spec C.2.2.2.2.1 hconst
      obtain ⟨U, hsteps, hrun, hend, hW, hsame, ce, hce, K⟩ := X₁.ctorThrowS hx htr (own := R_B) (cls := xN) (names := xUp) (ic := 84) C.2.2.2.2.1 (by decide +kernel) (by decide +kernel)
        (fun y hy => hw y (List.mem_append_left _ hy)) (fun y hy cell hc => absurd (hS.2.2 y hy) (Nat.not_le.mpr (Array.getElem?_eq_some_iff.mp hc).1)) hfX hkX hcellA (by rw [hTh]; exact hS.1) (msg := .ref sa) rfl
        (g := F0 m 15 ls [.ref sa, .ref T.heap.size, .ref T.heap.size]) rfl (hl.1.trans hml.symm) rfl rfl (rest := []) rfl
        (by rw [hb]; exact d_B_output_15) (by rw [hb]; exact d_B_output_18) (covers_of_empty hno _) (by decide) (Nat.le_of_ble_eq_true rfl) C.2.2.2.2.2.2.1
      refine ⟨U, ?_, .threw T.heap.size, hrun, hend, ⟨T.heap.size, ce, rfl, hce, by rw [K.vm]; rfl, K.cls, K.self⟩, ?_, ⟨_, rfl⟩, hW, ?_⟩
      · refine st1 _ ?_
        show Steps p.tables e below (T2.setTop { method := m, pc := 12, locals := ls, stack := [.ref T.heap.size], locked := none }) _
        jvm_step X₁.here [X₁.here.top, hx, hb, d_B_output_12, Value.category]
        exact X₁.ldcString hx (own := R_B) (text := "there is no such output") (index := 82) (a := sa) C.2.2.2.2.1 hconst hev (g := F0 m 13 ls [.ref T.heap.size, .ref T.heap.size]) rfl (by rw [hb]; exact d_B_output_13) _ hsteps
      · exact kept_of_same (t := ({ U with vm := s.vm } : State)) (hsame.weaken (fun y hy hlt => absurd (hS.2.2 y hy) (Nat.not_le.mpr hlt)) (Nat.le_refl _) (Nat.le_refl _))
      · exact hsame.weaken (fun y hy hlt => absurd (hS.2.2 y hy) (Nat.not_le.mpr hlt)) (Nat.le_refl _) (Nat.le_refl _)
    have walk := key _ (lv_entry [.ref (ad 0), .int p1] (Nat.le_of_ble_eq_true rfl))
    rw [← lg_entry_eq] at walk
    obtain ⟨t, a1, o, b1, b2, b3⟩ := walk s₁ hh0 (Stand.of_body B)
    exact ⟨t, o, a1, b1, b2, b3⟩
section HKX
variable {p : Program} {l : Launch} {e : Env} {R : Room} {s : State} {m : MethodId} {args : Array Value} {below : List Frame} {meth : Method} {c : Code} {T : State} {locs : List Loc} {cells slots : Nat}
theorem callVX (X : Stand p l e R s m args below meth c T locs cells slots) (hexec : p.tables.exec = Jvm.exec) {own C : String} {index : Nat} {y : MethodName} {bytes : ByteArray} {maxL : Nat} {ret : Option FieldType}
    (hown : s.vm.findClass own = some m.cls) (hlink : (Cond.methodLink own index y).before args s = true) (hinst : (Cond.instanceMethod y).before args s = true) (hsel : (Cond.selects C y y).before args s = true)
    (hcode : (Cond.code y bytes maxL ret).before args s = true) (hy : y.cls ≠ "java/lang/invoke/MethodHandle" ∧ y.cls ≠ "java/lang/invoke/VarHandle")
    {W : Nat} {Pre : Pt → Array Value → Prop} {Post : Pt → Array Value → Addr → Pt → Prop} (hK : Jvm.Free.BackT l R p e below s args y 3 W Pre Post)
    {b : Addr} {cellB : Cell} (hcell : T.heap[b]? = some cellB) (hobj : cellB.vm.isStatics = false) (hcls : s.vm.findClass C = some cellB.cls)
    {g : JFrame} (hg : g.method = m) (hsize : g.locals.size = c.maxLocals) {argsL rest : List Value} (hlen : ∀ sig, parseMethodDescriptor y.desc = some sig → argsL.length = sig.parameters.length)
    (hstack : g.stack = argsL.reverse ++ .ref b :: rest) (hW : 2 * g.monitorRoom + (rest.map fun v => v.category).sum ≤ W) (hdg : decode c.code g.pc = .ok (.invokevirtual index, 3))
    (hpre : ∀ vm₁, s.WarmedH vm₁ → Pre ⟨T.setVm vm₁, locs, cells, slots⟩ (Value.ref b :: argsL).toArray) :
    ∃ (v : Addr) (vm₁ : Vm) (B : Pt), s.WarmedH vm₁ ∧ Stand p l e R s m args below meth c B.U B.locs B.cells B.slots ∧ Post ⟨T.setVm vm₁, locs, cells, slots⟩ (Value.ref b :: argsL).toArray v B ∧
      Steps p.tables e below (T.setTop g) ((B.U.setTop { g with stack := rest }).pushFrame (.throwing v)) := by
  obtain ⟨mk, methM, hnamed, hmethM, hstM, habM⟩ := Cond.instanceMethod_spec hinst
  obtain ⟨methM', cM, hmethM', -, -, -, -, -, -, hsigM⟩ := Cond.code_spec hnamed hcode
  cases hmethM.symm.trans hmethM'
  obtain ⟨c2, r2, m2, q1, q2, q3, q4, kP, hkP, hkPi⟩ := Cond.selects_spec hsel
  cases hcls.symm.trans q1
  cases (State.methodFound?_of_named hnamed hy).symm.trans q2
  cases hnamed.symm.trans q3
  have hselP : selectMethod e.platform s.vm cellB.cls mk = .method mk := by rw [Launch.admits_selectMethod X.admits]; exact q4
  obtain ⟨vm₁, X₁, hstep₁⟩ := X.invokevirtual hexec hown hlink hnamed hmethM hstM hkP hkPi hy (a := b) (cell := cellB) hcell
    (fun z h => by rw [h] at hobj; cases hobj) hselP hmethM habM hkP hkPi (g := g) hg (argsL := argsL) (rest := rest) (hlen _ hsigM) hstack hdg
  obtain ⟨v, B, X', hpost, hsteps⟩ := hK m meth c ⟨T.setVm vm₁, locs, cells, slots⟩ { g with stack := rest } (.invokevirtual index) mk (Value.ref b :: argsL).toArray X₁ hg hsize hdg hW (X₁.named hnamed) (hpre vm₁ X₁.warmed)
  exact ⟨v, vm₁, B, X₁.warmed, X', hpost, hstep₁ _ fun acts => by rw [doInvoke_state]; exact hsteps⟩
theorem callSW (X : Stand p l e R s m args below meth c T locs cells slots) (hexec : p.tables.exec = Jvm.exec) {own : String} {index : Nat} {y : MethodName} {bytes : ByteArray} {maxL : Nat} {ret : Option FieldType} {hh : List (Nat × Nat × Nat × Nat)}
    (hown : s.vm.findClass own = some m.cls) (hlink : (Cond.methodLink own index y).before args s = true) (hstat : (Cond.static y).before args s = true) (hinit : (Cond.initialized y.cls).before args s = true)
    (hcode : (Cond.codeWith y bytes maxL ret hh).before args s = true) (hy : y.cls ≠ "java/lang/invoke/MethodHandle" ∧ y.cls ≠ "java/lang/invoke/VarHandle")
    {W : Nat} {Pre : Pt → Array Value → Prop} {Post : Pt → Array Value → Option Value → Pt → Prop} (hK : Back l R p e below s args y 3 W Pre Post)
    {g : JFrame} (hg : g.method = m) (hsize : g.locals.size = c.maxLocals) {argsL rest : List Value} (hlen : ∀ sig, parseMethodDescriptor y.desc = some sig → argsL.length = sig.parameters.length)
    (hstack : g.stack = argsL.reverse ++ rest) (hW : 2 * g.monitorRoom + (rest.map fun v => v.category).sum ≤ W) (hdg : decode c.code g.pc = .ok (.invokestatic index, 3))
    (hpre : ∀ vm₁, s.WarmedH vm₁ → Pre ⟨T.setVm vm₁, locs, cells, slots⟩ argsL.toArray) :
    ∃ (v : Option Value) (vm₁ : Vm) (B : Pt), s.WarmedH vm₁ ∧ Stand p l e R s m args below meth c B.U B.locs B.cells B.slots ∧ Post ⟨T.setVm vm₁, locs, cells, slots⟩ argsL.toArray v B ∧
      ∀ target, Steps p.tables e below (B.U.setTop { g with pc := g.pc + 3, stack := v.toList ++ rest }) target → Steps p.tables e below (T.setTop g) target := by
  obtain ⟨mk, methM, cM, hnamed, hmethM, -, -, -, -, -, -, hsigM⟩ := Cond.codeWith_spec hcode
  have hstatic : methM.isStatic = true := Cond.static_spec hnamed hmethM hstat
  obtain ⟨kP, hkP, -⟩ := className_of_methodNamed hnamed
  have hinitP : kP.init = .initialized := Cond.initialized_spec (findClass_of_methodNamed hnamed) hkP hinit
  obtain ⟨vm₁, X₁, hstep₁⟩ := X.invokestatic hexec hown hlink hnamed hmethM hstatic hkP hinitP hy (g := g) hg (argsL := argsL) (rest := rest) (hlen _ hsigM) hstack hdg
  obtain ⟨v, B, X', hpost, hsteps⟩ := hK m meth c ⟨T.setVm vm₁, locs, cells, slots⟩ { g with stack := rest } (.invokestatic index) mk argsL.toArray X₁ hg hsize hdg hW (X₁.named hnamed) (hpre vm₁ X₁.warmed)
  exact ⟨v, vm₁, B, X₁.warmed, X', hpost, fun target h => hstep₁ _ fun acts => by rw [doInvoke_state]; exact hsteps.trans h⟩
end HKX
/-! the law's own output -/
def R_LW : String := "BodyRows2Law"
abbrev b_LO : ByteArray := method_3_code
def y_LO : MethodName := ⟨R_LW, "output", "(LBodyRows2;I[J)I"⟩
theorem d_LO_0 : decode b_LO 0 = .ok (.aload_n 2, 1) := by decide +kernel
theorem d_LO_1 : decode b_LO 1 = .ok (.iconst 0, 1) := by decide +kernel
theorem d_LO_2 : decode b_LO 2 = .ok (.aload_n 0, 1) := by decide +kernel
theorem d_LO_3 : decode b_LO 3 = .ok (.iload_n 1, 1) := by decide +kernel
theorem d_LO_4 : decode b_LO 4 = .ok (.invokevirtual 7, 3) := by decide +kernel
theorem d_LO_7 : decode b_LO 7 = .ok (.i2l, 1) := by decide +kernel
theorem d_LO_8 : decode b_LO 8 = .ok (.lastore, 1) := by decide +kernel
theorem d_LO_9 : decode b_LO 9 = .ok (.goto 6, 3) := by decide +kernel
theorem d_LO_12 : decode b_LO 12 = .ok (.astore_n 3, 1) := by decide +kernel
theorem d_LO_13 : decode b_LO 13 = .ok (.iconst 1, 1) := by decide +kernel
theorem d_LO_14 : decode b_LO 14 = .ok (.ireturn, 1) := by decide +kernel
theorem d_LO_15 : decode b_LO 15 = .ok (.iconst 0, 1) := by decide +kernel
theorem d_LO_16 : decode b_LO 16 = .ok (.ireturn, 1) := by decide +kernel
def hLO : List (Nat × Nat × Nat × Nat) := [((0 : Nat), (9 : Nat), (12 : Nat), (13 : Nat))]
def wO (G : hk_G) (ad : Nat → Nat) (q : Nat) (u : cB) (lo : Nat → Int64) : va_W := wB G ad u ++ [(q, .inl (G.2.2 5, 1, .inr (.inl lo)))]
def rO (p1 : Int32) : Int32 := if m_B_isBelow p1 10 = 0 then 1 else 0
def lO (p1 : Int32) (u : cB) (lo : Nat → Int64) : Nat → Int64 := if m_B_isBelow p1 10 = 0 then lo else vp_updL lo 0 (m_B_outputNow p1 u).toInt64
abbrev rmO : Room := { frames := 7, cells := 1, slots := 6, locals := 121 }
def PcO (G : hk_G) (av : List Value) (w : va_W) (sz : Nat) : Array Value → State → Prop := va_Pc av (fun U => hk_P G w sz U ∧ hk_T U)
theorem PcO.blind {G : hk_G} {av : List Value} {w : va_W} {sz : Nat} : FrameBlind (PcO G av w sz) := by
  intro a U g mk h
  obtain ⟨h1, h2, h3⟩ := h
  refine ⟨h1, ?_, hk_T.ride (s := U) (U := U.calling g mk a) (State.WarmedH.refl U) (kept_rfl rfl) h3⟩
  exact ((hk_blind (G := G) (av := av) (w0 := w) (sz := sz)) a U g mk ⟨h1, h2⟩).2
theorem m_out_def {p1 : Int32} {u : cB} (h : ¬ m_B_isBelow p1 10 = 0) : m_B_output p1 u = m_B_outputNow p1 u := (if_neg h).trans rfl
/-- a call of output that throws, caught at 12 -/
theorem hk_thrown {p : Program} {l : Launch} {e : Env} {s : State} {m : MethodId} {args : Array Value} {below : List Frame} {meth : Method} {c : Code} {Q : State → Prop} {G : hk_G} {ad : Nat → Nat} {u : cB} {p1 : Int32} {w : va_W} {rest : List Value} {ls : Array Slot} {ret : Option FieldType}
    (hfl : l.flags = flags0) (C : hk_C p s m meth c R_LW b_LO 4 ret args G) (hT : hk_T s) (hp : m_B_isBelow p1 10 = 0) (hP : va_P (hk_D G) classes w s.heap) (hD : va_D (fun _ => True) w)
    (hrv : ∃ cell : Cell, s.heap[ad 0]? = some cell ∧ cell.vm.isStatics = false ∧ s.vm.findClass R_B = some cell.cls)
    (hex : ∃ x : ExceptionTableEntry, c.exceptionTable.toList = [x] ∧ x.startPc = 0 ∧ x.endPc = 9 ∧ x.handlerPc = 12 ∧ x.catchType = 13)
    (hls : ls.size = 4) (hrm : (rest.map fun v => v.category).sum ≤ 8)
    (kk : ∀ (H : Heap) (v : Nat), s.heap.size ≤ H.size → (∀ q : Nat, q < s.heap.size → H[q]? = s.heap[q]?) → W p l e rmO s m args below meth c H [] 1 6 Q (F0 m 12 ls [.ref v])) :
    W p l e rmO s m args below meth c s.heap [] 0 0 Q (F0 m 4 ls (.int p1 :: .ref (ad 0) :: rest)) := by
  intro T hTh X
  have hx := C.1
  have hb := C.2.1
  have hts := C.2.2.2.2.2.1
  have hM := c_B_outputX l hfl G ad u p1 hp w s.heap.size
  obtain ⟨hy1, hy2, hy3, hy4, hy5⟩ := Y_B_output
  have hK : Jvm.Free.BackT l rmO p e below s args y_B_output 3 8 (PreOf rmO 1 6 (PcO G [.ref (ad 0), .int p1] w s.heap.size))
      (fun A a v B => ∃ (g : JFrame) (mk : MethodId) (t : State), B.U.heap = t.heap ∧ B.U.vm = t.vm ∧ QX a (A.U.calling g mk a) (.threw v) t ∧ B.locs = A.locs ∧ B.cells = A.cells + 1 ∧ B.slots = A.slots + 6) := by
    refine Jvm.Free.BackT.of_free (S := headSpec (Cond.code y_B_output b_B_output 2 (some .int) :: hk_w) rmX) (P := PcO G [.ref (ad 0), .int p1] w s.heap.size) (K := fun _ _ _ _ _ => True) (Q := QX) (bytes := b_B_output) (maxL := 2) (ret := some .int)
      (E := fun a st o t L k n => L = [] ∧ k = 1 ∧ n = 6) hM (by decide) (by decide) ?_ ?_ (fun _ _ _ _ _ _ _ _ _ => trivial) ?_ ?_
    · intro m' meth' c' A a X' hp'
      have hw : ∀ w' ∈ hk_w, w'.before a A.U = true := fun w' h' => word_at X'.warmed (good_of_word (List.mem_filter.mp h').2) (hts w' h')
      exact ⟨atoms_intro fun w' hw' => by
        rcases List.mem_cons.mp hw' with rfl | h'
        · exact hw _ hy4
        · exact hw _ h', hw _ hy4, hw _ (hk_in (by decide +kernel) rfl), hp'.1, hp'.2.1⟩
    · intro m' meth' c' A a g mk X' hp'
      exact PcO.blind _ _ _ _ hp'.2.2
    · intro a st o t hq
      exact ⟨[], 1, 6, hq.2.2, rfl, rfl, rfl⟩
    · intro m' meth' c' A a g mk v t L k n X' hp' hq hF hE
      obtain ⟨rfl, rfl, rfl⟩ := hE
      exact ⟨g, mk, t, rfl, rfl, hq, List.append_nil _, rfl, rfl⟩
  obtain ⟨cellB, hcB, hoB, hclB⟩ := hrv
  obtain ⟨v, vm₁, ⟨U', l2, c2, s2⟩, hW₁, X', ⟨g', mk, t, e1, e2, hq, h1, h2, h3⟩, st⟩ := callVX X hx (own := R_LW) (C := R_B) (index := 7) (y := y_B_output) (bytes := b_B_output) (maxL := 2) (ret := some .int) C.2.2.2.2.1 (hts _ (hk_in (by decide +kernel) rfl)) (hts _ hy1) (hts _ hy2) (hts _ hy4) ⟨by decide, by decide⟩ hK
    (b := ad 0) (cellB := cellB) (by rw [hTh]; exact hcB) hoB hclB (g := F0 m 4 ls (.int p1 :: .ref (ad 0) :: rest)) rfl (hls.trans C.2.2.2.1.symm) (argsL := [.int p1]) (rest := rest) (fun sig hs => by
      have h6 : parseMethodDescriptor y_B_output.desc = some ⟨[.int], some .int⟩ := by decide +kernel
      rw [h6] at hs
      cases hs
      rfl) rfl (lv_room hrm) (by rw [hb]; exact d_LO_4)
    (fun vm₁ hW₁ => ⟨Nat.le_refl 1, Nat.le_refl 6, rfl, ⟨by rw [← hTh]; rfl, by rw [show (T.setVm vm₁).heap = s.heap from hTh]; exact hP, hk_E.warm C.2.2.2.2.2.2.2 hW₁, hD⟩, hk_T.ride (U := T.setVm vm₁) hW₁ (kept_rfl hTh) hT⟩)
  dsimp only [Pt.U, Pt.locs, Pt.cells, Pt.slots] at X' e1 e2 h1 h2 h3 st
  subst h1; subst h2; subst h3
  obtain ⟨⟨x, ce, hxe, hce, hst, hfc, hasg⟩, hkeep, -, -, hsame⟩ := hq
  cases hxe
  obtain ⟨xh, hxl, x0, x9, x12, x13⟩ := hex
  have hal : s.vm.Alike vm₁ := hW₁.alike
  have hfc' : s.vm.findClass xN = some ce.cls := by
    have h5 : vm₁.findClass xN = some ce.cls := hfc
    rw [hal.findClass] at h5
    exact h5
  have hasg' : s.vm.assignable ce.cls ce.cls = true := by
    have h5 : vm₁.assignable ce.cls ce.cls = true := hasg
    rw [hal.assignable] at h5
    exact h5
  obtain ⟨vm2, XV, stV⟩ := X'.thenCaughtLink v (g := { F0 m 4 ls (.int p1 :: .ref (ad 0) :: rest) with stack := rest }) rfl st (own := R_LW) (name := xN) C.2.2.2.2.1 [] xh [] hxl (fun y hy => by cases hy) (by
      unfold covers
      rw [x0, x9]
      rfl) (by rw [x13]; decide) (by rw [x13]; exact hts _ (hk_in (by decide +kernel) rfl)) hfc' (by rw [e1]; exact hce) hst hasg'
  rw [x12] at stV
  have hH : ∀ q : Nat, q < s.heap.size → U'.heap[q]? = s.heap[q]? := by
    intro q hq
    have h5 := hkeep q (by show q < T.heap.size; rw [hTh]; exact hq)
    rw [e1, h5]
    show T.heap[q]? = s.heap[q]?
    rw [hTh]
  have hz : s.heap.size ≤ U'.heap.size := by
    rw [e1, ← hTh]
    exact hsame.2.1
  obtain ⟨t2, a1, b1⟩ := kk U'.heap v hz hH (U'.setVm vm2) rfl XV
  exact ⟨t2, stV.trans a1, b1⟩
set_option maxHeartbeats 8000000 in
set_option maxRecDepth 100000 in
theorem c_LO (l : Launch) (hfl : l.flags = flags0) (G : hk_G) (ad : Nat → Nat) (q : Nat) (u : cB) (hI : Iv u) (lo : Nat → Int64) (p1 : Int32) (sz : Nat) :
    Met l y_LO (Cond.codeWith y_LO b_LO 4 (some .int) hLO :: hk_w) rmO (PcO G [.ref (ad 0), .int p1, .ref q] (wO G ad q u lo) sz) (va_Qi (fun (x : Int32) (_ : Unit) => x = rO p1) (hk_B G (wO G ad q u lo) (wO G ad q u (lO p1 u lo)) sz) (va_A (wO G ad q u lo) sz)) 1 6 (va_A (wO G ad q u lo) sz) := by
  refine va_MetW (cc := b_LO) (maxL := 4) (ret := some .int) (hh := hLO) (by decide) rfl ?_
  intro p e s m args below meth c s₁ B hml hv
  obtain ⟨rfl, ⟨hsz, hP, hE, hD0⟩, hT⟩ := hv
  subst hsz
  have hts0 := atoms_spec (ws := Cond.codeWith y_LO b_LO 4 (some .int) hLO :: hk_w) B.pre
  rw [lg_entry_eq]
  have C : hk_C p s m meth c R_LW b_LO 4 (some .int) ([.ref (ad 0), .int p1, .ref q] : List Value).toArray G := ⟨B.exec, B.bytes, B.returns, hml, findClass_of_methodNamed B.named, fun w h => hts0 w (List.mem_cons_of_mem _ h), B.notSynchronized, hE⟩
  obtain ⟨A, hAe⟩ : ∃ A, va_A (wO G ad q u lo) s.heap.size = A := ⟨_, rfl⟩
  rw [hAe]
  have hA : ∀ x : Nat, s.heap.size ≤ x → A x := fun x h => by rw [← hAe]; exact Or.inr h
  have hD : va_D A (wO G ad q u lo) := by rw [← hAe]; exact hD0.self
  have hS : va_S A s.heap s.heap [] := va_S.rf
  have key : ∀ ls : Array Slot, lv_has ls 4 [(0, .ref (ad 0)), (1, .int p1), (2, .ref q)] → W p l e rmO s m ([.ref (ad 0), .int p1, .ref q] : List Value).toArray below meth c s.heap [] 0 0 (MQ below (va_Qi (fun (x : Int32) (_ : Unit) => x = rO p1) (hk_B G (wO G ad q u lo) (wO G ad q u (lO p1 u lo)) s.heap.size) A) ([.ref (ad 0), .int p1, .ref q] : List Value).toArray s 1 6 A) (F0 m 0 ls []) := by
    intro ls hl
    have hx := C.1
    have hb := C.2.1
    refine lv_aload_n hx hb d_LO_0 rfl (lv_at hl 2 rfl) ?_
    refine lv_iconst (v := (0 : Int32)) hx hb d_LO_1 (by decide) ?_
    refine lv_aload_n hx hb d_LO_2 rfl (lv_at hl 0 rfl) ?_
    refine lv_iload_n hx hb d_LO_3 rfl (lv_at hl 1 rfl) ?_
    by_cases hp : m_B_isBelow p1 10 = 0
    · have hr : rO p1 = 1 := if_pos hp
      have hlo : lO p1 u lo = lo := if_pos hp
      rw [hr, hlo]
      have hex : ∃ x : ExceptionTableEntry, c.exceptionTable.toList = [x] ∧ x.startPc = 0 ∧ x.endPc = 9 ∧ x.handlerPc = 12 ∧ x.catchType = 13 := by
        obtain ⟨m9, meth9, c9, n9, h1, h2, -, -, h5, -⟩ := Cond.codeWith_spec (hts0 _ List.mem_cons_self)
        cases B.named.symm.trans n9
        cases B.method.symm.trans h1
        cases (Stand.of_body B).code.symm.trans h2
        match hL : c.exceptionTable.toList, h5 with
        | [x], h5 =>
          simp only [hLO, List.map_cons, List.map_nil, List.cons.injEq, Prod.mk.injEq, and_true] at h5
          exact ⟨x, rfl, h5.1, h5.2.1, h5.2.2.1, h5.2.2.2⟩
        | [], h5 => simp [hLO] at h5
        | _ :: _ :: _, h5 => simp [hLO] at h5
      refine hk_thrown (u := u) (w := wO G ad q u lo) (rest := [.int 0, .ref q]) hfl C hT hp hP hD0 (va_recv hE.1 hP (ci := 4) (q0 := 0) rfl rfl) hex hl.1 (Nat.le_of_ble_eq_true rfl) (fun H v hz hk => ?_)
      refine lv_astore_n (lv' := [(3, .ref v), (0, .ref (ad 0)), (1, .int p1), (2, .ref q)]) hx hb d_LO_12 rfl hl (by decide) rfl (fun ls hl => ?_)
      refine lv_iconst (v := (1 : Int32)) hx hb d_LO_13 (by decide) ?_
      have hP2 : va_P (hk_D G) classes (wO G ad q u lo) H := hP.kept fun k q hq => hk q.1 (hP k q hq).lt
      have hS2 : va_S A s.heap H [] := ⟨hz, fun q h1 _ => hk q h1, fun _ h => by cases h⟩
      subst hAe
      exact W.iret C.1 C.2.1 C.2.2.1 (fun t ht hW => ⟨⟨1, (), rfl, rfl, by rw [ht]; exact hP2, hD⟩, hS2.F ht⟩) hS2.2.2 d_LO_14 C.2.2.2.2.2.2.1
    · have hr : rO p1 = 0 := if_neg hp
      have hlo : lO p1 u lo = vp_updL lo 0 (m_B_outputNow p1 u).toInt64 := if_neg hp
      rw [hr, hlo]
      refine hk_goIc (w2 := wO G ad q u lo) (hk_kV (k := 1) (As := [.int p1]) (rest := [.int 0, .ref q]) C (c_B_output l G ad u p1 hI hp _) Y_B_output (hk_in (by decide +kernel) rfl) rfl rfl ⟨Nat.le_of_ble_eq_true rfl, Nat.le_of_ble_eq_true rfl⟩ (va_recv hE.1 hP (ci := 4) (q0 := 0) rfl rfl) (hP.sub (ws' := wB G ad u) [0, 1, 2, 3, 4, 5, 6, 7, 8, 9, 10, 11, 12, 13, 14, 15, 16, 17, 18, 19, 20, 21] rfl) (hD.sub (ws' := wB G ad u) [0, 1, 2, 3, 4, 5, 6, 7, 8, 9, 10, 11, 12, 13, 14, 15, 16, 17, 18, 19, 20, 21] (by decide) rfl) rfl hl.1 rfl (Nat.le_of_ble_eq_true rfl) d_LO_4 ⟨Nat.zero_le _, Nat.zero_le _⟩) hP hD hS hA [0, 1, 2, 3, 4, 5, 6, 7, 8, 9, 10, 11, 12, 13, 14, 15, 16, 17, 18, 19, 20, 21] [22] [1, 2, 3, 4, 5, 6, 7, 8, 9, 10, 11, 12, 13, 14, 15, 16, 17, 18, 19, 20, 21, 22, 0] rfl rfl (by decide) (by decide) rfl (by decide) (fun H locs hP hD hS => ?_)
      rw [m_out_def hp]
      refine lv_i2l hx hb d_LO_7 rfl ?_
      refine va_last (D := hk_D G) hx hb hE.1 hP hD hS 22 5 (cA := G.2.2 5) (n := 1) (f := lo) rfl rfl (hk_inl (by decide)) d_LO_8 (fun H locs hP hD hS => ?_)
      have hP2 : va_P (hk_D G) classes (wO G ad q u (vp_updL lo 0 (m_B_outputNow p1 u).toInt64)) H := hP
      have hD2 : va_D A (wO G ad q u (vp_updL lo 0 (m_B_outputNow p1 u).toInt64)) := hD
      refine lv_goto (tgt := 15) hx hb d_LO_9 (by decide) ?_
      refine lv_iconst (v := (0 : Int32)) hx hb d_LO_15 (by decide) ?_
      refine W.widen (k := 1) (n := 6) (by decide) (by decide) ?_
      subst hAe
      exact W.iret C.1 C.2.1 C.2.2.1 (fun t ht hW => ⟨⟨0, (), rfl, rfl, by rw [ht]; exact hP2, hD2⟩, hS.F ht⟩) hS.2.2 d_LO_16 C.2.2.2.2.2.2.1
  exact key _ (lv_entry [.ref (ad 0), .int p1, .ref q] (Nat.le_of_ble_eq_true rfl))
