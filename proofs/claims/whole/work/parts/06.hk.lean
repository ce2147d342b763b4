/-! HK: one list of words for all methods; contracts whose answer and world are functions of the start; the calls in one row each. -/
theorem hk_all {ws : List Cond} (h : ∀ w ∈ ws, w ∈ hk_w) : GoodIn hk_w ws := fun w hw => ⟨h w hw, good_of_word (List.mem_filter.mp (h w hw)).2⟩
def hk_isNest : Cond → Bool
  | .fieldLinkNest .. => true
  | .methodLinkNest .. => true
  | _ => false
theorem hk_Nw_warm {w : Cond} (hn : hk_isNest w = true) {s U : State} (hW : s.WarmedH U.vm) (h : va_Nw w s) : va_Nw w U := by
  cases w <;> first | exact va_Nw.warmF hW h | exact va_Nw.warmM hW h | (simp [hk_isNest] at hn)
theorem hk_Nw_same {w : Cond} (hn : hk_isNest w = true) {s U : State} (hW : s.vm = U.vm) (h : va_Nw w s) : va_Nw w U := by
  cases w <;> first | exact va_Nw.same rfl hW h | (simp [hk_isNest] at hn)
abbrev hk_D (G : hk_G) : va_G := (G.1, G.2.1)
def hk_AOA (U : State) : Prop := (Cond.arrayOver (.array .int)).before #[] U = true
theorem hk_AOA.moved {u U : State} (hvm : u.vm.Alike U.vm) (h : hk_AOA u) : hk_AOA U := by
  unfold hk_AOA at h ⊢
  simp only [Cond.before, Cond.holds, Cond.value] at h ⊢
  rw [hvm.findClass]
  cases hf : u.vm.findClass (FieldType.array .int).toString with
  | none => rw [hf] at h; simp at h
  | some comp =>
    rw [hf] at h
    simp only [Option.bind_some] at h ⊢
    rw [hvm.findIdx_congr _ (fun _ _ _ _ => rfl)]
    generalize hF : (u.vm.classes.findIdx? fun (x : Class) => match x.kind with | .array component _ => component == comp | _ => false) = fi at h ⊢
    cases fi with
    | none => simp at h
    | some c =>
      simp only [Option.bind_some] at h ⊢
      cases hk : u.vm.classes[c]? with
      | none => rw [hk] at h; simp at h
      | some k =>
        obtain ⟨k', hk', ek⟩ := hvm.2.2 _ _ hk
        rw [hk] at h
        rw [hk', hvm.findClass]
        have ekind : k'.kind = k.kind := by rw [ek]
        simp only [Option.map_some] at h ⊢
        rw [ekind]
        exact h
def hk_AO (U : State) : Prop := va_AO "BodyRows2$Side" U ∧ va_AO "BodyRows2$Window" U ∧ hk_AOA U
theorem hk_AO.moved {u U : State} (hvm : u.vm.Alike U.vm) (h : hk_AO u) : hk_AO U := ⟨va_AO.moved hvm h.1, va_AO.moved hvm h.2.1, hk_AOA.moved hvm h.2.2⟩
def hk_E (G : hk_G) (U : State) : Prop := va_K (hk_D G) classes (hk_ty G) U ∧ (∀ w ∈ lw_tbl, hk_isNest w = true → va_Nw w U) ∧ hk_AO U
theorem hk_E.warm {G : hk_G} {s U : State} (h : hk_E G s) (hW : s.WarmedH U.vm) : hk_E G U := ⟨va_K.moved hW.alike h.1, fun w hw hn => hk_Nw_warm hn hW (h.2.1 w hw hn), hk_AO.moved hW.alike h.2.2⟩
theorem hk_E.calling {G : hk_G} {U : State} (h : hk_E G U) (g : JFrame) (mk : MethodId) (a : Array Value) : hk_E G (U.calling g mk a) := ⟨va_K.moved (u := U) (U := U.calling g mk a) (Vm.Alike.refl U.vm) h.1, fun w hw hn => hk_Nw_same (s := U) (U := U.calling g mk a) hn rfl (h.2.1 w hw hn), hk_AO.moved (u := U) (U := U.calling g mk a) (Vm.Alike.refl U.vm) h.2.2⟩
def hk_P (G : hk_G) (w0 : va_W) (sz : Nat) (U : State) : Prop := U.heap.size = sz ∧ va_P (hk_D G) classes w0 U.heap ∧ hk_E G U ∧ va_D (fun _ => True) w0
def hk_B (G : hk_G) (w0 w1 : va_W) (sz : Nat) (_ : Unit) (t : State) : Prop := va_P (hk_D G) classes w1 t.heap ∧ va_D (va_A w0 sz) w1
/-- a method with an int's (or boolean's) answer that makes no cell -/
def hk_I (l : Launch) (G : hk_G) (y : MethodName) (b : ByteArray) (n : Nat) (ret : Option FieldType) (rm : Room) (av : List Value) (w0 : va_W) (r : Int32) (w1 : va_W) : Prop :=
  ∀ sz : Nat, Met l y (Cond.code y b n ret :: hk_w) rm (va_Pc av (hk_P G w0 sz)) (va_Qi (fun (x : Int32) (_ : Unit) => x = r) (hk_B G w0 w1 sz) (va_A w0 sz)) 0 0 (va_A w0 sz)
/-- a void method that makes no cell -/
def hk_V (l : Launch) (G : hk_G) (y : MethodName) (b : ByteArray) (n : Nat) (rm : Room) (av : List Value) (w0 : va_W) (w1 : va_W) : Prop :=
  ∀ sz : Nat, Met l y (Cond.code y b n none :: hk_w) rm (va_Pc av (hk_P G w0 sz)) (va_Qv (fun (_ : Unit) => True) (hk_B G w0 w1 sz) (va_A w0 sz)) 0 0 (va_A w0 sz)
/-- what a walk begins with -/
def hk_C (p : Program) (s : State) (m : MethodId) (meth : Method) (c : Code) (own : String) (b : ByteArray) (n : Nat) (ret : Option FieldType) (args : Array Value) (G : hk_G) : Prop :=
  p.tables.exec = Jvm.exec ∧ c.code = b ∧ meth.sig.returnType = ret ∧ c.maxLocals = n ∧ s.vm.findClass own = some m.cls ∧ (∀ w ∈ hk_w, w.before args s = true) ∧ meth.locks = false ∧ hk_E G s
theorem hk_I_of {l : Launch} {G : hk_G} {y : MethodName} {b : ByteArray} {n : Nat} {ret : Option FieldType} {rm : Room} {av : List Value} {w0 : va_W} {r : Int32} {w1 : va_W} (hy : plainName y.cls = true) (hn : (lg_sl av).length ≤ n)
    (body : ∀ (p : Program) (e : Env) (s : State) (m : MethodId) (below : List Frame) (meth : Method) (c : Code) (A : Nat → Prop) (ls : Array Slot),
      hk_C p s m meth c y.cls b n ret av.toArray G → va_A w0 s.heap.size = A → (∀ q : Nat, s.heap.size ≤ q → A q) → va_P (hk_D G) classes w0 s.heap → va_D A w0 → va_S A s.heap s.heap [] → lv_has ls n (lv_args 0 av) →
      W p l e rm s m av.toArray below meth c s.heap [] 0 0 (MQ below (va_Qi (fun (x : Int32) (_ : Unit) => x = r) (hk_B G w0 w1 s.heap.size) A) av.toArray s 0 0 A) (F0 m 0 ls [])) : hk_I l G y b n ret rm av w0 r w1 := by
  intro sz
  refine Met.ofW (cc := b) (maxL := n) (ret := ret) hy rfl ?_
  intro p e s m args below meth c s₁ B hml hv
  obtain ⟨rfl, hsz, hP, hE, hD0⟩ := hv
  subst hsz
  have hts := atoms_spec (ws := Cond.code y b n ret :: hk_w) B.pre
  rw [lg_entry_eq]
  exact body p e s m below meth c (va_A w0 s.heap.size) _ ⟨B.exec, B.bytes, B.returns, hml, findClass_of_methodNamed B.named, fun w h => hts w (List.mem_cons_of_mem _ h), B.notSynchronized, hE⟩ rfl (fun q h => Or.inr h) hP hD0.self va_S.rf (lv_entry av hn)
theorem hk_V_of {l : Launch} {G : hk_G} {y : MethodName} {b : ByteArray} {n : Nat} {rm : Room} {av : List Value} {w0 : va_W} {w1 : va_W} (hy : plainName y.cls = true) (hn : (lg_sl av).length ≤ n)
    (body : ∀ (p : Program) (e : Env) (s : State) (m : MethodId) (below : List Frame) (meth : Method) (c : Code) (A : Nat → Prop) (ls : Array Slot),
      hk_C p s m meth c y.cls b n none av.toArray G → va_A w0 s.heap.size = A → (∀ q : Nat, s.heap.size ≤ q → A q) → va_P (hk_D G) classes w0 s.heap → va_D A w0 → va_S A s.heap s.heap [] → lv_has ls n (lv_args 0 av) →
      W p l e rm s m av.toArray below meth c s.heap [] 0 0 (MQ below (va_Qv (fun (_ : Unit) => True) (hk_B G w0 w1 s.heap.size) A) av.toArray s 0 0 A) (F0 m 0 ls [])) : hk_V l G y b n rm av w0 w1 := by
  intro sz
  refine Met.ofW (cc := b) (maxL := n) (ret := none) hy rfl ?_
  intro p e s m args below meth c s₁ B hml hv
  obtain ⟨rfl, hsz, hP, hE, hD0⟩ := hv
  subst hsz
  have hts := atoms_spec (ws := Cond.code y b n none :: hk_w) B.pre
  rw [lg_entry_eq]
  exact body p e s m below meth c (va_A w0 s.heap.size) _ ⟨B.exec, B.bytes, B.returns, hml, findClass_of_methodNamed B.named, fun w h => hts w (List.mem_cons_of_mem _ h), B.notSynchronized, hE⟩ rfl (fun q h => Or.inr h) hP hD0.self va_S.rf (lv_entry av hn)
def hk_PZ (G : hk_G) (w0 : va_W) (Z : (Nat → Prop) → State → Heap → Prop) (sz : Nat) (U : State) : Prop := hk_P G w0 sz U ∧ Z (va_A w0 sz) U U.heap
/-- the same, of a method that reads a table that stands in a static field -/
def hk_IZ (l : Launch) (G : hk_G) (y : MethodName) (b : ByteArray) (n : Nat) (ret : Option FieldType) (rm : Room) (av : List Value) (w0 : va_W) (r : Int32) (w1 : va_W) (Z : (Nat → Prop) → State → Heap → Prop) : Prop :=
  ∀ sz : Nat, Met l y (Cond.code y b n ret :: hk_w) rm (va_Pc av (hk_PZ G w0 Z sz)) (va_Qi (fun (x : Int32) (_ : Unit) => x = r) (hk_B G w0 w1 sz) (va_A w0 sz)) 0 0 (va_A w0 sz)
theorem hk_IZ_of {l : Launch} {G : hk_G} {y : MethodName} {b : ByteArray} {n : Nat} {ret : Option FieldType} {rm : Room} {av : List Value} {w0 : va_W} {r : Int32} {w1 : va_W} {Z : (Nat → Prop) → State → Heap → Prop} (hy : plainName y.cls = true) (hn : (lg_sl av).length ≤ n)
    (body : ∀ (p : Program) (e : Env) (s : State) (m : MethodId) (below : List Frame) (meth : Method) (c : Code) (A : Nat → Prop) (ls : Array Slot),
      hk_C p s m meth c y.cls b n ret av.toArray G → va_A w0 s.heap.size = A → (∀ q : Nat, s.heap.size ≤ q → A q) → va_P (hk_D G) classes w0 s.heap → va_D A w0 → va_S A s.heap s.heap [] → lv_has ls n (lv_args 0 av) → Z A s s.heap →
      W p l e rm s m av.toArray below meth c s.heap [] 0 0 (MQ below (va_Qi (fun (x : Int32) (_ : Unit) => x = r) (hk_B G w0 w1 s.heap.size) A) av.toArray s 0 0 A) (F0 m 0 ls [])) : hk_IZ l G y b n ret rm av w0 r w1 Z := by
  intro sz
  refine Met.ofW (cc := b) (maxL := n) (ret := ret) hy rfl ?_
  intro p e s m args below meth c s₁ B hml hv
  obtain ⟨rfl, ⟨hsz, hP, hE, hD0⟩, hZ⟩ := hv
  subst hsz
  have hts := atoms_spec (ws := Cond.code y b n ret :: hk_w) B.pre
  rw [lg_entry_eq]
  exact body p e s m below meth c (va_A w0 s.heap.size) _ ⟨B.exec, B.bytes, B.returns, hml, findClass_of_methodNamed B.named, fun w h => hts w (List.mem_cons_of_mem _ h), B.notSynchronized, hE⟩ rfl (fun q h => Or.inr h) hP hD0.self va_S.rf (lv_entry av hn) hZ
theorem hk_nb {v : Int32} (h : v = 0 ∨ v = 1) : narrow .boolean (.int v) = .int v := by rcases h with rfl | rfl <;> rfl
theorem hk_fb {v : Int32} (h : v = 0 ∨ v = 1) : fits .boolean (.int v) = true := by rcases h with rfl | rfl <;> rfl
section HKW
variable {p : Program} {l : Launch} {e : Env} {R : Room} {s : State} {m : MethodId} {args : Array Value} {below : List Frame} {meth : Method} {c : Code} {H : Heap} {locs : List Loc} {cells slots : Nat} {Q : State → Prop}
variable {own : String} {b cc : ByteArray} {n nL : Nat} {ret ret0 : Option FieldType} {G : hk_G} {A : Nat → Prop} {w0 w1 w : va_W} {pc : Nat} {ls : Array Slot} {rest st : List Value} {H0 : Heap} {ws wc w2 : va_W}
theorem hk_ri {r v : Int32} (C : hk_C p s m meth c own b n (some .int) args G) (hA : va_A w0 s.heap.size = A) (hP : va_P (hk_D G) classes w H) (hD : va_D A w) (hS : va_S A s.heap H locs) (hv : v = r) (hw : w = w1) (hdg : decode b pc = .ok (.ireturn, 1)) :
    W p l e R s m args below meth c H locs 0 0 (MQ below (va_Qi (fun (x : Int32) (_ : Unit) => x = r) (hk_B G w0 w1 s.heap.size) A) args s 0 0 A) (F0 m pc ls [.int v]) := by
  subst hv
  subst hw
  subst hA
  exact W.iret C.1 C.2.1 C.2.2.1 (fun t ht hW => ⟨⟨v, (), rfl, rfl, by rw [ht]; exact hP, hD⟩, hS.F ht⟩) hS.2.2 hdg C.2.2.2.2.2.2.1
theorem hk_rz {r v : Int32} (C : hk_C p s m meth c own b n (some .boolean) args G) (hA : va_A w0 s.heap.size = A) (hP : va_P (hk_D G) classes w H) (hD : va_D A w) (hS : va_S A s.heap H locs) (h01 : v = 0 ∨ v = 1) (hv : v = r) (hw : w = w1) (hdg : decode b pc = .ok (.ireturn, 1)) :
    W p l e R s m args below meth c H locs 0 0 (MQ below (va_Qi (fun (x : Int32) (_ : Unit) => x = r) (hk_B G w0 w1 s.heap.size) A) args s 0 0 A) (F0 m pc ls [.int v]) := by
  subst hv
  subst hw
  subst hA
  exact W.zret C.1 C.2.1 C.2.2.1 (hk_nb h01) (fun t ht hW => ⟨⟨v, (), rfl, rfl, by rw [ht]; exact hP, hD⟩, hS.F ht⟩) hS.2.2 hdg C.2.2.2.2.2.2.1
theorem hk_rv (C : hk_C p s m meth c own b n none args G) (hA : va_A w0 s.heap.size = A) (hP : va_P (hk_D G) classes w H) (hD : va_D A w) (hS : va_S A s.heap H locs) (hw : w = w1) (hdg : decode b pc = .ok (.return_, 1)) :
    W p l e R s m args below meth c H locs 0 0 (MQ below (va_Qv (fun (_ : Unit) => True) (hk_B G w0 w1 s.heap.size) A) args s 0 0 A) (F0 m pc ls []) := by
  subst hw
  subst hA
  exact W.vret C.1 C.2.1 C.2.2.1 (fun t ht hW => ⟨⟨(), rfl, trivial, by rw [ht]; exact hP, hD⟩, hS.F ht⟩) hS.2.2 hdg C.2.2.2.2.2.2.1
/-- a callee on an object: its words -/
def hk_Y (y : MethodName) (b : ByteArray) (n : Nat) (ret : Option FieldType) (k : Nat) : Prop :=
  Cond.instanceMethod y ∈ hk_w ∧ Cond.selects y.cls y y ∈ hk_w ∧ Cond.initialized y.cls ∈ hk_w ∧ Cond.code y b n ret ∈ hk_w ∧ y.cls ≠ "java/lang/invoke/MethodHandle" ∧ y.cls ≠ "java/lang/invoke/VarHandle" ∧ (parseMethodDescriptor y.desc).map (fun d => d.parameters.length) = some k
/-- a static callee: its words -/
def hk_YS (y : MethodName) (b : ByteArray) (n : Nat) (ret : Option FieldType) (k : Nat) : Prop :=
  Cond.static y ∈ hk_w ∧ Cond.initialized y.cls ∈ hk_w ∧ Cond.code y b n ret ∈ hk_w ∧ y.cls ≠ "java/lang/invoke/MethodHandle" ∧ y.cls ≠ "java/lang/invoke/VarHandle" ∧ (parseMethodDescriptor y.desc).map (fun d => d.parameters.length) = some k
variable {y : MethodName} {yb : ByteArray} {yn k idx : Nat} {rm : Room} {Qc : Array Value → State → Outcome → State → Prop} {free : Addr → Prop} {a : Nat} {As : List Value} {mc ms : Nat}
theorem hk_blind {av : List Value} {w0 : va_W} {sz : Nat} : FrameBlind (va_Pc av (hk_P G w0 sz)) := fun a U g mk q => by
  obtain ⟨q0, q1, qP, qE, qD⟩ := q
  exact ⟨q0, q1, qP, hk_E.calling qE g mk a, qD⟩
theorem hk_pre {av : List Value} (C : hk_C p s m meth c own cc nL ret0 args G) (hPc : va_P (hk_D G) classes wc H) (hDc : va_D A wc) : PreS s H (va_Pc av (hk_P G wc H.size)) av :=
  ⟨hk_blind, fun U hU hW => ⟨rfl, by rw [hU], by rw [hU]; exact hPc, hk_E.warm C.2.2.2.2.2.2.2 hW, hDc.weaken (fun _ _ _ _ => trivial)⟩⟩
/-- invokevirtual of a method whose link is an ordinary one -/
theorem hk_kV (C : hk_C p s m meth c own cc nL ret0 args G) (hM : Met l y (Cond.code y yb yn ret :: hk_w) rm (va_Pc (.ref a :: As) (hk_P G wc H.size)) Qc mc ms free) (hY : hk_Y y yb yn ret k) (hl : Cond.methodLink own idx y ∈ hk_w)
    (hrc : rm.cells = mc) (hrs : rm.slots = ms) (hR : rm.frames + 1 ≤ R.frames ∧ 8 + (yn + 11) + rm.locals ≤ R.locals)
    (hrv : ∃ cell : Cell, H[a]? = some cell ∧ cell.vm.isStatics = false ∧ s.vm.findClass y.cls = some cell.cls) (hPc : va_P (hk_D G) classes wc H) (hDc : va_D A wc)
    (hk : As.length = k) (hls : ls.size = nL) (hst : st = As.reverse ++ .ref a :: rest) (hrm : (rest.map fun v => v.category).sum ≤ 8) (hdg : decode cc pc = .ok (.invokevirtual idx, 3)) (hcs : cells + mc ≤ R.cells ∧ slots + ms ≤ R.slots) :
    va_Run p l e R s m args below meth c H locs cells slots mc ms (F0 m pc ls st) rest (Qc (Value.ref a :: As).toArray) free := by
  obtain ⟨h1, h2, h3, h4, h5⟩ := hY
  have hT : GoodIn hk_w (wsV own idx y.cls y (Cond.code y yb yn ret :: hk_w)) := hk_all (by
    intro w hw
    unfold wsV at hw
    rcases List.mem_append.mp hw with h | h
    · simp only [List.mem_cons, List.not_mem_nil, or_false] at h
      rcases h with rfl | rfl | rfl | rfl <;> assumption
    · rcases List.mem_cons.mp h with rfl | h
      · exact h4
      · exact h)
  have hp := hk_pre (av := .ref a :: As) C hPc hDc
  exact va_runV ⟨C.1, C.2.1, C.2.2.2.1, C.2.2.2.2.1, C.2.2.2.2.2.1⟩ hM (cwV k C.2.2.2.2.2.1 hT rfl hrc hrs ⟨rfl, h5⟩ hR) ⟨hp.1, hrv, hp.2⟩ rfl hk hls hst (lv_room hrm) hdg hcs
/-- invokevirtual of a nest mate's private method -/
theorem hk_kN {host : String} (C : hk_C p s m meth c own cc nL ret0 args G) (hM : Met l y (Cond.code y yb yn ret :: hk_w) rm (va_Pc (.ref a :: As) (hk_P G wc H.size)) Qc mc ms free) (hY : hk_Y y yb yn ret k) (hl : Cond.methodLinkNest own idx y host ∈ lw_tbl)
    (hrc : rm.cells = mc) (hrs : rm.slots = ms) (hR : rm.frames + 1 ≤ R.frames ∧ 8 + (yn + 11) + rm.locals ≤ R.locals)
    (hrv : ∃ cell : Cell, H[a]? = some cell ∧ cell.vm.isStatics = false ∧ s.vm.findClass y.cls = some cell.cls) (hPc : va_P (hk_D G) classes wc H) (hDc : va_D A wc)
    (hk : As.length = k) (hls : ls.size = nL) (hst : st = As.reverse ++ .ref a :: rest) (hrm : (rest.map fun v => v.category).sum ≤ 8) (hdg : decode cc pc = .ok (.invokevirtual idx, 3)) (hcs : cells + mc ≤ R.cells ∧ slots + ms ≤ R.slots) :
    va_Run p l e R s m args below meth c H locs cells slots mc ms (F0 m pc ls st) rest (Qc (Value.ref a :: As).toArray) free := by
  obtain ⟨h1, h2, h3, h4, h5⟩ := hY
  have hG : GoodIn hk_w (Cond.code y yb yn ret :: hk_w) := hk_all (by
    intro w hw
    rcases List.mem_cons.mp hw with rfl | h
    · exact h4
    · exact h)
  have hts := C.2.2.2.2.2.1
  have hp := hk_pre (av := .ref a :: As) C hPc hDc
  exact va_runVN ⟨C.1, C.2.1, C.2.2.2.1, C.2.2.2.2.1, hts⟩ hM ⟨va_cnB k hts hG rfl hrc hrs (C.2.2.2.2.2.2.2.2.1 _ hl rfl) (hts _ h3) h5 hR, hts _ h1, hts _ h2⟩ ⟨hp.1, hrv, hp.2⟩ rfl hk hls hst (lv_room hrm) hdg hcs
/-- invokestatic of a class of ours -/
theorem hk_kS (C : hk_C p s m meth c own cc nL ret0 args G) (hM : Met l y (Cond.code y yb yn ret :: hk_w) rm (va_Pc As (hk_P G wc H.size)) Qc mc ms free) (hY : hk_YS y yb yn ret k) (hl : Cond.methodLink own idx y ∈ hk_w)
    (hrc : rm.cells = mc) (hrs : rm.slots = ms) (hR : rm.frames + 1 ≤ R.frames ∧ 8 + (yn + 11) + rm.locals ≤ R.locals) (hPc : va_P (hk_D G) classes wc H) (hDc : va_D A wc)
    (hk : As.length = k) (hls : ls.size = nL) (hst : st = As.reverse ++ rest) (hrm : (rest.map fun v => v.category).sum ≤ 8) (hdg : decode cc pc = .ok (.invokestatic idx, 3)) (hcs : cells + mc ≤ R.cells ∧ slots + ms ≤ R.slots) :
    va_Run p l e R s m args below meth c H locs cells slots mc ms (F0 m pc ls st) rest (Qc As.toArray) free := by
  obtain ⟨h1, h3, h4, h5⟩ := hY
  have hT : GoodIn hk_w (va_wsS own idx y (Cond.code y yb yn ret :: hk_w)) := hk_all (by
    intro w hw
    unfold va_wsS at hw
    rcases List.mem_append.mp hw with h | h
    · simp only [List.mem_cons, List.not_mem_nil, or_false] at h
      rcases h with rfl | rfl | rfl <;> assumption
    · rcases List.mem_cons.mp h with rfl | h
      · exact h4
      · exact h)
  have hp := hk_pre (av := As) C hPc hDc
  exact va_runS ⟨C.1, C.2.1, C.2.2.2.1, C.2.2.2.2.1, C.2.2.2.2.2.1⟩ hM (va_cwS k C.2.2.2.2.2.1 hT rfl hrc hrs h5 hR) hp rfl hk hls hst (lv_room hrm) hdg hcs
theorem hk_fr (hD : va_D A ws) (hS : va_S A H0 H locs) (hA : ∀ q, H0.size ≤ q → A q) (is : List Nat) (hC : is.map (fun i => ws[i]?) = wc.map some) : ∀ q, va_A wc H.size q → A q := va_free hD hS hA is hC
theorem hk_fm {α : Type} {f : Nat → Option α} {is : List Nat} {l : List α} (h : is.map f = l.map some) : is.filterMap f = l := by
  have e : is.filterMap f = (is.map f).filterMap id := by rw [List.filterMap_map]; rfl
  rw [e, h, List.filterMap_map]
  simp
/-- behind a call over the whole world: an int comes -/
theorem hk_goI {r : Int32} {av : Array Value} (hr : va_Run p l e R s m args below meth c H locs cells slots 0 0 (F0 m pc ls st) rest (va_Qi (fun (x : Int32) (_ : Unit) => x = r) (hk_B G ws w1 H.size) (va_A ws H.size) av) (va_A ws H.size)) (hD : va_D A ws) (hS : va_S A H0 H locs) (hA : ∀ q, H0.size ≤ q → A q)
    (kk : ∀ (H1 : Heap) (locs1 : List Loc), va_P (hk_D G) classes w1 H1 → va_D A w1 → va_S A H0 H1 locs1 → W p l e R s m args below meth c H1 locs1 cells slots Q (F0 m (pc + 3) ls (.int r :: rest))) : W p l e R s m args below meth c H locs cells slots Q (F0 m pc ls st) := by
  have hF : ∀ q, va_A ws H.size q → A q := fun q hq => by
    rcases hq with ⟨k, e, h⟩ | h
    · exact hD.2 k _ h
    · exact hA q (Nat.le_trans hS.1 h)
  refine va_calli hr hS (fun q _ h => hF q h) hF (fun r' u t H1 locs1 ht hvm hp hB hz hk hS1 => ?_)
  have hp : r' = r := hp
  subst hp
  obtain ⟨hP1, hD1⟩ := hB
  rw [ht] at hP1
  exact kk H1 locs1 hP1 (hD1.weaken (fun _ _ _ h => hF _ h)) hS1
theorem hk_goV {av : Array Value} (hr : va_Run p l e R s m args below meth c H locs cells slots 0 0 (F0 m pc ls st) rest (va_Qv (fun (_ : Unit) => True) (hk_B G ws w1 H.size) (va_A ws H.size) av) (va_A ws H.size)) (hD : va_D A ws) (hS : va_S A H0 H locs) (hA : ∀ q, H0.size ≤ q → A q)
    (kk : ∀ (H1 : Heap) (locs1 : List Loc), va_P (hk_D G) classes w1 H1 → va_D A w1 → va_S A H0 H1 locs1 → W p l e R s m args below meth c H1 locs1 cells slots Q (F0 m (pc + 3) ls rest)) : W p l e R s m args below meth c H locs cells slots Q (F0 m pc ls st) := by
  have hF : ∀ q, va_A ws H.size q → A q := fun q hq => by
    rcases hq with ⟨k, e, h⟩ | h
    · exact hD.2 k _ h
    · exact hA q (Nat.le_trans hS.1 h)
  refine va_callv hr hS (fun q _ h => hF q h) hF (fun u t H1 locs1 ht hvm hp hB hz hk hS1 => ?_)
  obtain ⟨hP1, hD1⟩ := hB
  rw [ht] at hP1
  exact kk H1 locs1 hP1 (hD1.weaken (fun _ _ _ h => hF _ h)) hS1
/-- behind a call over a part of the world (places isC; the rest isR; isN puts them into w2's order): an int comes -/
theorem hk_goIc {r : Int32} {av : Array Value} {wc1 : va_W} (hr : va_Run p l e R s m args below meth c H locs cells slots 0 0 (F0 m pc ls st) rest (va_Qi (fun (x : Int32) (_ : Unit) => x = r) (hk_B G wc wc1 H.size) (va_A wc H.size) av) (va_A wc H.size)) (hP : va_P (hk_D G) classes ws H) (hD : va_D A ws) (hS : va_S A H0 H locs) (hA : ∀ q, H0.size ≤ q → A q)
    (isC isR isN : List Nat) (hC : isC.map (fun i => ws[i]?) = wc.map some) (hRs : isR.map (fun i => ws[i]?) = (isR.filterMap (fun i => ws[i]?)).map some) (hn : va_nd isR = true) (hdis : ∀ i ∈ isR, i ∉ isC) (hN : isN.map (fun i => (isR.filterMap (fun i => ws[i]?) ++ wc1)[i]?) = w2.map some) (hnN : va_nd isN = true)
    (kk : ∀ (H1 : Heap) (locs1 : List Loc), va_P (hk_D G) classes w2 H1 → va_D A w2 → va_S A H0 H1 locs1 → W p l e R s m args below meth c H1 locs1 cells slots Q (F0 m (pc + 3) ls (.int r :: rest))) : W p l e R s m args below meth c H locs cells slots Q (F0 m pc ls st) := by
  have hF := hk_fr hD hS hA isC hC
  refine va_calli hr hS (fun q _ h => hF q h) hF (fun r' u t H1 locs1 ht hvm hp hB hz hk hS1 => ?_)
  have hp : r' = r := hp
  subst hp
  obtain ⟨hP1, hD1⟩ := hB
  rw [ht] at hP1
  obtain ⟨hP2, hD2⟩ := va_join hP hD isC isR hC hRs hn hdis hk hF hP1 hD1
  exact kk H1 locs1 (hP2.sub isN (hk_fm hN)) (hD2.sub isN hnN hN) hS1
theorem hk_goVc {av : Array Value} {wc1 : va_W} (hr : va_Run p l e R s m args below meth c H locs cells slots 0 0 (F0 m pc ls st) rest (va_Qv (fun (_ : Unit) => True) (hk_B G wc wc1 H.size) (va_A wc H.size) av) (va_A wc H.size)) (hP : va_P (hk_D G) classes ws H) (hD : va_D A ws) (hS : va_S A H0 H locs) (hA : ∀ q, H0.size ≤ q → A q)
    (isC isR isN : List Nat) (hC : isC.map (fun i => ws[i]?) = wc.map some) (hRs : isR.map (fun i => ws[i]?) = (isR.filterMap (fun i => ws[i]?)).map some) (hn : va_nd isR = true) (hdis : ∀ i ∈ isR, i ∉ isC) (hN : isN.map (fun i => (isR.filterMap (fun i => ws[i]?) ++ wc1)[i]?) = w2.map some) (hnN : va_nd isN = true)
    (kk : ∀ (H1 : Heap) (locs1 : List Loc), va_P (hk_D G) classes w2 H1 → va_D A w2 → va_S A H0 H1 locs1 → W p l e R s m args below meth c H1 locs1 cells slots Q (F0 m (pc + 3) ls rest)) : W p l e R s m args below meth c H locs cells slots Q (F0 m pc ls st) := by
  have hF := hk_fr hD hS hA isC hC
  refine va_callv hr hS (fun q _ h => hF q h) hF (fun u t H1 locs1 ht hvm hp hB hz hk hS1 => ?_)
  obtain ⟨hP1, hD1⟩ := hB
  rw [ht] at hP1
  obtain ⟨hP2, hD2⟩ := va_join hP hD isC isR hC hRs hn hdis hk hF hP1 hD1
  exact kk H1 locs1 (hP2.sub isN (hk_fm hN)) (hD2.sub isN hnN hN) hS1
/-- behind a call that needs no cell: an int comes, the world stays -/
theorem hk_goIe {r : Int32} {av : Array Value} (hr : va_Run p l e R s m args below meth c H locs cells slots 0 0 (F0 m pc ls st) rest (va_Qi (fun (x : Int32) (_ : Unit) => x = r) (hk_B G [] [] H.size) (va_A [] H.size) av) (va_A [] H.size)) (hP : va_P (hk_D G) classes ws H) (hS : va_S A H0 H locs) (hA : ∀ q, H0.size ≤ q → A q)
    (kk : ∀ (H1 : Heap) (locs1 : List Loc), va_P (hk_D G) classes ws H1 → va_S A H0 H1 locs1 → W p l e R s m args below meth c H1 locs1 cells slots Q (F0 m (pc + 3) ls (.int r :: rest))) : W p l e R s m args below meth c H locs cells slots Q (F0 m pc ls st) := by
  have hF : ∀ q, va_A [] H.size q → A q := fun q hq => by
    rcases hq with ⟨k, e, h⟩ | h
    · simp at h
    · exact hA q (Nat.le_trans hS.1 h)
  refine va_calli hr hS (fun q _ h => hF q h) hF (fun r' u t H1 locs1 ht hvm hp hB hz hk hS1 => ?_)
  have hp : r' = r := hp
  subst hp
  refine kk H1 locs1 (hP.kept fun k q hq => hk q.1 (hP k q hq).lt fun z => ?_) hS1
  have hlt := (hP k q hq).lt
  rcases z with ⟨k, e, h⟩ | h
  · simp at h
  · omega
/-- getfield of the own class -/
theorem hk_get (C : hk_C p s m meth c own cc nL ret0 args G) (hP : va_P (hk_D G) classes ws H) (q0 ci k : Nat) {Cn : String} {T : u_T} {N : Nat} (hin : ∀ w ∈ u_ws Cn T N, w ∈ hk_w) {fs : List Value} (he : ws[q0]? = some (a, .inr (ci, fs))) (hc : classes[ci]? = some (Cn, T, N)) (hk : k < N) (hl : Cond.fieldLink own idx (T k).1 (T k).2.1 (T k).2.2.1 ∈ hk_w) {v : Value} (hv : fs[k]? = some v) (hdg : decode cc pc = .ok (.getfield idx, 3))
    (kk : W p l e R s m args below meth c H locs cells slots Q (F0 m (pc + 3) ls (v :: rest))) : W p l e R s m args below meth c H locs cells slots Q (F0 m pc ls (.ref a :: rest)) :=
  va_get C.1 C.2.1 C.2.2.2.2.2.1 hin C.2.2.2.2.1 C.2.2.2.2.2.2.2.1 hP q0 he hc k hk (C.2.2.2.2.2.1 _ hl) (fun _ h9 => h9) hv hdg kk
/-- getfield of a nest mate's private field -/
theorem hk_getN {host : String} (C : hk_C p s m meth c own cc nL ret0 args G) (hP : va_P (hk_D G) classes ws H) (q0 ci k : Nat) {Cn : String} {T : u_T} {N : Nat} (hin : ∀ w ∈ u_ws Cn T N, w ∈ hk_w) {fs : List Value} (he : ws[q0]? = some (a, .inr (ci, fs))) (hc : classes[ci]? = some (Cn, T, N)) (hk : k < N) (hl : Cond.fieldLinkNest own idx (T k).1 (T k).2.1 (T k).2.2.1 host ∈ lw_tbl) {v : Value} (hv : fs[k]? = some v) (hdg : decode cc pc = .ok (.getfield idx, 3))
    (kk : W p l e R s m args below meth c H locs cells slots Q (F0 m (pc + 3) ls (v :: rest))) : W p l e R s m args below meth c H locs cells slots Q (F0 m pc ls (.ref a :: rest)) :=
  va_getN C.1 C.2.1 C.2.2.2.2.2.1 hin C.2.2.2.2.1 C.2.2.2.2.2.2.2.1 hP q0 he hc k hk (va_Nw.use rfl (C.2.2.2.2.2.2.2.2.1 _ hl rfl)) (fun _ h9 => h9) hv hdg kk
/-- putfield of the own class -/
theorem hk_put (C : hk_C p s m meth c own cc nL ret0 args G) (hP : va_P (hk_D G) classes ws H) (hD : va_D A ws) (hS : va_S A H0 H locs) (q0 ci k : Nat) {Cn : String} {T : u_T} {N : Nat} (hin : ∀ w ∈ u_ws Cn T N, w ∈ hk_w) {ty0 : Nat → FieldType} (hty : ∀ k, k < N → parseFieldDescriptor (T k).2.2.1 = some (ty0 k)) (hnm : ∀ a, a < N → ∀ b, b < N → a ≠ b → (T a).2.1 ≠ (T b).2.1) {fs : List Value} (he : ws[q0]? = some (a, .inr (ci, fs))) (hc : classes[ci]? = some (Cn, T, N)) (hk : k < N) (hl : Cond.fieldLink own idx (T k).1 (T k).2.1 (T k).2.2.1 ∈ hk_w) (hfin : (T k).2.2.2 = false) {ty : FieldType} {v : Value} (hd : parseFieldDescriptor (T k).2.2.1 = some ty) (hn : narrow ty v = v) (hfit : fits ty v = true) (hlen : k < fs.length) (hw : ws.set q0 (a, .inr (ci, fs.set k v)) = w2) (hdg : decode cc pc = .ok (.putfield idx, 3))
    (kk : ∀ (H1 : Heap) (locs1 : List Loc), va_P (hk_D G) classes w2 H1 → va_D A w2 → va_S A H0 H1 locs1 → W p l e R s m args below meth c H1 locs1 cells slots Q (F0 m (pc + 3) ls rest)) : W p l e R s m args below meth c H locs cells slots Q (F0 m pc ls (v :: .ref a :: rest)) := by
  subst hw
  exact va_put C.1 C.2.1 C.2.2.2.2.2.1 hin ty0 hty hnm C.2.2.2.2.1 C.2.2.2.2.2.2.2.1 hP hD hS q0 he hc k hk (C.2.2.2.2.2.1 _ hl) (fun _ h9 => h9) hfin hd hn hfit hlen hdg kk
/-- putfield of a nest mate's private field -/
theorem hk_putN {host : String} (C : hk_C p s m meth c own cc nL ret0 args G) (hP : va_P (hk_D G) classes ws H) (hD : va_D A ws) (hS : va_S A H0 H locs) (q0 ci k : Nat) {Cn : String} {T : u_T} {N : Nat} (hin : ∀ w ∈ u_ws Cn T N, w ∈ hk_w) {ty0 : Nat → FieldType} (hty : ∀ k, k < N → parseFieldDescriptor (T k).2.2.1 = some (ty0 k)) (hnm : ∀ a, a < N → ∀ b, b < N → a ≠ b → (T a).2.1 ≠ (T b).2.1) {fs : List Value} (he : ws[q0]? = some (a, .inr (ci, fs))) (hc : classes[ci]? = some (Cn, T, N)) (hk : k < N) (hl : Cond.fieldLinkNest own idx (T k).1 (T k).2.1 (T k).2.2.1 host ∈ lw_tbl) (hfin : (T k).2.2.2 = false) {ty : FieldType} {v : Value} (hd : parseFieldDescriptor (T k).2.2.1 = some ty) (hn : narrow ty v = v) (hfit : fits ty v = true) (hlen : k < fs.length) (hw : ws.set q0 (a, .inr (ci, fs.set k v)) = w2) (hdg : decode cc pc = .ok (.putfield idx, 3))
    (kk : ∀ (H1 : Heap) (locs1 : List Loc), va_P (hk_D G) classes w2 H1 → va_D A w2 → va_S A H0 H1 locs1 → W p l e R s m args below meth c H1 locs1 cells slots Q (F0 m (pc + 3) ls rest)) : W p l e R s m args below meth c H locs cells slots Q (F0 m pc ls (v :: .ref a :: rest)) := by
  subst hw
  exact va_putN C.1 C.2.1 C.2.2.2.2.2.1 hin ty0 hty hnm C.2.2.2.2.1 C.2.2.2.2.2.2.2.1 hP hD hS q0 he hc k hk (va_Nw.use rfl (C.2.2.2.2.2.2.2.2.1 _ hl rfl)) (fun _ h9 => h9) hfin hd hn hfit hlen hdg kk
theorem hk_ild (C : hk_C p s m meth c own cc nL ret0 args G) (hP : va_P (hk_D G) classes ws H) (q0 t0 : Nat) {cA : ClassId} {N : Nat} {f : Nat → Int32} (ha : ws[q0]? = some (a, .inl (cA, N, .inl f))) (ht : (hk_ty G)[t0]? = some (cA, .int)) {i v : Int32} (hin : vp_in i N) (hv : f i.toNatClampNeg = v) (hdg : decode cc pc = .ok (.iaload, 1))
    (kk : W p l e R s m args below meth c H locs cells slots Q (F0 m (pc + 1) ls (.int v :: rest))) : W p l e R s m args below meth c H locs cells slots Q (F0 m pc ls (.int i :: .ref a :: rest)) := by
  subst hv
  exact va_iald C.1 C.2.1 C.2.2.2.2.2.2.2.1 hP q0 t0 ha ht hin hdg kk
theorem hk_zld (C : hk_C p s m meth c own cc nL ret0 args G) (hP : va_P (hk_D G) classes ws H) (q0 t0 : Nat) {cA : ClassId} {N : Nat} {f : Nat → Int32} (ha : ws[q0]? = some (a, .inl (cA, N, .inl f))) (ht : (hk_ty G)[t0]? = some (cA, .boolean)) {i v : Int32} (hin : vp_in i N) (hv : f i.toNatClampNeg = v) (hdg : decode cc pc = .ok (.baload, 1))
    (kk : W p l e R s m args below meth c H locs cells slots Q (F0 m (pc + 1) ls (.int v :: rest))) : W p l e R s m args below meth c H locs cells slots Q (F0 m pc ls (.int i :: .ref a :: rest)) := by
  subst hv
  exact va_zald C.1 C.2.1 C.2.2.2.2.2.2.2.1 hP q0 t0 ha ht hin hdg kk
theorem hk_ist (C : hk_C p s m meth c own cc nL ret0 args G) (hP : va_P (hk_D G) classes ws H) (hD : va_D A ws) (hS : va_S A H0 H locs) (q0 t0 : Nat) {cA : ClassId} {N : Nat} {f : Nat → Int32} (ha : ws[q0]? = some (a, .inl (cA, N, .inl f))) (ht : (hk_ty G)[t0]? = some (cA, .int)) {i x : Int32} (hin : vp_in i N) (hw : ws.set q0 (a, .inl (cA, N, .inl (upd f i.toNatClampNeg x))) = w2) (hdg : decode cc pc = .ok (.iastore, 1))
    (kk : ∀ (H1 : Heap) (locs1 : List Loc), va_P (hk_D G) classes w2 H1 → va_D A w2 → va_S A H0 H1 locs1 → W p l e R s m args below meth c H1 locs1 cells slots Q (F0 m (pc + 1) ls rest)) : W p l e R s m args below meth c H locs cells slots Q (F0 m pc ls (.int x :: .int i :: .ref a :: rest)) := by
  subst hw
  exact va_iast C.1 C.2.1 C.2.2.2.2.2.2.2.1 hP hD hS q0 t0 ha ht hin hdg kk
theorem hk_nar01 {x : Int32} (h : x = 0 ∨ x = 1) : vp_nar .boolean x = x := by rcases h with rfl | rfl <;> rfl
theorem hk_zst (C : hk_C p s m meth c own cc nL ret0 args G) (hP : va_P (hk_D G) classes ws H) (hD : va_D A ws) (hS : va_S A H0 H locs) (q0 t0 : Nat) {cA : ClassId} {N : Nat} {f : Nat → Int32} (ha : ws[q0]? = some (a, .inl (cA, N, .inl f))) (ht : (hk_ty G)[t0]? = some (cA, .boolean)) {i x : Int32} (hin : vp_in i N) (h01 : x = 0 ∨ x = 1) (hw : ws.set q0 (a, .inl (cA, N, .inl (upd f i.toNatClampNeg x))) = w2) (hdg : decode cc pc = .ok (.bastore, 1))
    (kk : ∀ (H1 : Heap) (locs1 : List Loc), va_P (hk_D G) classes w2 H1 → va_D A w2 → va_S A H0 H1 locs1 → W p l e R s m args below meth c H1 locs1 cells slots Q (F0 m (pc + 1) ls rest)) : W p l e R s m args below meth c H locs cells slots Q (F0 m pc ls (.int x :: .int i :: .ref a :: rest)) := by
  subst hw
  refine va_zast C.1 C.2.1 C.2.2.2.2.2.2.2.1 hP hD hS q0 t0 ha ht hin hdg ?_
  rw [hk_nar01 h01]
  exact kk
/-- aaload, from an array of objects -/
theorem hk_ald (C : hk_C p s m meth c own cc nL ret0 args G) (hP : va_P (hk_D G) classes ws H) (q0 t0 : Nat) {cA : ClassId} {Cn : String} {N : Nat} {f : Nat → Option Nat} (ha : ws[q0]? = some (a, .inl (cA, N, .inr (.inr (.inr (.inr f)))))) (ht : (hk_ty G)[t0]? = some (cA, .object Cn)) {i : Int32} {v : Nat} (hin : vp_in i N) (hv : f i.toNatClampNeg = some v) (hdg : decode cc pc = .ok (.aaload, 1))
    (kk : W p l e R s m args below meth c H locs cells slots Q (F0 m (pc + 1) ls (.ref v :: rest))) : W p l e R s m args below meth c H locs cells slots Q (F0 m pc ls (.int i :: .ref a :: rest)) := by
  refine va_aldq C.1 C.2.1 C.2.2.2.2.2.2.2.1 hP q0 t0 ha ht hin hdg ?_
  rw [hv]
  exact kk
/-- aaload, from an array of arrays of ints -/
theorem hk_aldg (C : hk_C p s m meth c own cc nL ret0 args G) (hP : va_P (hk_D G) classes ws H) (q0 t0 : Nat) {cA : ClassId} {N : Nat} {f : Nat → Option Nat} (ha : ws[q0]? = some (a, .inl (cA, N, .inr (.inr (.inr (.inr f)))))) (ht : (hk_ty G)[t0]? = some (cA, .array .int)) {i : Int32} {v : Nat} (hin : vp_in i N) (hv : f i.toNatClampNeg = some v) (hdg : decode cc pc = .ok (.aaload, 1))
    (kk : W p l e R s m args below meth c H locs cells slots Q (F0 m (pc + 1) ls (.ref v :: rest))) : W p l e R s m args below meth c H locs cells slots Q (F0 m pc ls (.int i :: .ref a :: rest)) := by
  have hlt : i.toNatClampNeg < N := Nat.not_le.mp fun q => hin (Or.inr q)
  have hK := C.2.2.2.2.2.2.2.1
  refine W.aald (v := va_rf (f i.toNatClampNeg)) (ty := .array .int) C.1 C.2.1 (hP q0 _ ha) ((hK.2 t0 _ ht).1 N (fun j => va_rf (f j))) rfl (fun q => by cases q) (by show ¬ (i < 0 ∨ (arrV _ _ _).slots.size ≤ _); rw [arrV_size]; exact hin) (by show (arrV _ _ _).slots[_]? = _; rw [arrV_read _ _ hlt]) rfl rfl hdg ?_
  rw [hv]
  exact kk
theorem hk_fold {x z : Int32} (h : x = z) (kk : W p l e R s m args below meth c H locs cells slots Q (F0 m pc ls (.int z :: rest))) : W p l e R s m args below meth c H locs cells slots Q (F0 m pc ls (.int x :: rest)) := by
  subst h
  exact kk
theorem hk_mmax (C : hk_C p s m meth c own cc nL ret0 args G) (hl : Cond.methodLink own idx Lib.Math.max.name ∈ hk_w) (hf : 1 ≤ R.frames) (hlo : (rest.map fun v => v.category).sum + 13 ≤ R.locals) (hc : cells ≤ R.cells) (hs : slots ≤ R.slots) (hls : ls.size = nL) {x z : Int32} (hdg : decode cc pc = .ok (.invokestatic idx, 3))
    (kk : W p l e R s m args below meth c H locs cells slots Q (F0 m (pc + 3) ls (.int (mx x z) :: rest))) : W p l e R s m args below meth c H locs cells slots Q (F0 m pc ls (.int z :: .int x :: rest)) :=
  va_mmax C.1 C.2.1 (C.2.2.2.1.trans hls.symm) C.2.2.2.2.1 (C.2.2.2.2.2.1 _ hl) (C.2.2.2.2.2.1 _ YM_max.1) (C.2.2.2.2.2.1 _ YM_max.2.1) (C.2.2.2.2.2.1 _ YM_max.2.2) hf hlo hc hs hdg kk
theorem hk_mmin (C : hk_C p s m meth c own cc nL ret0 args G) (hl : Cond.methodLink own idx Lib.Math.min.name ∈ hk_w) (hf : 1 ≤ R.frames) (hlo : (rest.map fun v => v.category).sum + 13 ≤ R.locals) (hc : cells ≤ R.cells) (hs : slots ≤ R.slots) (hls : ls.size = nL) {x z : Int32} (hdg : decode cc pc = .ok (.invokestatic idx, 3))
    (kk : W p l e R s m args below meth c H locs cells slots Q (F0 m (pc + 3) ls (.int (mn x z) :: rest))) : W p l e R s m args below meth c H locs cells slots Q (F0 m pc ls (.int z :: .int x :: rest)) :=
  va_mmin C.1 C.2.1 (C.2.2.2.1.trans hls.symm) C.2.2.2.2.1 (C.2.2.2.2.2.1 _ hl) (C.2.2.2.2.2.1 _ YM_min.1) (C.2.2.2.2.2.1 _ YM_min.2.1) (C.2.2.2.2.2.1 _ YM_min.2.2) hf hlo hc hs hdg kk
theorem hk_mabs (C : hk_C p s m meth c own cc nL ret0 args G) (hl : Cond.methodLink own idx Lib.Math.abs.name ∈ hk_w) (hf : 1 ≤ R.frames) (hlo : (rest.map fun v => v.category).sum + 13 ≤ R.locals) (hc : cells ≤ R.cells) (hs : slots ≤ R.slots) (hls : ls.size = nL) {x : Int32} (hdg : decode cc pc = .ok (.invokestatic idx, 3))
    (kk : W p l e R s m args below meth c H locs cells slots Q (F0 m (pc + 3) ls (.int (ab x) :: rest))) : W p l e R s m args below meth c H locs cells slots Q (F0 m pc ls (.int x :: rest)) :=
  va_mabs C.1 C.2.1 (C.2.2.2.1.trans hls.symm) C.2.2.2.2.1 (C.2.2.2.2.2.1 _ hl) (C.2.2.2.2.2.1 _ YM_abs.1) (C.2.2.2.2.2.1 _ YM_abs.2.1) (C.2.2.2.2.2.1 _ YM_abs.2.2) hf hlo hc hs hdg kk
end HKW
