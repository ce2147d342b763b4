/-! WORLDS: the pictures of the objects -/
abbrev cS : Type := Int32 × Int32 × Int32
abbrev cL : Type := (Nat → Int32) × (Nat → Int32) × (Nat → Int32) × Int32 × Int32 × Int32
abbrev cB : Type := (Nat → Int32) × (Nat → Int32) × (Nat → Int32) × (Nat → cS) × cS × (Nat → cS) × cL × (Nat → Nat → Int32) × Int32 × Int32 × Int32 × Int32 × Int32 × Int32
def l0 (u : cL) : Nat → Int32 := u.1
def l1 (u : cL) : Nat → Int32 := u.2.1
def l2 (u : cL) : Nat → Int32 := u.2.2.1
def l3 (u : cL) : Int32 := u.2.2.2.1
def l4 (u : cL) : Int32 := u.2.2.2.2.1
def l5 (u : cL) : Int32 := u.2.2.2.2.2
def t0 (u : cL) (v : Nat → Int32) : cL := (v, u.2)
def t1 (u : cL) (v : Nat → Int32) : cL := (u.1, v, u.2.2)
def t2 (u : cL) (v : Nat → Int32) : cL := (u.1, u.2.1, v, u.2.2.2)
def t3 (u : cL) (v : Int32) : cL := (u.1, u.2.1, u.2.2.1, v, u.2.2.2.2)
def t4 (u : cL) (v : Int32) : cL := (u.1, u.2.1, u.2.2.1, u.2.2.2.1, v, u.2.2.2.2.2)
def t5 (u : cL) (v : Int32) : cL := (u.1, u.2.1, u.2.2.1, u.2.2.2.1, u.2.2.2.2.1, v)
def b0 (u : cB) : Nat → Int32 := u.1
def b1 (u : cB) : Nat → Int32 := u.2.1
def b2 (u : cB) : Nat → Int32 := u.2.2.1
def b3 (u : cB) : Nat → cS := u.2.2.2.1
def b4 (u : cB) : cS := u.2.2.2.2.1
def b5 (u : cB) : Nat → cS := u.2.2.2.2.2.1
def b6 (u : cB) : cL := u.2.2.2.2.2.2.1
def b7 (u : cB) : Nat → Nat → Int32 := u.2.2.2.2.2.2.2.1
def b8 (u : cB) : Int32 := u.2.2.2.2.2.2.2.2.1
def b9 (u : cB) : Int32 := u.2.2.2.2.2.2.2.2.2.1
def b10 (u : cB) : Int32 := u.2.2.2.2.2.2.2.2.2.2.1
def b11 (u : cB) : Int32 := u.2.2.2.2.2.2.2.2.2.2.2.1
def b12 (u : cB) : Int32 := u.2.2.2.2.2.2.2.2.2.2.2.2.1
def b13 (u : cB) : Int32 := u.2.2.2.2.2.2.2.2.2.2.2.2.2
def s0 (u : cB) (v : Nat → Int32) : cB := (v, u.2)
def s1 (u : cB) (v : Nat → Int32) : cB := (u.1, v, u.2.2)
def s2 (u : cB) (v : Nat → Int32) : cB := (u.1, u.2.1, v, u.2.2.2)
def s3 (u : cB) (v : Nat → cS) : cB := (u.1, u.2.1, u.2.2.1, v, u.2.2.2.2)
def s4 (u : cB) (v : cS) : cB := (u.1, u.2.1, u.2.2.1, u.2.2.2.1, v, u.2.2.2.2.2)
def s5 (u : cB) (v : Nat → cS) : cB := (u.1, u.2.1, u.2.2.1, u.2.2.2.1, u.2.2.2.2.1, v, u.2.2.2.2.2.2)
def s6 (u : cB) (v : cL) : cB := (u.1, u.2.1, u.2.2.1, u.2.2.2.1, u.2.2.2.2.1, u.2.2.2.2.2.1, v, u.2.2.2.2.2.2.2)
def s7 (u : cB) (v : Nat → Nat → Int32) : cB := (u.1, u.2.1, u.2.2.1, u.2.2.2.1, u.2.2.2.2.1, u.2.2.2.2.2.1, u.2.2.2.2.2.2.1, v, u.2.2.2.2.2.2.2.2)
def s8 (u : cB) (v : Int32) : cB := (u.1, u.2.1, u.2.2.1, u.2.2.2.1, u.2.2.2.2.1, u.2.2.2.2.2.1, u.2.2.2.2.2.2.1, u.2.2.2.2.2.2.2.1, v, u.2.2.2.2.2.2.2.2.2)
def s9 (u : cB) (v : Int32) : cB := (u.1, u.2.1, u.2.2.1, u.2.2.2.1, u.2.2.2.2.1, u.2.2.2.2.2.1, u.2.2.2.2.2.2.1, u.2.2.2.2.2.2.2.1, u.2.2.2.2.2.2.2.2.1, v, u.2.2.2.2.2.2.2.2.2.2)
def s10 (u : cB) (v : Int32) : cB := (u.1, u.2.1, u.2.2.1, u.2.2.2.1, u.2.2.2.2.1, u.2.2.2.2.2.1, u.2.2.2.2.2.2.1, u.2.2.2.2.2.2.2.1, u.2.2.2.2.2.2.2.2.1, u.2.2.2.2.2.2.2.2.2.1, v, u.2.2.2.2.2.2.2.2.2.2.2)
def s11 (u : cB) (v : Int32) : cB := (u.1, u.2.1, u.2.2.1, u.2.2.2.1, u.2.2.2.2.1, u.2.2.2.2.2.1, u.2.2.2.2.2.2.1, u.2.2.2.2.2.2.2.1, u.2.2.2.2.2.2.2.2.1, u.2.2.2.2.2.2.2.2.2.1, u.2.2.2.2.2.2.2.2.2.2.1, v, u.2.2.2.2.2.2.2.2.2.2.2.2)
def s12 (u : cB) (v : Int32) : cB := (u.1, u.2.1, u.2.2.1, u.2.2.2.1, u.2.2.2.2.1, u.2.2.2.2.2.1, u.2.2.2.2.2.2.1, u.2.2.2.2.2.2.2.1, u.2.2.2.2.2.2.2.2.1, u.2.2.2.2.2.2.2.2.2.1, u.2.2.2.2.2.2.2.2.2.2.1, u.2.2.2.2.2.2.2.2.2.2.2.1, v, u.2.2.2.2.2.2.2.2.2.2.2.2.2)
def s13 (u : cB) (v : Int32) : cB := (u.1, u.2.1, u.2.2.1, u.2.2.2.1, u.2.2.2.2.1, u.2.2.2.2.2.1, u.2.2.2.2.2.2.1, u.2.2.2.2.2.2.2.1, u.2.2.2.2.2.2.2.2.1, u.2.2.2.2.2.2.2.2.2.1, u.2.2.2.2.2.2.2.2.2.2.1, u.2.2.2.2.2.2.2.2.2.2.2.1, u.2.2.2.2.2.2.2.2.2.2.2.2.1, v)
def wS (a0 : Nat) (x : cS) : va_W := [(a0, .inr (0, [.int x.1, .int x.2.1, .int x.2.2]))]
def wP (a0 : Nat) (x : cS) : va_W := [(a0, .inr (1, [.int x.1, .int x.2.1, .int x.2.2]))]
def wN (a0 : Nat) (x : cS) : va_W := [(a0, .inr (2, [.int x.1, .int x.2.1, .int x.2.2]))]
def hk_rf (f : Nat → Nat) (n : Nat) : Nat → Option Nat := fun j => if j < n then some (f j) else none
def wL (G : hk_G) (a0 a1 a2 a3 : Nat) (x : cL) : va_W := [(a0, .inr (3, [.ref a1, .ref a2, .ref a3, .int (l3 x), .int (l4 x), .int (l5 x)])), (a1, .inl (G.2.2 0, 12, .inl (l0 x))), (a2, .inl (G.2.2 1, 12, .inl (l1 x))), (a3, .inl (G.2.2 1, 12, .inl (l2 x)))]
def wB (G : hk_G) (ad : Nat → Nat) (u : cB) : va_W := [(ad 0, .inr (4, [.ref (ad 1), .ref (ad 2), .ref (ad 3), .ref (ad 4), .ref (ad 7), .ref (ad 8), .ref (ad 13), .ref (ad 17), .int (b8 u), .int (b9 u), .int (b10 u), .int (b11 u), .int (b12 u), .int (b13 u)])), (ad 1, .inl (G.2.2 0, 9, .inl (b0 u))), (ad 2, .inl (G.2.2 0, 10, .inl (b1 u))), (ad 3, .inl (G.2.2 1, 6, .inl (b2 u))), (ad 4, .inl (G.2.2 2, 2, .inr (.inr (.inr (.inr (hk_rf (fun j => ad (5 + j)) 2)))))), (ad 5, .inr (0, [.int (b3 u 0).1, .int (b3 u 0).2.1, .int (b3 u 0).2.2])), (ad 6, .inr (0, [.int (b3 u 1).1, .int (b3 u 1).2.1, .int (b3 u 1).2.2])), (ad 7, .inr (1, [.int (b4 u).1, .int (b4 u).2.1, .int (b4 u).2.2])), (ad 8, .inl (G.2.2 3, 4, .inr (.inr (.inr (.inr (hk_rf (fun j => ad (9 + j)) 4)))))), (ad 9, .inr (2, [.int (b5 u 0).1, .int (b5 u 0).2.1, .int (b5 u 0).2.2])), (ad 10, .inr (2, [.int (b5 u 1).1, .int (b5 u 1).2.1, .int (b5 u 1).2.2])), (ad 11, .inr (2, [.int (b5 u 2).1, .int (b5 u 2).2.1, .int (b5 u 2).2.2])), (ad 12, .inr (2, [.int (b5 u 3).1, .int (b5 u 3).2.1, .int (b5 u 3).2.2])), (ad 13, .inr (3, [.ref (ad 14), .ref (ad 15), .ref (ad 16), .int (l3 (b6 u)), .int (l4 (b6 u)), .int (l5 (b6 u))])), (ad 14, .inl (G.2.2 0, 12, .inl (l0 (b6 u)))), (ad 15, .inl (G.2.2 1, 12, .inl (l1 (b6 u)))), (ad 16, .inl (G.2.2 1, 12, .inl (l2 (b6 u)))), (ad 17, .inl (G.2.2 4, 4, .inr (.inr (.inr (.inr (hk_rf (fun j => ad (18 + j)) 4)))))), (ad 18, .inl (G.2.2 0, 5, .inl (b7 u 0))), (ad 19, .inl (G.2.2 0, 5, .inl (b7 u 1))), (ad 20, .inl (G.2.2 0, 5, .inl (b7 u 2))), (ad 21, .inl (G.2.2 0, 5, .inl (b7 u 3)))]
/-! HK2: rows of constructors: objects and arrays come to be -/
def hk_BC (G : hk_G) (w0 : va_W) (w1 : (Nat → Nat) → va_W) (sz : Nat) (ad : Nat → Nat) (t : State) : Prop := va_P (hk_D G) classes (w1 ad) t.heap ∧ va_D (va_A w0 sz) (w1 ad)
/-- a void method that makes cells: their addresses come -/
def hk_N (l : Launch) (G : hk_G) (y : MethodName) (b : ByteArray) (n : Nat) (rm : Room) (mc ms : Nat) (av : List Value) (w0 : va_W) (w1 : (Nat → Nat) → va_W) : Prop :=
  ∀ sz : Nat, Met l y (Cond.code y b n none :: hk_w) rm (va_Pc av (hk_P G w0 sz)) (va_Qv (fun (_ : Nat → Nat) => True) (hk_BC G w0 w1 sz) (va_A w0 sz)) mc ms (va_A w0 sz)
theorem hk_N_of {l : Launch} {G : hk_G} {y : MethodName} {b : ByteArray} {n : Nat} {rm : Room} {mc ms : Nat} {av : List Value} {w0 : va_W} {w1 : (Nat → Nat) → va_W} (hy : plainName y.cls = true) (hn : (lg_sl av).length ≤ n)
    (body : ∀ (p : Program) (e : Env) (s : State) (m : MethodId) (below : List Frame) (meth : Method) (c : Code) (A : Nat → Prop) (ls : Array Slot),
      hk_C p s m meth c y.cls b n none av.toArray G → meth.name = y.name → va_A w0 s.heap.size = A → (∀ q : Nat, s.heap.size ≤ q → A q) → va_P (hk_D G) classes w0 s.heap → va_D A w0 → va_S A s.heap s.heap [] → lv_has ls n (lv_args 0 av) →
      W p l e rm s m av.toArray below meth c s.heap [] 0 0 (MQ below (va_Qv (fun (_ : Nat → Nat) => True) (hk_BC G w0 w1 s.heap.size) A) av.toArray s mc ms A) (F0 m 0 ls [])) : hk_N l G y b n rm mc ms av w0 w1 := by
  intro sz
  refine Met.ofW (cc := b) (maxL := n) (ret := none) hy rfl ?_
  intro p e s m args below meth c s₁ B hml hv
  obtain ⟨rfl, hsz, hP, hE, hD0⟩ := hv
  subst hsz
  have hts := atoms_spec (ws := Cond.code y b n none :: hk_w) B.pre
  rw [lg_entry_eq]
  exact body p e s m below meth c (va_A w0 s.heap.size) _ ⟨B.exec, B.bytes, B.returns, hml, findClass_of_methodNamed B.named, fun w h => hts w (List.mem_cons_of_mem _ h), B.notSynchronized, hE⟩ (name_of_methodNamed B.named B.method).1 rfl (fun q h => Or.inr h) hP hD0.self va_S.rf (lv_entry av hn)
section HKN
variable {p : Program} {l : Launch} {e : Env} {R : Room} {s : State} {m : MethodId} {args : Array Value} {below : List Frame} {meth : Method} {c : Code} {H : Heap} {locs : List Loc} {cells slots : Nat} {Q : State → Prop}
variable {own : String} {b cc : ByteArray} {n nL : Nat} {ret ret0 : Option FieldType} {G : hk_G} {A : Nat → Prop} {w0 w : va_W} {pc : Nat} {ls : Array Slot} {rest st : List Value} {H0 : Heap} {ws wc w2 : va_W}
variable {y : MethodName} {yb : ByteArray} {yn k idx : Nat} {rm : Room} {Qc : Array Value → State → Outcome → State → Prop} {free : Addr → Prop} {a : Nat} {As : List Value} {mc ms : Nat}
theorem hk_rn {w1 : (Nat → Nat) → va_W} (ad : Nat → Nat) (C : hk_C p s m meth c own b n none args G) (hA : va_A w0 s.heap.size = A) (hP : va_P (hk_D G) classes w H) (hD : va_D A w) (hS : va_S A s.heap H locs) (hw : w = w1 ad) (hdg : decode b pc = .ok (.return_, 1)) :
    W p l e R s m args below meth c H locs cells slots (MQ below (va_Qv (fun (_ : Nat → Nat) => True) (hk_BC G w0 w1 s.heap.size) A) args s cells slots A) (F0 m pc ls []) := by
  subst hw
  subst hA
  exact W.vret C.1 C.2.1 C.2.2.1 (fun t ht hW => ⟨⟨ad, rfl, trivial, by rw [ht]; exact hP, hD⟩, hS.F ht⟩) hS.2.2 hdg C.2.2.2.2.2.2.1
theorem hk_oi (C : hk_C p s m meth c own cc nL ret0 args G) (hl : Cond.methodLink own idx Lib.objectInit ∈ hk_w) (hls : ls.size = nL) (hf : 1 ≤ R.frames) (hlo : (rest.map fun v => v.category).sum + 12 ≤ R.locals) (hdg : decode cc pc = .ok (.invokespecial idx, 3))
    (kk : W p l e R s m args below meth c H locs cells slots Q (F0 m (pc + 3) ls rest)) : W p l e R s m args below meth c H locs cells slots Q (F0 m pc ls (.ref a :: rest)) :=
  W.objInit C.1 C.2.1 C.2.2.2.2.1 (C.2.2.2.2.2.1 _ hl) (C.2.2.2.2.2.1 _ YO.1) (C.2.2.2.2.2.1 _ YO.2) (g := F0 m pc ls (.ref a :: rest)) rfl (hls.trans C.2.2.2.1.symm) rfl hdg hf (by show 2 * 0 + _ + 12 ≤ _; omega) kk
/-- an array of ints (ty := .int) or booleans, its class as the tables have it -/
theorem hk_newI (C : hk_C p s m meth c own cc nL ret0 args G) (harr : Cond.arrayClass .int ∈ hk_w) (hP : va_P (hk_D G) classes ws H) (hD : va_D A ws) (hS : va_S A H0 H locs) (hA : ∀ q, H0.size ≤ q → A q) (t0 : Nat) {cT : ClassId} (ht : (hk_ty G)[t0]? = some (cT, .int)) {z : Int32} {N : Nat} (hn : ¬ z < 0) (hN : z.toNatClampNeg = N) (hby : N * 4 ≤ 536870912) (hc : cells + 1 ≤ R.cells) (hs : slots + N ≤ R.slots) (hdg : decode cc pc = .ok (.newarray .int, 2))
    (kk : ∀ (q : Nat) (H1 : Heap), va_P (hk_D G) classes (ws ++ [(q, .inl (cT, N, .inl (fun _ => 0)))]) H1 → va_D A (ws ++ [(q, .inl (cT, N, .inl (fun _ => 0)))]) → va_S A H0 H1 locs → W p l e R s m args below meth c H1 locs (cells + 1) (slots + N) Q (F0 m (pc + 2) ls (.ref q :: rest))) : W p l e R s m args below meth c H locs cells slots Q (F0 m pc ls (.int z :: rest)) := by
  have hK := C.2.2.2.2.2.2.2.1
  refine va_newa (atype := .int) C.1 C.2.1 (C.2.2.2.2.2.1 _ harr) (ty := .int) rfl hK hP hD hS hA (a0 := (N, .inl (fun _ => 0))) (fun cA => rfl) hn hN hby hc hs hdg (fun q cA H1 hK1 hP1 hD1 hS1 => ?_)
  have h1 : s.vm.findClass ("[" ++ (FieldType.int).toString) = some cA := (hK1.2 (hk_ty G).length (cA, .int) (by simp)).2
  have h2 : s.vm.findClass ("[" ++ (FieldType.int).toString) = some cT := (hK.2 t0 _ ht).2
  obtain rfl : cA = cT := Option.some.inj (h1.symm.trans h2)
  exact kk q H1 hP1 hD1 hS1
theorem hk_newZ (C : hk_C p s m meth c own cc nL ret0 args G) (harr : Cond.arrayClass .boolean ∈ hk_w) (hP : va_P (hk_D G) classes ws H) (hD : va_D A ws) (hS : va_S A H0 H locs) (hA : ∀ q, H0.size ≤ q → A q) (t0 : Nat) {cT : ClassId} (ht : (hk_ty G)[t0]? = some (cT, .boolean)) {z : Int32} {N : Nat} (hn : ¬ z < 0) (hN : z.toNatClampNeg = N) (hby : N * 1 ≤ 536870912) (hc : cells + 1 ≤ R.cells) (hs : slots + N ≤ R.slots) (hdg : decode cc pc = .ok (.newarray .boolean, 2))
    (kk : ∀ (q : Nat) (H1 : Heap), va_P (hk_D G) classes (ws ++ [(q, .inl (cT, N, .inl (fun _ => 0)))]) H1 → va_D A (ws ++ [(q, .inl (cT, N, .inl (fun _ => 0)))]) → va_S A H0 H1 locs → W p l e R s m args below meth c H1 locs (cells + 1) (slots + N) Q (F0 m (pc + 2) ls (.ref q :: rest))) : W p l e R s m args below meth c H locs cells slots Q (F0 m pc ls (.int z :: rest)) := by
  have hK := C.2.2.2.2.2.2.2.1
  refine va_newa (atype := .boolean) C.1 C.2.1 (C.2.2.2.2.2.1 _ harr) (ty := .boolean) rfl hK hP hD hS hA (a0 := (N, .inl (fun _ => 0))) (fun cA => rfl) hn hN hby hc hs hdg (fun q cA H1 hK1 hP1 hD1 hS1 => ?_)
  have h1 : s.vm.findClass ("[" ++ (FieldType.boolean).toString) = some cA := (hK1.2 (hk_ty G).length (cA, .boolean) (by simp)).2
  have h2 : s.vm.findClass ("[" ++ (FieldType.boolean).toString) = some cT := (hK.2 t0 _ ht).2
  obtain rfl : cA = cT := Option.some.inj (h1.symm.trans h2)
  exact kk q H1 hP1 hD1 hS1
/-- an array of objects -/
theorem hk_newq {Cn : String} (C : hk_C p s m meth c own cc nL ret0 args G) (hcl : Cond.classLink own idx Cn ∈ hk_w) (hov : va_AO Cn s) (hP : va_P (hk_D G) classes ws H) (hD : va_D A ws) (hS : va_S A H0 H locs) (hA : ∀ q, H0.size ≤ q → A q) (t0 : Nat) {cT : ClassId} (ht : (hk_ty G)[t0]? = some (cT, .object Cn)) {z : Int32} {N : Nat} (hn : ¬ z < 0) (hN : z.toNatClampNeg = N) (hby : N * 4 ≤ 536870912) (hc : cells + 1 ≤ R.cells) (hs : slots + N ≤ R.slots) (hdg : decode cc pc = .ok (.anewarray idx, 3))
    (kk : ∀ (q : Nat) (H1 : Heap), va_P (hk_D G) classes (ws ++ [(q, .inl (cT, N, .inr (.inr (.inr (.inr (fun _ => none))))))]) H1 → va_D A (ws ++ [(q, .inl (cT, N, .inr (.inr (.inr (.inr (fun _ => none))))))]) → va_S A H0 H1 locs → W p l e R s m args below meth c H1 locs (cells + 1) (slots + N) Q (F0 m (pc + 3) ls (.ref q :: rest))) : W p l e R s m args below meth c H locs cells slots Q (F0 m pc ls (.int z :: rest)) := by
  have hK := C.2.2.2.2.2.2.2.1
  refine va_newq C.1 C.2.1 C.2.2.2.2.1 (C.2.2.2.2.2.1 _ hcl) hov hK hP hD hS hA hn hN hby hc hs hdg (fun q cA H1 hK1 hP1 hD1 hS1 => ?_)
  obtain ⟨-, -, -, -, -, h1⟩ := (hK1.2 (hk_ty G).length (cA, .object Cn) (by simp)).2
  obtain ⟨-, -, -, -, -, h2⟩ := (hK.2 t0 _ ht).2
  obtain rfl : cA = cT := Option.some.inj (h1.symm.trans h2)
  exact kk q H1 hP1 hD1 hS1
/-- a new object -/
theorem hk_new {Cn : String} (C : hk_C p s m meth c own cc nL ret0 args G) (ci : Nat) {T : u_T} {N : Nat} (hin : ∀ w ∈ u_ws Cn T N, w ∈ hk_w) {ty0 : Nat → FieldType} (hty : ∀ k, k < N → parseFieldDescriptor (T k).2.2.1 = some (ty0 k)) (hcl : Cond.classLink own idx Cn ∈ hk_w) (hi : Cond.instantiable Cn N ∈ hk_w) (hini : Cond.initialized Cn ∈ hk_w) (hP : va_P (hk_D G) classes ws H) (hD : va_D A ws) (hS : va_S A H0 H locs) (hA : ∀ q, H0.size ≤ q → A q) (hc : classes[ci]? = some (Cn, T, N)) {fs : List Value} (hfs : ∀ j, j < N → defaultValue (ty0 j) = vp_V fs j) (hcc : cells + 1 ≤ R.cells) (hss : slots + N ≤ R.slots) (hdg : decode cc pc = .ok (.new idx, 3))
    (kk : ∀ (q : Nat) (H1 : Heap), va_P (hk_D G) classes (ws ++ [(q, .inr (ci, fs))]) H1 → va_D A (ws ++ [(q, .inr (ci, fs))]) → va_S A H0 H1 locs → W p l e R s m args below meth c H1 locs (cells + 1) (slots + N) Q (F0 m (pc + 3) ls (.ref q :: rest))) : W p l e R s m args below meth c H locs cells slots Q (F0 m pc ls rest) :=
  va_new C.1 C.2.1 C.2.2.2.2.2.1 hin ty0 hty C.2.2.2.2.1 (C.2.2.2.2.2.1 _ hcl) (C.2.2.2.2.2.1 _ hi) (C.2.2.2.2.2.1 _ hini) C.2.2.2.2.2.2.2.1 hP hD hS hA hc hfs hcc hss hdg kk
/-- a final field of the own class, in its constructor -/
theorem hk_putF (C : hk_C p s m meth c own cc nL ret0 args G) (hin2 : meth.name = "<init>") (hP : va_P (hk_D G) classes ws H) (hD : va_D A ws) (hS : va_S A H0 H locs) (q0 ci k : Nat) {Cn : String} {T : u_T} {N : Nat} (hin : ∀ w ∈ u_ws Cn T N, w ∈ hk_w) {ty0 : Nat → FieldType} (hty : ∀ k, k < N → parseFieldDescriptor (T k).2.2.1 = some (ty0 k)) (hnm : ∀ a, a < N → ∀ b, b < N → a ≠ b → (T a).2.1 ≠ (T b).2.1) {fs : List Value} (he : ws[q0]? = some (a, .inr (ci, fs))) (hc : classes[ci]? = some (Cn, T, N)) (hk : k < N) (hl : Cond.fieldLink own idx (T k).1 (T k).2.1 (T k).2.2.1 ∈ hk_w) (hfin : (T k).2.2.2 = true) (hown2 : (T k).1 = own) {ty : FieldType} {v : Value} (hd : parseFieldDescriptor (T k).2.2.1 = some ty) (hn : narrow ty v = v) (hfit : fits ty v = true) (hlen : k < fs.length) (hdg : decode cc pc = .ok (.putfield idx, 3))
    (kk : ∀ (H1 : Heap) (locs1 : List Loc), va_P (hk_D G) classes (ws.set q0 (a, .inr (ci, fs.set k v))) H1 → va_D A (ws.set q0 (a, .inr (ci, fs.set k v))) → va_S A H0 H1 locs1 → W p l e R s m args below meth c H1 locs1 cells slots Q (F0 m (pc + 3) ls rest)) : W p l e R s m args below meth c H locs cells slots Q (F0 m pc ls (v :: .ref a :: rest)) :=
  va_putF C.1 C.2.1 C.2.2.2.2.2.1 hin ty0 hty hnm C.2.2.2.2.1 C.2.2.2.2.2.2.2.1 hP hD hS q0 he hc k hk (C.2.2.2.2.2.1 _ hl) (fun _ h9 => h9) hfin hin2 hown2 hd hn hfit hlen hdg kk
/-- aastore of an object into an array of its class -/
theorem hk_ast (C : hk_C p s m meth c own cc nL ret0 args G) (hP : va_P (hk_D G) classes ws H) (hD : va_D A ws) (hS : va_S A H0 H locs) (q0 t0 qk ci : Nat) {cA : ClassId} {r : vw_C} {N v : Nat} {vs : List Value} {f : Nat → Option Nat} (ha : ws[q0]? = some (a, .inl (cA, N, .inr (.inr (.inr (.inr f)))))) (ht : (hk_ty G)[t0]? = some (cA, .object r.1)) (hv : ws[qk]? = some (v, .inr (ci, vs))) (hc : classes[ci]? = some r) {i : Int32} (hin : vp_in i N) (hdg : decode cc pc = .ok (.aastore, 1))
    (kk : ∀ (H1 : Heap) (locs1 : List Loc), va_P (hk_D G) classes (ws.set q0 (a, .inl (cA, N, .inr (.inr (.inr (.inr (va_up f i.toNatClampNeg (some v)))))))) H1 → va_D A (ws.set q0 (a, .inl (cA, N, .inr (.inr (.inr (.inr (va_up f i.toNatClampNeg (some v)))))))) → va_S A H0 H1 locs1 → W p l e R s m args below meth c H1 locs1 cells slots Q (F0 m (pc + 1) ls rest)) : W p l e R s m args below meth c H locs cells slots Q (F0 m pc ls (.ref v :: .int i :: .ref a :: rest)) :=
  va_astq C.1 C.2.1 C.2.2.2.2.2.2.2.1 hP hD hS q0 t0 qk ci ha ht hv hc hin hdg kk
/-- a constructor's words -/
def hk_YI (y : MethodName) (b : ByteArray) (n : Nat) (k : Nat) : Prop :=
  y.name = "<init>" ∧ Cond.instanceMethod y ∈ hk_w ∧ Cond.initialized y.cls ∈ hk_w ∧ Cond.code y b n none ∈ hk_w ∧ y.cls ≠ "java/lang/invoke/MethodHandle" ∧ y.cls ≠ "java/lang/invoke/VarHandle" ∧ (parseMethodDescriptor y.desc).map (fun d => d.parameters.length) = some k
/-- a nest mate's private constructor is called -/
theorem hk_kIN {host : String} (C : hk_C p s m meth c own cc nL ret0 args G) (hM : Met l y (Cond.code y yb yn none :: hk_w) rm (va_Pc (.ref a :: As) (hk_P G wc H.size)) Qc mc ms free) (hY : hk_YI y yb yn k) (hl : Cond.methodLinkNest own idx y host ∈ lw_tbl)
    (hrc : rm.cells = mc) (hrs : rm.slots = ms) (hR : rm.frames + 1 ≤ R.frames ∧ 8 + (yn + 11) + rm.locals ≤ R.locals) (hPc : va_P (hk_D G) classes wc H) (hDc : va_D A wc)
    (hk : As.length = k) (hls : ls.size = nL) (hst : st = As.reverse ++ .ref a :: rest) (hrm : (rest.map fun v => v.category).sum ≤ 8) (hdg : decode cc pc = .ok (.invokespecial idx, 3)) (hcs : cells + mc ≤ R.cells ∧ slots + ms ≤ R.slots) :
    va_Run p l e R s m args below meth c H locs cells slots mc ms (F0 m pc ls st) rest (Qc (Value.ref a :: As).toArray) free := by
  obtain ⟨h0, h1, h3, h4, h5⟩ := hY
  have hG : GoodIn hk_w (Cond.code y yb yn none :: hk_w) := hk_all (by
    intro w hw
    rcases List.mem_cons.mp hw with rfl | h
    · exact h4
    · exact h)
  have hts := C.2.2.2.2.2.1
  exact va_runIN ⟨C.1, C.2.1, C.2.2.2.1, C.2.2.2.2.1, hts⟩ hM ⟨va_cnB k hts hG rfl hrc hrs (C.2.2.2.2.2.2.2.2.1 _ hl rfl) (hts _ h3) h5 hR, h0, hts _ h1⟩ (hk_pre (av := .ref a :: As) C hPc hDc) rfl hk hls hst (lv_room hrm) hdg hcs
/-- a public constructor is called -/
theorem hk_kI (C : hk_C p s m meth c own cc nL ret0 args G) (hM : Met l y (Cond.code y yb yn none :: hk_w) rm (va_Pc (.ref a :: As) (hk_P G wc H.size)) Qc mc ms free) (hY : hk_YI y yb yn k) (hl : Cond.methodLink own idx y ∈ hk_w)
    (hrc : rm.cells = mc) (hrs : rm.slots = ms) (hR : rm.frames + 1 ≤ R.frames ∧ 8 + (yn + 11) + rm.locals ≤ R.locals) (hPc : va_P (hk_D G) classes wc H) (hDc : va_D A wc)
    (hk : As.length = k) (hls : ls.size = nL) (hst : st = As.reverse ++ .ref a :: rest) (hrm : (rest.map fun v => v.category).sum ≤ 8) (hdg : decode cc pc = .ok (.invokespecial idx, 3)) (hcs : cells + mc ≤ R.cells ∧ slots + ms ≤ R.slots) :
    va_Run p l e R s m args below meth c H locs cells slots mc ms (F0 m pc ls st) rest (Qc (Value.ref a :: As).toArray) free := by
  obtain ⟨h0, h1, h3, h4, h5⟩ := hY
  have hG : GoodIn hk_w (Cond.code y yb yn none :: hk_w) := hk_all (by
    intro w hw
    rcases List.mem_cons.mp hw with rfl | h
    · exact h4
    · exact h)
  have hts := C.2.2.2.2.2.1
  exact va_runI ⟨C.1, C.2.1, C.2.2.2.1, C.2.2.2.2.1, hts⟩ hM (cwI k hts hG rfl hrc hrs (hts _ h3) (hts _ hl) (hts _ h1) h0 h5 hR) (hk_pre (av := .ref a :: As) C hPc hDc) rfl hk hls hst (lv_room hrm) hdg hcs
/-- behind a call that makes cells -/
theorem hk_goN {av : Array Value} {w1 : (Nat → Nat) → va_W} (hr : va_Run p l e R s m args below meth c H locs cells slots mc ms (F0 m pc ls st) rest (va_Qv (fun (_ : Nat → Nat) => True) (hk_BC G wc w1 H.size) (va_A wc H.size) av) (va_A wc H.size)) (hP : va_P (hk_D G) classes ws H) (hD : va_D A ws) (hS : va_S A H0 H locs) (hA : ∀ q, H0.size ≤ q → A q)
    (isC isR : List Nat) (hC : isC.map (fun i => ws[i]?) = wc.map some) (hRs : isR.map (fun i => ws[i]?) = (isR.filterMap (fun i => ws[i]?)).map some) (hn : va_nd isR = true) (hdis : ∀ i ∈ isR, i ∉ isC)
    (kk : ∀ (ad : Nat → Nat) (H1 : Heap) (locs1 : List Loc), va_P (hk_D G) classes (isR.filterMap (fun i => ws[i]?) ++ w1 ad) H1 → va_D A (isR.filterMap (fun i => ws[i]?) ++ w1 ad) → va_S A H0 H1 locs1 → W p l e R s m args below meth c H1 locs1 (cells + mc) (slots + ms) Q (F0 m (pc + 3) ls rest)) : W p l e R s m args below meth c H locs cells slots Q (F0 m pc ls st) := by
  have hF := hk_fr hD hS hA isC hC
  refine va_callv hr hS (fun q _ h => hF q h) hF (fun u t H1 locs1 ht hvm hp hB hz hk hS1 => ?_)
  obtain ⟨hP1, hD1⟩ := hB
  rw [ht] at hP1
  obtain ⟨hP2, hD2⟩ := va_join hP hD isC isR hC hRs hn hdis hk hF hP1 hD1
  exact kk u H1 locs1 hP2 hD2 hS1
end HKN
theorem hk_rf_ext {f g : Nat → Nat} {n : Nat} (h : ∀ j : Nat, j < n → f j = g j) : hk_rf f n = hk_rf g n := by
  funext j
  unfold hk_rf
  by_cases hj : j < n
  · rw [if_pos hj, if_pos hj, h j hj]
  · rw [if_neg hj, if_neg hj]
theorem hk_rf_2 (f : Nat → Nat) : va_up (va_up (fun _ => none) 0 (some (f 0))) 1 (some (f 1)) = hk_rf f 2 := by
  funext j
  unfold hk_rf va_up
  match j with
  | 0 => rfl
  | 1 => rfl
  | j + 2 => simp
theorem hk_rf_4 (f : Nat → Nat) : va_up (va_up (va_up (va_up (fun _ => none) 0 (some (f 0))) 1 (some (f 1))) 2 (some (f 2))) 3 (some (f 3)) = hk_rf f 4 := by
  funext j
  unfold hk_rf va_up
  match j with
  | 0 => rfl
  | 1 => rfl
  | 2 => rfl
  | 3 => rfl
  | j + 4 => simp
/-! MULTI: new int[4][k], its rows as four cells of the world (after the printed row for arrays of arrays) -/
theorem hk_outer (c : ClassId) (N h0 : Nat) : ∀ i : Nat, Jvm.Free.Multi.outerC c N h0 i = arrV c N (fun j => va_rf (if j < i then some (h0 + 1 + j) else none))
  | 0 => by
    show ({ cls := c, slots := Array.replicate N .null, vm := .none } : Cell) = _
    rw [arrV_new]
    refine congrArg (arrV c N) (funext fun j => ?_)
    simp [va_rf]
  | i + 1 => by
    show (Jvm.Free.Multi.outerC c N h0 i).setSlot i (.ref (h0 + 1 + i)) = _
    rw [hk_outer c N h0 i, arrV_store]
    refine congrArg (arrV c N) (funext fun j => ?_)
    by_cases e : j = i
    · subst e
      simp [updV, va_rf]
    · by_cases h : j < i
      · simp [updV, e, h, Nat.lt_succ_of_lt h]
      · simp [updV, e, h, show ¬ j < i + 1 by omega]
theorem hk_D_snoc {A : Nat → Prop} {ws : va_W} {a : Nat} {e : va_E} (hD : va_D A ws) (hlt : ∀ (k : Nat) (q : Nat × va_E), ws[k]? = some q → q.1 < a) (hA : A a) : va_D A (ws ++ [(a, e)]) := by
  refine ⟨fun i j p q hi hj hpq => ?_, fun k q hk => ?_⟩
  · by_cases h1 : i < ws.length <;> by_cases h2 : j < ws.length
    · rw [List.getElem?_append_left h1] at hi
      rw [List.getElem?_append_left h2] at hj
      exact hD.1 i j p q hi hj hpq
    · rw [List.getElem?_append_left h1] at hi
      rw [List.getElem?_append_right (by omega)] at hj
      have h3 := hlt _ _ hi
      have h0 : j - ws.length < 1 := (List.getElem?_eq_some_iff.mp hj).1
      rw [show j - ws.length = 0 by omega] at hj
      cases hj
      have hpq : p.1 = a := hpq
      omega
    · rw [List.getElem?_append_right (by omega)] at hi
      rw [List.getElem?_append_left h2] at hj
      have h3 := hlt _ _ hj
      have h0 : i - ws.length < 1 := (List.getElem?_eq_some_iff.mp hi).1
      rw [show i - ws.length = 0 by omega] at hi
      cases hi
      have hpq : a = q.1 := hpq
      omega
    · rw [List.getElem?_append_right (by omega)] at hi hj
      have h0 : i - ws.length < 1 := (List.getElem?_eq_some_iff.mp hi).1
      have h9 : j - ws.length < 1 := (List.getElem?_eq_some_iff.mp hj).1
      omega
  · by_cases h1 : k < ws.length
    · rw [List.getElem?_append_left h1] at hk
      exact hD.2 k q hk
    · rw [List.getElem?_append_right (by omega)] at hk
      have h0 : k - ws.length < 1 := (List.getElem?_eq_some_iff.mp hk).1
      rw [show k - ws.length = 0 by omega] at hk
      cases hk
      exact hA
theorem hk_lt_snoc {ws : va_W} {a b : Nat} {e : va_E} (h : ∀ (k : Nat) (q : Nat × va_E), ws[k]? = some q → q.1 < a) (hab : a < b) : ∀ (k : Nat) (q : Nat × va_E), (ws ++ [(a, e)])[k]? = some q → q.1 < b := by
  intro k q hk
  by_cases h1 : k < ws.length
  · rw [List.getElem?_append_left h1] at hk
    exact Nat.lt_trans (h k q hk) hab
  · rw [List.getElem?_append_right (by omega)] at hk
    have h0 : k - ws.length < 1 := (List.getElem?_eq_some_iff.mp hk).1
    rw [show k - ws.length = 0 by omega] at hk
    cases hk
    exact hab
theorem hk_P_snoc {D : va_G} {cl : List vw_C} {ws : va_W} {a : Nat} {e : va_E} {H : Heap} (h : va_P D cl ws H) (ha : va_at D cl (a, e) H) : va_P D cl (ws ++ [(a, e)]) H := h.app (fun k q hk => by
  have h0 : k < 1 := (List.getElem?_eq_some_iff.mp hk).1
  rw [show k = 0 by omega] at hk
  cases hk
  exact ha)
section HKM
variable {p : Program} {l : Launch} {e : Env} {R : Room} {s : State} {m : MethodId} {args : Array Value} {below : List Frame} {meth : Method} {c : Code} {H : Heap} {locs : List Loc} {cells slots : Nat} {Q : State → Prop}
variable {own : String} {cc : ByteArray} {nL idx : Nat} {ret0 : Option FieldType} {G : hk_G} {A : Nat → Prop} {pc : Nat} {ls : Array Slot} {rest : List Value} {H0 : Heap} {ws : va_W}
set_option maxHeartbeats 4000000 in
theorem hk_multi (C : hk_C p s m meth c own cc nL ret0 args G) (hcl : Cond.classLink own idx "[[I" ∈ hk_w) (harr : Cond.arrayClass .int ∈ hk_w) (hP : va_P (hk_D G) classes ws H) (hD : va_D A ws) (hS : va_S A H0 H locs) (hA : ∀ q, H0.size ≤ q → A q)
    {z w : Int32} {k : Nat} (hz : ¬ z < 0) (hw : ¬ w < 0) (hzn : z.toNatClampNeg = 4) (hwk : w.toNatClampNeg = k) (hk : k ≤ 1000) (hc : cells + (1 + 4) ≤ R.cells) (hs : slots + (4 + 4 * k) ≤ R.slots) (hdg : decode cc pc = .ok (.multianewarray idx 2, 4))
    (kk : ∀ (q : Nat) (H1 : Heap) (locs1 : List Loc), va_P (hk_D G) classes (ws ++ [(q, .inl (G.2.2 4, 4, .inr (.inr (.inr (.inr (hk_rf (fun j => q + 1 + j) 4)))))), (q + 1 + 0, .inl (G.2.2 0, k, .inl (fun _ => 0))), (q + 1 + 1, .inl (G.2.2 0, k, .inl (fun _ => 0))), (q + 1 + 2, .inl (G.2.2 0, k, .inl (fun _ => 0))), (q + 1 + 3, .inl (G.2.2 0, k, .inl (fun _ => 0)))]) H1 →
      va_D A (ws ++ [(q, .inl (G.2.2 4, 4, .inr (.inr (.inr (.inr (hk_rf (fun j => q + 1 + j) 4)))))), (q + 1 + 0, .inl (G.2.2 0, k, .inl (fun _ => 0))), (q + 1 + 1, .inl (G.2.2 0, k, .inl (fun _ => 0))), (q + 1 + 2, .inl (G.2.2 0, k, .inl (fun _ => 0))), (q + 1 + 3, .inl (G.2.2 0, k, .inl (fun _ => 0)))]) → va_S A H0 H1 locs1 →
      W p l e R s m args below meth c H1 locs1 (cells + (1 + 4)) (slots + (4 + 4 * k)) Q (F0 m (pc + 4) ls (.ref q :: rest))) : W p l e R s m args below meth c H locs cells slots Q (F0 m pc ls (.int w :: .int z :: rest)) := by
  have hK := C.2.2.2.2.2.2.2.1
  have hAO : (Cond.arrayOver (.array .int)).before args s = true := C.2.2.2.2.2.2.2.2.2.2.2
  intro T hT Xs
  obtain ⟨vm₁, cA, comp, -, fA, fC, hO, -, X', step⟩ := Xs.multianewarray2F C.1 C.2.2.2.2.1 (C.2.2.2.2.2.1 _ hcl) hAO (C.2.2.2.2.2.1 _ harr) (g := F0 m pc ls (.int w :: .int z :: rest)) rfl (by rw [C.2.1]; exact hdg) rfl hz hw (by omega) (by rw [hwk]; show k * 4 ≤ _; omega) (by omega) rfl rfl (by rw [hzn]; exact hc) (by rw [hzn, hwk]; exact hs)
  have e0 : s.vm.findClass (FieldType.array .int).toString = some (G.2.2 0) := (hK.2 0 (G.2.2 0, .int) rfl).2
  have e4 : s.vm.findClass ("[" ++ (FieldType.array .int).toString) = some (G.2.2 4) := (hK.2 4 (G.2.2 4, .array .int) rfl).2
  obtain rfl : comp = G.2.2 0 := Option.some.inj (fC.symm.trans e0)
  obtain rfl : cA = G.2.2 4 := Option.some.inj (fA.symm.trans e4)
  rw [hzn, hwk] at X' step
  generalize hF : Jvm.Free.Multi.fill (T.setVm vm₁) (G.2.2 4) (G.2.2 0) 4 k (defaultValue .int) 4 = F at X' step
  have hTh : (T.setVm vm₁).heap = H := hT
  obtain ⟨f1, f2, -, -⟩ := Jvm.Free.Multi.fill_facts (T.setVm vm₁) (G.2.2 4) (G.2.2 0) 4 k (defaultValue .int) 4
  rw [hF, hTh] at f1 f2
  have hold : ∀ x : Nat, x < H.size → F.heap[x]? = H[x]? := fun x hx => by
    have := Jvm.Free.Multi.fill_old (T.setVm vm₁) (G.2.2 4) (G.2.2 0) 4 k (defaultValue .int) (a := x) (by rw [hTh]; exact hx) 4
    rw [hF, hTh] at this
    exact this
  have hrow : ∀ j : Nat, j < 4 → F.heap[H.size + 1 + j]? = some (vp_cell (G.2.2 0) (k, .inl (fun _ => 0))) := fun j hj => by
    have := Jvm.Free.Multi.fill_inner (T.setVm vm₁) (G.2.2 4) (G.2.2 0) 4 k (defaultValue .int) 4 j hj
    rw [hF, hTh] at this
    rw [this, vp_cell_i, ← arrV_new]
    rfl
  have hout : Jvm.Free.Multi.outerC (G.2.2 4) 4 H.size 4 = vp_cell (G.2.2 4) (4, .inr (.inr (.inr (.inr (hk_rf (fun j => H.size + 1 + j) 4))))) := by
    rw [vp_cell_q]
    exact hk_outer (G.2.2 4) 4 H.size 4
  rw [hout] at f2
  have hP0 : va_P (hk_D G) classes ws F.heap := hP.kept (fun k9 x hx => hold x.1 ((hP k9 x hx).lt))
  have l0 : ∀ (k : Nat) (q : Nat × va_E), ws[k]? = some q → q.1 < H.size := fun k q hq => (hP k q hq).lt
  have aA : ∀ j : Nat, A (H.size + j) := fun j => hA _ (by have := hS.1; omega)
  have hP1 := hk_P_snoc hP0 (a := H.size) (e := .inl (G.2.2 4, 4, .inr (.inr (.inr (.inr (hk_rf (fun j => H.size + 1 + j) 4)))))) f2
  have hD1 := hk_D_snoc (e := .inl (G.2.2 4, 4, .inr (.inr (.inr (.inr (hk_rf (fun j => H.size + 1 + j) 4)))))) hD l0 (aA 0)
  have l1 := hk_lt_snoc (e := .inl (G.2.2 4, 4, .inr (.inr (.inr (.inr (hk_rf (fun j => H.size + 1 + j) 4)))))) l0 (show H.size < H.size + 1 + 0 by omega)
  have hP2 := hk_P_snoc hP1 (a := H.size + 1 + 0) (e := .inl (G.2.2 0, k, .inl (fun _ => 0))) (hrow 0 (by decide))
  have hD2 := hk_D_snoc (e := .inl (G.2.2 0, k, .inl (fun _ => 0))) hD1 l1 (aA 1)
  have l2 := hk_lt_snoc (e := .inl (G.2.2 0, k, .inl (fun _ => 0))) l1 (show H.size + 1 + 0 < H.size + 1 + 1 by omega)
  have hP3 := hk_P_snoc hP2 (a := H.size + 1 + 1) (e := .inl (G.2.2 0, k, .inl (fun _ => 0))) (hrow 1 (by decide))
  have hD3 := hk_D_snoc (e := .inl (G.2.2 0, k, .inl (fun _ => 0))) hD2 l2 (aA 2)
  have l3 := hk_lt_snoc (e := .inl (G.2.2 0, k, .inl (fun _ => 0))) l2 (show H.size + 1 + 1 < H.size + 1 + 2 by omega)
  have hP4 := hk_P_snoc hP3 (a := H.size + 1 + 2) (e := .inl (G.2.2 0, k, .inl (fun _ => 0))) (hrow 2 (by decide))
  have hD4 := hk_D_snoc (e := .inl (G.2.2 0, k, .inl (fun _ => 0))) hD3 l3 (aA 3)
  have l4 := hk_lt_snoc (e := .inl (G.2.2 0, k, .inl (fun _ => 0))) l3 (show H.size + 1 + 2 < H.size + 1 + 3 by omega)
  have hP5 := hk_P_snoc hP4 (a := H.size + 1 + 3) (e := .inl (G.2.2 0, k, .inl (fun _ => 0))) (hrow 3 (by decide))
  have hD5 := hk_D_snoc (e := .inl (G.2.2 0, k, .inl (fun _ => 0))) hD4 l4 (aA 4)
  have hP6 := hP5
  simp only [List.append_assoc, List.cons_append, List.nil_append] at hP6 hD5
  have X2 : Stand p l e R s m args below meth c F locs (cells + (1 + 4)) (slots + (4 + 4 * k)) := by
    have e1 : cells + 1 + 4 = cells + (1 + 4) := by omega
    have e2 : slots + 4 + 4 * k = slots + (4 + 4 * k) := by omega
    rw [← e1, ← e2]
    exact X'
  obtain ⟨t, a1, b1⟩ := kk H.size F.heap locs hP6 hD5 ⟨by rw [f1]; have := hS.1; omega, fun x h1 h2 => (hold x (Nat.lt_of_lt_of_le h1 hS.1)).trans (hS.2.1 x h1 h2), hS.2.2⟩ F rfl X2
  refine ⟨t, step t ?_, b1⟩
  have e9 : T.heap.size = H.size := by rw [hT]
  rw [e9]
  exact a1
end HKM
/-! PU1: small rows over numbers (no method's function is named here) -/
theorem hk_inl {i : Int32} {n : Nat} (h : decide (¬ (i < 0 ∨ n ≤ i.toNatClampNeg)) = true) : vp_in i n := by
  have h2 : ¬ (i < 0 ∨ n ≤ i.toNatClampNeg) := of_decide_eq_true h
  exact h2
theorem hk_Pn {D : va_G} {cl : List vw_C} {H : Heap} : va_P D cl [] H := fun k q h => by simp at h
theorem hk_Dn {A : Nat → Prop} : va_D A [] := ⟨fun i j p q h => by simp at h, fun k q h => by simp at h⟩
theorem hk_exit {b : Int32} {n k : Nat} (hb : b = nI n) (hn : n < 2 ^ 31) (hk : k ≤ n) (h : b ≤ nI k) : k = n := by
  rw [hb, nI_leI hn (by omega)] at h
  omega
theorem hk_stay {b : Int32} {n k : Nat} (hb : b = nI n) (hn : n < 2 ^ 31) (hk : k ≤ n) (h : ¬ b ≤ nI k) : k < n := by
  rw [hb, nI_leI hn (by omega)] at h
  omega
theorem hk_d10 {k : Nat} (h : k < 10) : nI k = 0 ∨ nI k = 1 ∨ nI k = 2 ∨ nI k = 3 ∨ nI k = 4 ∨ nI k = 5 ∨ nI k = 6 ∨ nI k = 7 ∨ nI k = 8 ∨ nI k = 9 := by
  have h : k = 0 ∨ k = 1 ∨ k = 2 ∨ k = 3 ∨ k = 4 ∨ k = 5 ∨ k = 6 ∨ k = 7 ∨ k = 8 ∨ k = 9 := by omega
  rcases h with rfl | rfl | rfl | rfl | rfl | rfl | rfl | rfl | rfl | rfl <;> simp [nI]
theorem hk_sne {p : Int32} (ho : p.toInt < 0 ∨ 9 < p.toInt) (k : Int32) (h0 : 0 ≤ k.toInt) (h9 : k.toInt ≤ 9) : ¬ p = k := fun h => by
  subst h
  omega
theorem hk_s10 (p : Int32) : p = 0 ∨ p = 1 ∨ p = 2 ∨ p = 3 ∨ p = 4 ∨ p = 5 ∨ p = 6 ∨ p = 7 ∨ p = 8 ∨ p = 9 ∨ (p.toInt < 0 ∨ 9 < p.toInt) := by
  by_cases h : p < 0
  · have h1 : p.toInt < 0 := by simpa using Int32.lt_iff_toInt_lt.mp h
    simp [h1]
  · obtain ⟨j, hj, rfl⟩ := nI_of h
    have h : j = 0 ∨ j = 1 ∨ j = 2 ∨ j = 3 ∨ j = 4 ∨ j = 5 ∨ j = 6 ∨ j = 7 ∨ j = 8 ∨ j = 9 ∨ 9 < j := by omega
    rcases h with rfl | rfl | rfl | rfl | rfl | rfl | rfl | rfl | rfl | rfl | h
    iterate 10 simp [nI]
    have h1 : 9 < (nI j).toInt := by rw [nI_toInt hj]; omega
    simp [h1]
theorem hk_in12 {p : Int32} (hi : p = -1 ∨ ∃ j : Nat, j < 12 ∧ p = nI j) (h : ¬ p = -1) : vp_in p 12 := by
  rcases hi with hi | ⟨j, hj, rfl⟩
  · exact absurd hi h
  · exact vp_in_nI hj (by decide)
def k_great (j : Nat) : Int32 := match j with
  | 0 => 3
  | 1 => 1000
  | 2 => 2
  | 3 => 1
  | 4 => 3
  | _ => 1
def k_subst (j : Nat) : Int32 := match j with
  | 0 => 1
  | 1 => 0
  | 2 => 3
  | 3 => 2
  | 4 => 0
  | _ => 1
theorem hk_sub (j : Nat) : vp_in (k_subst j) 6 := by
  unfold k_subst
  split <;> exact hk_inl (by decide)
section HK1
variable {p : Program} {l : Launch} {e : Env} {R : Room} {s : State} {m : MethodId} {args : Array Value} {below : List Frame} {meth : Method} {c : Code} {H : Heap} {locs : List Loc} {cells slots : Nat} {Q : State → Prop}
variable {G : hk_G} {A : Nat → Prop} {pc : Nat} {ls : Array Slot} {rest st : List Value} {H0 : Heap} {ws w2 : va_W} {a : Nat} {e0 e1 : va_E}
theorem hk_one {H1 : Heap} (hP : va_P (hk_D G) classes ws H) (hD : va_D A ws) {pos : Nat} (hp : ws[pos]? = some (a, e0)) (hP1 : va_P (hk_D G) classes [(a, e1)] H1) (hk : ∀ q : Nat, q < H.size → ¬ va_A [(a, e0)] H.size q → H1[q]? = H[q]?) : va_P (hk_D G) classes (ws.set pos (a, e1)) H1 := by
  intro k q hq
  have hlen : pos < ws.length := (List.getElem?_eq_some_iff.mp hp).1
  by_cases h : pos = k
  · subst h
    rw [List.getElem?_set_self hlen] at hq
    cases hq
    exact hP1 0 _ rfl
  · rw [List.getElem?_set_ne h] at hq
    refine (hP k q hq).kept (hk q.1 (hP k q hq).lt ?_)
    intro z
    rcases z with ⟨i, e9, hi⟩ | hi
    · match i, hi with
      | 0, hi =>
        cases hi
        exact h (hD.1 pos k _ _ hp hq rfl)
      | i + 1, hi => simp at hi
    · have := (hP k q hq).lt
      omega
theorem hk_oneF (hD : va_D A ws) (hS : va_S A H0 H locs) (hA : ∀ q, H0.size ≤ q → A q) {pos : Nat} (hp : ws[pos]? = some (a, e0)) : ∀ q, va_A [(a, e0)] H.size q → A q := by
  intro q z
  rcases z with ⟨i, e9, hi⟩ | hi
  · match i, hi with
    | 0, hi =>
      cases hi
      exact hD.2 pos _ hp
    | i + 1, hi => simp at hi
  · exact hA q (Nat.le_trans hS.1 hi)
theorem hk_goI1 {r : Int32} {av : Array Value} (pos : Nat) (hr : va_Run p l e R s m args below meth c H locs cells slots 0 0 (F0 m pc ls st) rest (va_Qi (fun (x : Int32) (_ : Unit) => x = r) (hk_B G [(a, e0)] [(a, e1)] H.size) (va_A [(a, e0)] H.size) av) (va_A [(a, e0)] H.size)) (hP : va_P (hk_D G) classes ws H) (hD : va_D A ws) (hS : va_S A H0 H locs) (hA : ∀ q, H0.size ≤ q → A q) (hp : ws[pos]? = some (a, e0)) (hw : ws.set pos (a, e1) = w2)
    (kk : ∀ (H1 : Heap) (locs1 : List Loc), va_P (hk_D G) classes w2 H1 → va_D A w2 → va_S A H0 H1 locs1 → W p l e R s m args below meth c H1 locs1 cells slots Q (F0 m (pc + 3) ls (.int r :: rest))) : W p l e R s m args below meth c H locs cells slots Q (F0 m pc ls st) := by
  subst hw
  have hF := hk_oneF hD hS hA hp
  refine va_calli hr hS (fun q _ h => hF q h) hF (fun r' u t H1 locs1 ht hvm hq hB hz hk hS1 => ?_)
  have hq : r' = r := hq
  subst hq
  obtain ⟨hP1, hD1⟩ := hB
  rw [ht] at hP1
  exact kk H1 locs1 (hk_one hP hD hp hP1 hk) (hD.set hp) hS1
theorem hk_goV1 {av : Array Value} (pos : Nat) (hr : va_Run p l e R s m args below meth c H locs cells slots 0 0 (F0 m pc ls st) rest (va_Qv (fun (_ : Unit) => True) (hk_B G [(a, e0)] [(a, e1)] H.size) (va_A [(a, e0)] H.size) av) (va_A [(a, e0)] H.size)) (hP : va_P (hk_D G) classes ws H) (hD : va_D A ws) (hS : va_S A H0 H locs) (hA : ∀ q, H0.size ≤ q → A q) (hp : ws[pos]? = some (a, e0)) (hw : ws.set pos (a, e1) = w2)
    (kk : ∀ (H1 : Heap) (locs1 : List Loc), va_P (hk_D G) classes w2 H1 → va_D A w2 → va_S A H0 H1 locs1 → W p l e R s m args below meth c H1 locs1 cells slots Q (F0 m (pc + 3) ls rest)) : W p l e R s m args below meth c H locs cells slots Q (F0 m pc ls st) := by
  subst hw
  have hF := hk_oneF hD hS hA hp
  refine va_callv hr hS (fun q _ h => hF q h) hF (fun u t H1 locs1 ht hvm hq hB hz hk hS1 => ?_)
  obtain ⟨hP1, hD1⟩ := hB
  rw [ht] at hP1
  exact kk H1 locs1 (hk_one hP hD hp hP1 hk) (hD.set hp) hS1
end HK1
def hk_Z1 (tz : Nat) (A : Nat → Prop) (U : State) (H : Heap) : Prop := va_Z R_B "GREATEST_INPUT" "[I" (.ref tz) A U H ∧ va_T .int tz 9 (fun j => .int (k_great j)) A U H
def hk_Z2 (tz : Nat) (A : Nat → Prop) (U : State) (H : Heap) : Prop := va_Z R_B "SUBSTITUTES" "[I" (.ref tz) A U H ∧ va_T .int tz 6 (fun j => .int (k_subst j)) A U H
