/-- the exceptions by their codes -/
def exN (k : Int32) : String := if k = 1 then "java/lang/IndexOutOfBoundsException" else if k = 2 then "java/lang/IllegalArgumentException" else if k = 3 then "java/lang/IllegalStateException" else if k = 4 then "java/lang/UnsupportedOperationException" else if k = 5 then "java/util/NoSuchElementException" else "java/lang/ArithmeticException"
/-- the texts of the exceptions: entry and text -/
def msI : List (Nat × String) := [(348, "no such number"), (116, "what is not 0 to 7"), (351, "out of range"), (173, "no performance on this stage on this date"), (202, "no request has this place"), (245, "what is not 0 to 3"), (254, "the production has no performances"), (282, "account is not 0 to 14"), (339, "there is no place for one more"), (343, "refused; reason() tells why"), (257, "no reason was kept")]
/-- what lies in the heap from the start, and is never written -/
def jZ (_ks _va : Nat → Nat) (A : Nat → Prop) (U : State) (H : Heap) : Prop :=
  True ∧ True ∧ True ∧ True ∧
  vx_Zq Bundle.tN "UNASSIGNED_STACK" Bundle.steD A U H ∧ vx_Zq Bundle.tN "SUPPRESSED_SENTINEL" Bundle.listD A U H ∧ ∀ q ∈ msI, ∃ a : Nat, vk_R RX8 q.1 q.2 a U
theorem jZ.warm {ks va : Nat → Nat} {A : Nat → Prop} {s U : State} {H : Heap} (hW : s.WarmedH U.vm) (h : jZ ks va A s H) : jZ ks va A U H :=
  ⟨trivial, trivial, trivial, trivial, vx_Zq.moved hW.alike h.2.2.2.2.1, vx_Zq.moved hW.alike h.2.2.2.2.2.1, fun q hq => by obtain ⟨a, ha⟩ := h.2.2.2.2.2.2 q hq; exact ⟨a, vk_R.warm hW ha⟩⟩
theorem jZ.kept {ks va : Nat → Nat} {A : Nat → Prop} {U : State} {H H1 : Heap} (h : jZ ks va A U H) (hq : ∀ a : Nat, a < H.size → ¬ A a → H1[a]? = H[a]?) : jZ ks va A U H1 :=
  ⟨trivial, trivial, trivial, trivial, h.2.2.2.2.1.kept hq, h.2.2.2.2.2.1.kept hq, h.2.2.2.2.2.2⟩
theorem jZ.narrow {ks va : Nat → Nat} {A B : Nat → Prop} {U : State} {H : Heap} (h : jZ ks va A U H) (hAB : ∀ q, B q → A q) : jZ ks va B U H :=
  ⟨trivial, trivial, trivial, trivial, h.2.2.2.2.1.narrow hAB, h.2.2.2.2.2.1.narrow hAB, h.2.2.2.2.2.2⟩
theorem jZ.blind {ks va : Nat → Nat} {A : Nat → Prop} {U : State} {H : Heap} {g : JFrame} {mk : MethodId} {a : Array Value} (h : jZ ks va A U H) : jZ ks va A (U.calling g mk a) H :=
  have hv : U.vm.Alike (U.calling g mk a).vm := Vm.Alike.refl U.vm
  ⟨trivial, trivial, trivial, trivial, vx_Zq.moved hv h.2.2.2.2.1, vx_Zq.moved hv h.2.2.2.2.2.1, fun q hq => by obtain ⟨b, hb⟩ := h.2.2.2.2.2.2 q hq; exact ⟨b, vk_R.same (u := U) rfl hb⟩⟩
def xQ (D : va_G) (w' : va_W) (k : Int32) (ov : Option Value) (A : Nat → Prop) : Array Value → State → Outcome → State → Prop := fun _ st oc t => k = 0 ∧ oc = .returned ov ∧ va_P D vwCl w' t.heap ∧ va_F A st t
def xX (D : va_G) (w' : va_W) (k : Int32) (A : Nat → Prop) : String → State → State → Prop := fun E st t => k ≠ 0 ∧ E = exN k ∧ va_P D vwCl w' t.heap ∧ va_F A st t
/-- a method that writes, and may throw: code k (0: it returns) -/
def xM (l : Launch) (y : MethodName) (ws : List Cond) (rm : Room) (As : List Value) (D : va_G) (G : Nat → ClassId) (ks va : Nat → Nat) (w w' : va_W) (k : Int32) (ov : Option Value) : Prop :=
  ∀ sz : Nat, vx_Met l y ws rm (va_Pc As (fun U => U.heap.size = sz ∧ va_P D vwCl w U.heap ∧ jK D G U ∧ va_D (fun _ => True) w ∧ jZ ks va (va_A w sz) U U.heap)) (xQ D w' k ov (va_A w sz)) (xX D w' k (va_A w sz)) rm.cells rm.slots (va_A w sz)
/-- one that needs what lies in the heap, and throws nothing -/
def zM (l : Launch) (y : MethodName) (ws : List Cond) (rm : Room) (As : List Value) (D : va_G) (G : Nat → ClassId) (ks va : Nat → Nat) (w w' : va_W) (ov : Option Value) : Prop :=
  ∀ sz : Nat, Met l y ws rm (va_Pc As (fun U => U.heap.size = sz ∧ va_P D vwCl w U.heap ∧ jK D G U ∧ va_D (fun _ => True) w ∧ jZ ks va (va_A w sz) U U.heap)) (mQ D w' ov (va_A w sz)) 0 0 (va_A w sz)
theorem zM_of {l : Launch} {y : MethodName} {cc : ByteArray} {maxL : Nat} {ret : Option FieldType} {rm : Room} {As : List Value} {D : va_G} {G : Nat → ClassId} {ks va : Nat → Nat} {w w' : va_W} {ov : Option Value} (hy : plainName y.cls = true) (hlen : (lg_sl As).length ≤ maxL)
    (body : ∀ (p : Program) (e : Env) (s : State) (m : MethodId) (args : Array Value) (below : List Frame) (meth : Method) (c : Code) (ls : Array Slot) (A : Nat → Prop), Cx p s m args meth c cc maxL y.cls ret D G → va_P D vwCl w s.heap → va_D A w → (∀ q : Nat, s.heap.size ≤ q → A q) → jZ ks va A s s.heap → lv_has ls maxL (lv_args 0 As) → W p l e rm s m args below meth c s.heap [] 0 0 (MQ below (mQ D w' ov A) args s 0 0 A) (F0 m 0 ls [])) :
    zM l y (jws y cc maxL ret) rm As D G ks va w w' ov := by
  intro sz
  refine Met.ofW (cc := cc) (maxL := maxL) (ret := ret) hy rfl ?_
  intro p e s m args below meth c s₁ B hml hv
  obtain ⟨rfl, hsz, hP, hK, hD0, hZ⟩ := hv
  have hts := atoms_spec (ws := jws y cc maxL ret) B.pre
  subst hsz
  rw [lg_entry_eq]
  exact body p e s m _ below meth c _ (va_A w s.heap.size) ⟨B.exec, B.bytes, B.returns, hml, fun w h => hts w (List.mem_cons_of_mem _ h), findClass_of_methodNamed B.named, B.notSynchronized, hK⟩ hP hD0.self (fun q h => Or.inr h) hZ (lv_entry As hlen)
theorem xM_of {l : Launch} {y : MethodName} {cc : ByteArray} {maxL : Nat} {ret : Option FieldType} {rm : Room} {As : List Value} {D : va_G} {G : Nat → ClassId} {ks va : Nat → Nat} {w w' : va_W} {k : Int32} {ov : Option Value} (hy : plainName y.cls = true) (hlen : (lg_sl As).length ≤ maxL)
    (body : ∀ (p : Program) (e : Env) (s : State) (m : MethodId) (args : Array Value) (below : List Frame) (meth : Method) (c : Code) (ls : Array Slot) (A : Nat → Prop), Cx p s m args meth c cc maxL y.cls ret D G → (∀ x ∈ c.exceptionTable.toList, False) → va_P D vwCl w s.heap → va_D A w → (∀ q : Nat, s.heap.size ≤ q → A q) → jZ ks va A s s.heap → lv_has ls maxL (lv_args 0 As) → W p l e rm s m args below meth c s.heap [] 0 0 (vx_MQ below (xQ D w' k ov A) (xX D w' k A) args s rm.cells rm.slots A) (F0 m 0 ls [])) :
    xM l y (jws y cc maxL ret) rm As D G ks va w w' k ov := by
  intro sz
  refine vx_ofW (cc := cc) (maxL := maxL) (ret := ret) hy rfl ?_
  intro p e s m args below meth c s₁ B hml hno hv
  obtain ⟨rfl, hsz, hP, hK, hD0, hZ⟩ := hv
  have hts := atoms_spec (ws := jws y cc maxL ret) B.pre
  subst hsz
  rw [lg_entry_eq]
  exact body p e s m _ below meth c _ (va_A w s.heap.size) ⟨B.exec, B.bytes, B.returns, hml, fun w h => hts w (List.mem_cons_of_mem _ h), findClass_of_methodNamed B.named, B.notSynchronized, hK⟩ hno hP hD0.self (fun q h => Or.inr h) hZ (lv_entry As hlen)
section XR
variable {p : Program} {l : Launch} {e : Env} {R : Room} {s : State} {m : MethodId} {args : Array Value} {below : List Frame} {meth : Method} {c : Code} {H : Heap} {locs : List Loc} {cells slots mc ms : Nat} {Q : State → Prop} {cc : ByteArray} {nL : Nat} {own : String} {ret : Option FieldType} {D : va_G} {G : Nat → ClassId} {pc : Nat} {ls : Array Slot} {A : Nat → Prop} {w w' : va_W} {rest : List Value} {k : Int32}
theorem xRet (C : Cx p s m args meth c cc nL own ret D G) {ty : FieldType} (ht : ret = some ty) (hdg : decode cc pc = .ok (.ireturn, 1)) {v r : Int32} (hn : narrow ty (.int v) = .int v) (hv : v = r) (hk : k = 0) (hc : cells ≤ mc) (hs : slots ≤ ms) (hP : va_P D vwCl w' H) (hS : va_S A s.heap H locs) :
    W p l e R s m args below meth c H locs cells slots (vx_MQ below (xQ D w' k (some (.int r)) A) (xX D w' k A) args s mc ms A) (F0 m pc ls [.int v]) := by
  obtain ⟨hx, hb, hr, -, -, -, hlocks, -⟩ := C
  subst hv; subst ht
  refine vx_ret ?_
  refine W.widen hc hs ?_
  exact W.zret hx hb hr hn (fun t ht _ => ⟨hk, rfl, by rw [ht]; exact hP, hS.F ht⟩) hS.2.2 hdg hlocks
theorem xRetV (C : Cx p s m args meth c cc nL own none D G) (hdg : decode cc pc = .ok (.return_, 1)) (hk : k = 0) (hc : cells ≤ mc) (hs : slots ≤ ms) (hP : va_P D vwCl w' H) (hS : va_S A s.heap H locs) :
    W p l e R s m args below meth c H locs cells slots (vx_MQ below (xQ D w' k none A) (xX D w' k A) args s mc ms A) (F0 m pc ls []) := by
  obtain ⟨hx, hb, hr, -, -, -, hlocks, -⟩ := C
  refine vx_ret ?_
  refine W.widen hc hs ?_
  exact W.vret hx hb hr (fun t ht _ => ⟨hk, rfl, by rw [ht]; exact hP, hS.F ht⟩) hS.2.2 hdg hlocks
/-- an exception of a callee that goes on -/
theorem xOut (C : Cx p s m args meth c cc nL own ret D G) (hno : ∀ x ∈ c.exceptionTable.toList, False) {ov : Option Value} {ce : Cell} {q : Addr} (hk : k ≠ 0) (hcell : H[q]? = some ce) (hv : ce.vm = .none) (hcl : s.vm.findClass (exN k) = some ce.cls) (hc : cells ≤ mc) (hs : slots ≤ ms) (hP : va_P D vwCl w' H) (hS : va_S A s.heap H locs) :
    vx_W p l e R s m args below meth c H locs cells slots (vx_MQ below (xQ D w' k ov A) (xX D w' k A) args s mc ms A) (F0 m pc ls rest) q :=
  vx_out (fun x hx => (hno x hx).elim) C.2.2.2.2.2.2.1 hcell hv hcl (fun t ht _ => ⟨hk, rfl, by rw [ht]; exact hP, hS.F ht⟩) hS.2.2 hc hs
/-- throw new E("text") -/
theorem xThrow (C : Cx p s m args meth c cc nL RX8 ret D G) (hno : ∀ x ∈ c.exceptionTable.toList, False) (hl : l.stackTraces = false) {ov : Option Value} {cls text : String} {ik is ic sa : Nat} {names : List String} (hcls : Bundle.fit cls = true) (hnames : ∀ n ∈ names, Bundle.fit n = true)
    (hkl : Cond.classLink RX8 ik cls ∈ jw) (hini : Cond.initialized cls ∈ jw) (hstr : vk_R RX8 is text sa s) (hat : ∀ w ∈ vx_atS RX8 ic cls names, w.before args s = true) (hgood : ∀ w ∈ Cond.classLink RX8 ik cls :: Cond.initialized cls :: vx_atS RX8 ic cls names, vx_ot w = true)
    {ks va : Nat → Nat} (hZ : jZ ks va A s s.heap) (hS : va_S A s.heap H locs) (hA : ∀ q : Nat, s.heap.size ≤ q → A q) (hP : va_P D vwCl w' H) {lv : List (Nat × Value)} (hlv : lv_has ls nL lv) (d0 : decode cc pc = .ok (.new ik, 3)) (d3 : decode cc (pc + 3) = .ok (.dup, 1)) (d4 : decode cc (pc + 4) = .ok (.ldc is, 2)) (d6 : decode cc (pc + 6) = .ok (.invokespecial ic, 3)) (d9 : decode cc (pc + 9) = .ok (.athrow, 1))
    (hRf : names.length + 3 < R.frames) (hRl : (rest.map fun v => v.category).sum + (13 * (names.length + 1) + 43) ≤ R.locals) (hRc : cells + 1 ≤ R.cells) (hRs : slots + 6 ≤ R.slots) (hc : cells + 1 ≤ mc) (hs : slots + 6 ≤ ms) (hk : k ≠ 0) (hE : exN k = cls) :
    W p l e R s m args below meth c H locs cells slots (vx_MQ below (xQ D w' k ov A) (xX D w' k A) args s mc ms A) (F0 m pc ls rest) := by
  obtain ⟨hx, hb, hr, hml, hts, hown, hlocks, hK⟩ := C
  exact vx_throwS hx hb hl hown hcls hnames (hts _ hkl) (hts _ hini) hstr hat hgood hZ.2.2.2.2.1 hZ.2.2.2.2.2.1 hS (hlv.1.trans hml.symm) d0 d3 d4 d6 d9 (fun x hx => (hno x hx).elim) hRf hRl hRc hRs hlocks
    (fun t hvm hz hk9 => ⟨hk, hE.symm, hP.kept (fun k q hq => hk9 q.1 (hP k q hq).lt), ⟨Nat.le_trans hS.1 hz, fun q h1 h2 => (hk9 q (Nat.lt_of_lt_of_le h1 hS.1)).trans (hS.2.1 q h1 h2)⟩⟩) hS.2.2 hc hs
theorem xThrowW (C : Cx p s m args meth c cc nL RX8 ret D G) (hno : ∀ x ∈ c.exceptionTable.toList, False) (hl : l.stackTraces = false) {ov : Option Value} {cls text : String} {ik is ic sa : Nat} {names : List String} (hcls : Bundle.fit cls = true) (hnames : ∀ n ∈ names, Bundle.fit n = true)
    (hkl : Cond.classLink RX8 ik cls ∈ jw) (hini : Cond.initialized cls ∈ jw) (hstr : vk_R RX8 is text sa s) (hat : ∀ w ∈ vx_atS RX8 ic cls names, w.before args s = true) (hgood : ∀ w ∈ Cond.classLink RX8 ik cls :: Cond.initialized cls :: vx_atS RX8 ic cls names, vx_ot w = true)
    {ks va : Nat → Nat} (hZ : jZ ks va A s s.heap) (hS : va_S A s.heap H locs) (hA : ∀ q : Nat, s.heap.size ≤ q → A q) (hP : va_P D vwCl w' H) {lv : List (Nat × Value)} (hlv : lv_has ls nL lv) (d0 : decode cc pc = .ok (.new ik, 3)) (d3 : decode cc (pc + 3) = .ok (.dup, 1)) (d4 : decode cc (pc + 4) = .ok (.ldc_w is, 3)) (d6 : decode cc (pc + 7) = .ok (.invokespecial ic, 3)) (d9 : decode cc (pc + 10) = .ok (.athrow, 1))
    (hRf : names.length + 3 < R.frames) (hRl : (rest.map fun v => v.category).sum + (13 * (names.length + 1) + 43) ≤ R.locals) (hRc : cells + 1 ≤ R.cells) (hRs : slots + 6 ≤ R.slots) (hc : cells + 1 ≤ mc) (hs : slots + 6 ≤ ms) (hk : k ≠ 0) (hE : exN k = cls) :
    W p l e R s m args below meth c H locs cells slots (vx_MQ below (xQ D w' k ov A) (xX D w' k A) args s mc ms A) (F0 m pc ls rest) := by
  obtain ⟨hx, hb, hr, hml, hts, hown, hlocks, hK⟩ := C
  exact vx_throwSW hx hb hl hown hcls hnames (hts _ hkl) (hts _ hini) hstr hat hgood hZ.2.2.2.2.1 hZ.2.2.2.2.2.1 hS (hlv.1.trans hml.symm) d0 d3 d4 d6 d9 (fun x hx => (hno x hx).elim) hRf hRl hRc hRs hlocks
    (fun t hvm hz hk9 => ⟨hk, hE.symm, hP.kept (fun k q hq => hk9 q.1 (hP k q hq).lt), ⟨Nat.le_trans hS.1 hz, fun q h1 h2 => (hk9 q (Nat.lt_of_lt_of_le h1 hS.1)).trans (hS.2.1 q h1 h2)⟩⟩) hS.2.2 hc hs
end XR
section XC
variable {p : Program} {l : Launch} {e : Env} {R : Room} {s : State} {m : MethodId} {args : Array Value} {below : List Frame} {meth : Method} {c : Code} {H : Heap} {locs : List Loc} {cells slots : Nat} {Q : State → Prop} {cc : ByteArray} {nL : Nat} {own : String} {ret : Option FieldType} {D : va_G} {G : Nat → ClassId} {pc : Nat} {ls : Array Slot} {A : Nat → Prop} {w w' : va_W}
  {y : MethodName} {bytes : ByteArray} {maxL index : Nat} {rt : Option FieldType} {rm : Room} {As rest st0 : List Value} {ov : Option Value} {b : Nat} {k : Int32} {ks va : Nat → Nat}
/-- behind a call that writes and may throw -/
theorem xAfter {g : JFrame} {args' : Array Value} {A1 : Nat → Prop} {mc ms : Nat} (hr : vx_Run p l e R s m args below meth c H locs cells slots mc ms g rest (xQ D w' k ov A1 args') (xX D w' k A1) A1) (hS : va_S A s.heap H locs) (hA : ∀ q, A1 q → A q)
    (kk : ∀ (H1 : Heap) (locs1 : List Loc), va_P D vwCl w' H1 → H.size ≤ H1.size → (∀ q : Nat, q < H.size → ¬ A1 q → H1[q]? = H[q]?) → va_S A s.heap H1 locs1 →
      (k = 0 → W p l e R s m args below meth c H1 locs1 (cells + mc) (slots + ms) Q { g with pc := g.pc + 3, stack := ov.toList ++ rest }) ∧
      (k ≠ 0 → ∀ (ce : Cell) (q : Addr), H1[q]? = some ce → ce.vm = .none → s.vm.findClass (exN k) = some ce.cls → vx_W p l e R s m args below meth c H1 locs1 (cells + mc) (slots + ms) Q { g with stack := rest } q)) : W p l e R s m args below meth c H locs cells slots Q g := by
  intro T hT X
  have key : ∀ (st₀ t T' : State) (L : List Loc), st₀.heap = H → T'.heap = t.heap → (∀ q ∈ L, A1 q.base) → va_F A1 st₀ t → va_S A s.heap T'.heap (locs ++ L) ∧ H.size ≤ T'.heap.size ∧ ∀ q : Nat, q < H.size → ¬ A1 q → T'.heap[q]? = H[q]? := by
    intro st₀ t T' L h0 e1 hL hF
    obtain ⟨hz, hk⟩ := hF
    rw [h0] at hz hk
    refine ⟨⟨Nat.le_trans hS.1 (by rw [e1]; exact hz), fun q h1 h2 => by rw [e1, hk q (Nat.lt_of_lt_of_le h1 hS.1) (fun z => h2 (hA q z))]; exact hS.2.1 q h1 h2, fun q hq => ?_⟩, by rw [e1]; exact hz, fun q h1 h2 => by rw [e1]; exact hk q h1 h2⟩
    rcases List.mem_append.mp hq with h | h
    · exact hS.2.2 q h
    · exact hA _ (hL q h)
  rcases hr T hT X with ⟨v, st₀, t, T', L, h0, X', hL, e1, e2, ⟨hk0, hv, hp, hF⟩, st⟩ | ⟨q, st₀, t, T', L, E, ce, h0, X', hL, e1, e2, ⟨hk0, hE, hp, hF⟩, hce, hcv, hcl, st⟩
  · cases hv
    obtain ⟨k1, k2, k3⟩ := key st₀ t T' L h0 e1 hL hF
    obtain ⟨t2, a1, b1⟩ := (kk T'.heap (locs ++ L) (by rw [e1]; exact hp) k2 k3 k1).1 hk0 T' rfl X'
    exact ⟨t2, st t2 a1, b1⟩
  · subst hE
    obtain ⟨k1, k2, k3⟩ := key st₀ t T' L h0 e1 hL hF
    obtain ⟨t2, a1, b1⟩ := (kk T'.heap (locs ++ L) (by rw [e1]; exact hp) k2 k3 k1).2 hk0 ce q (by rw [e1]; exact hce) hcv hcl T' rfl X'
    exact ⟨t2, st.trans a1, b1⟩
abbrev xRoom (rm R : Room) (maxL : Nat) : Prop := rm.frames + 1 ≤ R.frames ∧ 8 + (maxL + 11) + rm.locals ≤ R.locals
theorem xCB (C : Cx p s m args meth c cc nL own ret D G) {n : Nat} (hY : jY y bytes maxL rt n) (hl : Cond.methodLink own index y ∈ jw) (hR : xRoom rm R maxL) : CallB R s args own index y bytes maxL rt (jws y bytes maxL rt) rm rm.cells rm.slots n :=
  callB_of n C.2.2.2.2.1 (jG hY.2.1) rfl rfl rfl (C.2.2.2.2.1 _ hY.2.2) (C.2.2.2.2.1 _ hl) hY.1 hR
theorem jVx (C : Cx p s m args meth c cc nL own ret D G) (hdg : decode cc pc = .ok (.invokevirtual index, 3)) (hM : xM l y (jws y bytes maxL rt) rm (.ref b :: As) D G ks va w w' k ov) (hY : jY y bytes maxL rt As.length) (hl : Cond.methodLink own index y ∈ jw) (hi : Cond.instanceMethod y ∈ jw) (hsel : Cond.selects y.cls y y ∈ jw)
    (hR : xRoom rm R maxL) (hcs : cells + rm.cells ≤ R.cells ∧ slots + rm.slots ≤ R.slots) {ci iw : Nat} {q : vw_C} {fs : List Value} (hZ : jZ ks va A s s.heap) (hP : va_P D vwCl w H) (hD : va_D A w) (hA : ∀ q : Nat, s.heap.size ≤ q → A q) (hS : va_S A s.heap H locs) (hc : vwCl[ci]? = some q) (hw : w[iw]? = some (b, .inr (ci, fs))) (hq : q.1 = y.cls) {lv : List (Nat × Value)} (hlv : lv_has ls nL lv) (hst : st0 = As.reverse ++ .ref b :: rest) (hcat : (rest.map fun v => v.category).sum ≤ 8)
    (kk : ∀ (H1 : Heap) (locs1 : List Loc), va_P D vwCl w' H1 → H.size ≤ H1.size → (∀ q : Nat, q < H.size → ¬ va_A w H.size q → H1[q]? = H[q]?) → va_S A s.heap H1 locs1 →
      (k = 0 → W p l e R s m args below meth c H1 locs1 (cells + rm.cells) (slots + rm.slots) Q (F0 m (pc + 3) ls (ov.toList ++ rest))) ∧
      (k ≠ 0 → ∀ (ce : Cell) (q : Addr), H1[q]? = some ce → ce.vm = .none → s.vm.findClass (exN k) = some ce.cls → vx_W p l e R s m args below meth c H1 locs1 (cells + rm.cells) (slots + rm.slots) Q (F0 m pc ls rest) q)) : W p l e R s m args below meth c H locs cells slots Q (F0 m pc ls st0) := by
  have hAw : ∀ q, va_A w H.size q → A q := by
    intro q h
    rcases h with ⟨k, e, h⟩ | h
    · exact hD.2 k _ h
    · exact hA q (Nat.le_trans hS.1 h)
  refine xAfter (vx_runV (rest := rest) (As := As) (b := b) (C := y.cls) (jFix C) (hM H.size) ⟨xCB C hY hl hR, C.2.2.2.2.1 _ hi, C.2.2.2.2.1 _ hsel⟩ ⟨fun a U g mk q => ⟨q.1, q.2.1, q.2.2.1, q.2.2.2.1.blind, q.2.2.2.2.1, q.2.2.2.2.2.blind⟩, ?_, fun U hU hW => ⟨rfl, by rw [hU], by rw [hU]; exact hP, C.2.2.2.2.2.2.2.warm hW, hD.weaken (fun _ _ _ _ => trivial), by rw [hU]; exact ((hZ.kept hS.2.1).narrow hAw).warm hW⟩⟩ rfl rfl hlv.1 hst (lv_room hcat) hdg hcs) hS hAw kk
  rw [← hq]
  exact jRecv C hP hc hw
theorem jSx (C : Cx p s m args meth c cc nL own ret D G) (hdg : decode cc pc = .ok (.invokestatic index, 3)) (hM : xM l y (jws y bytes maxL rt) rm As D G ks va w w' k ov) (hY : jY y bytes maxL rt As.length) (hl : Cond.methodLink own index y ∈ jw) (hi : Cond.static y ∈ jw)
    (hR : xRoom rm R maxL) (hcs : cells + rm.cells ≤ R.cells ∧ slots + rm.slots ≤ R.slots) (hZ : jZ ks va A s s.heap) (hP : va_P D vwCl w H) (hD : va_D A w) (hA : ∀ q : Nat, s.heap.size ≤ q → A q) (hS : va_S A s.heap H locs) {lv : List (Nat × Value)} (hlv : lv_has ls nL lv) (hst : st0 = As.reverse ++ rest) (hcat : (rest.map fun v => v.category).sum ≤ 8)
    (kk : ∀ (H1 : Heap) (locs1 : List Loc), va_P D vwCl w' H1 → H.size ≤ H1.size → (∀ q : Nat, q < H.size → ¬ va_A w H.size q → H1[q]? = H[q]?) → va_S A s.heap H1 locs1 →
      (k = 0 → W p l e R s m args below meth c H1 locs1 (cells + rm.cells) (slots + rm.slots) Q (F0 m (pc + 3) ls (ov.toList ++ rest))) ∧
      (k ≠ 0 → ∀ (ce : Cell) (q : Addr), H1[q]? = some ce → ce.vm = .none → s.vm.findClass (exN k) = some ce.cls → vx_W p l e R s m args below meth c H1 locs1 (cells + rm.cells) (slots + rm.slots) Q (F0 m pc ls rest) q)) : W p l e R s m args below meth c H locs cells slots Q (F0 m pc ls st0) := by
  have hAw : ∀ q, va_A w H.size q → A q := by
    intro q h
    rcases h with ⟨k, e, h⟩ | h
    · exact hD.2 k _ h
    · exact hA q (Nat.le_trans hS.1 h)
  exact xAfter (vx_runS (rest := rest) (As := As) (jFix C) (hM H.size) ⟨xCB C hY hl hR, C.2.2.2.2.1 _ hi⟩ ⟨fun a U g mk q => ⟨q.1, q.2.1, q.2.2.1, q.2.2.2.1.blind, q.2.2.2.2.1, q.2.2.2.2.2.blind⟩, fun U hU hW => ⟨rfl, by rw [hU], by rw [hU]; exact hP, C.2.2.2.2.2.2.2.warm hW, hD.weaken (fun _ _ _ _ => trivial), by rw [hU]; exact ((hZ.kept hS.2.1).narrow hAw).warm hW⟩⟩ rfl rfl hlv.1 hst (lv_room hcat) hdg hcs) hS hAw kk
/-- a virtual call of a writing method that needs what lies in the heap -/
theorem jVz (C : Cx p s m args meth c cc nL own ret D G) (hdg : decode cc pc = .ok (.invokevirtual index, 3)) (hM : zM l y (jws y bytes maxL rt) rm (.ref b :: As) D G ks va w w' ov) (hY : jY y bytes maxL rt As.length) (hl : Cond.methodLink own index y ∈ jw) (hi : Cond.instanceMethod y ∈ jw) (hsel : Cond.selects y.cls y y ∈ jw)
    (hR : jRoom rm R maxL) (hcs : cells ≤ R.cells ∧ slots ≤ R.slots) {ci iw : Nat} {q : vw_C} {fs : List Value} (hZ : jZ ks va A s s.heap) (hP : va_P D vwCl w H) (hD : va_D A w) (hA : ∀ q : Nat, s.heap.size ≤ q → A q) (hS : va_S A s.heap H locs) (hc : vwCl[ci]? = some q) (hw : w[iw]? = some (b, .inr (ci, fs))) (hq : q.1 = y.cls) {lv : List (Nat × Value)} (hlv : lv_has ls nL lv) (hst : st0 = As.reverse ++ .ref b :: rest) (hcat : (rest.map fun v => v.category).sum ≤ 8)
    (kk : ∀ (H1 : Heap) (locs1 : List Loc), va_P D vwCl w' H1 → H.size ≤ H1.size → (∀ q : Nat, q < H.size → ¬ va_A w H.size q → H1[q]? = H[q]?) → va_S A s.heap H1 locs1 → W p l e R s m args below meth c H1 locs1 cells slots Q (F0 m (pc + 3) ls (ov.toList ++ rest))) : W p l e R s m args below meth c H locs cells slots Q (F0 m pc ls st0) := by
  have hAw : ∀ q, va_A w H.size q → A q := by
    intro q h
    rcases h with ⟨k, e, h⟩ | h
    · exact hD.2 k _ h
    · exact hA q (Nat.le_trans hS.1 h)
  refine jWrite (va_runV (rest := rest) (As := As) (b := b) (C := y.cls) (jFix C) (hM H.size) ⟨jCB C hY hl hR, C.2.2.2.2.1 _ hi, C.2.2.2.2.1 _ hsel⟩ ⟨fun a U g mk q => ⟨q.1, q.2.1, q.2.2.1, q.2.2.2.1.blind, q.2.2.2.2.1, q.2.2.2.2.2.blind⟩, ?_, fun U hU hW => ⟨rfl, by rw [hU], by rw [hU]; exact hP, C.2.2.2.2.2.2.2.warm hW, hD.weaken (fun _ _ _ _ => trivial), by rw [hU]; exact ((hZ.kept hS.2.1).narrow hAw).warm hW⟩⟩ rfl rfl hlv.1 hst (lv_room hcat) hdg ⟨hcs.1, hcs.2⟩) hS hAw kk
  rw [← hq]
  exact jRecv C hP hc hw
end XC

theorem jms_348 : (348, "no such number") ∈ msI := List.mem_of_getElem? (i := 0) rfl
theorem jms_116 : (116, "what is not 0 to 7") ∈ msI := List.mem_of_getElem? (i := 1) rfl
theorem jms_351 : (351, "out of range") ∈ msI := List.mem_of_getElem? (i := 2) rfl
theorem jms_173 : (173, "no performance on this stage on this date") ∈ msI := List.mem_of_getElem? (i := 3) rfl
theorem jms_202 : (202, "no request has this place") ∈ msI := List.mem_of_getElem? (i := 4) rfl
theorem jms_245 : (245, "what is not 0 to 3") ∈ msI := List.mem_of_getElem? (i := 5) rfl
theorem jms_254 : (254, "the production has no performances") ∈ msI := List.mem_of_getElem? (i := 6) rfl
theorem jms_282 : (282, "account is not 0 to 14") ∈ msI := List.mem_of_getElem? (i := 7) rfl
theorem jms_339 : (339, "there is no place for one more") ∈ msI := List.mem_of_getElem? (i := 8) rfl
theorem jms_343 : (343, "refused; reason() tells why") ∈ msI := List.mem_of_getElem? (i := 9) rfl
theorem jms_257 : (257, "no reason was kept") ∈ msI := List.mem_of_getElem? (i := 10) rfl
