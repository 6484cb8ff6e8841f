theorem jIfP {α : Type} {P : Prop} [Decidable P] {x : Option α} {r : α} (h : (if P then x else none) = some r) : P ∧ x = some r := by
  by_cases hp : P
  · rw [if_pos hp] at h; exact ⟨hp, h⟩
  · rw [if_neg hp] at h; cases h
theorem xat_118 {p : Program} {s : State} {m : MethodId} {args : Array Value} {meth : Method} {c : Code} {cc : ByteArray} {nL : Nat} {own : String} {ret : Option FieldType} {D : va_G} {G : Nat → ClassId} (C : Cx p s m args meth c cc nL own ret D G) : ∀ w ∈ vx_atS RX8 118 "java/lang/IllegalArgumentException" ["java/lang/RuntimeException", "java/lang/Exception"], w.before args s = true :=
  vx_hat (B := [Cond.castable "java/lang/IllegalArgumentException" "java/lang/IllegalArgumentException", Cond.declares (Bundle.initS "java/lang/RuntimeException"), Cond.declares (Bundle.initS "java/lang/Exception"), Cond.declares (Bundle.initS "java/lang/Throwable")]) (fun w h => C.2.2.2.2.1 w (jx_0 w h)) (by decide +kernel) (vx_c (va_Nw.use rfl (C.2.2.2.2.2.2.2.2 _ jn_54)) (vx_c (va_Nw.use rfl (C.2.2.2.2.2.2.2.2 _ jn_59)) (vx_c (va_Nw.use rfl (C.2.2.2.2.2.2.2.2 _ jn_60)) (vx_c (va_Nw.use rfl (C.2.2.2.2.2.2.2.2 _ jn_61)) vx_n))))
theorem xgd_118_114 : ∀ w ∈ Cond.classLink RX8 114 "java/lang/IllegalArgumentException" :: Cond.initialized "java/lang/IllegalArgumentException" :: vx_atS RX8 118 "java/lang/IllegalArgumentException" ["java/lang/RuntimeException", "java/lang/Exception"], vx_ot w = true := by decide +kernel
theorem xat_296 {p : Program} {s : State} {m : MethodId} {args : Array Value} {meth : Method} {c : Code} {cc : ByteArray} {nL : Nat} {own : String} {ret : Option FieldType} {D : va_G} {G : Nat → ClassId} (C : Cx p s m args meth c cc nL own ret D G) : ∀ w ∈ vx_atS RX8 296 "java/lang/IllegalStateException" ["java/lang/RuntimeException", "java/lang/Exception"], w.before args s = true :=
  vx_hat (B := [Cond.castable "java/lang/IllegalStateException" "java/lang/IllegalStateException", Cond.declares (Bundle.initS "java/lang/RuntimeException"), Cond.declares (Bundle.initS "java/lang/Exception"), Cond.declares (Bundle.initS "java/lang/Throwable")]) (fun w h => C.2.2.2.2.1 w (jx_1 w h)) (by decide +kernel) (vx_c (va_Nw.use rfl (C.2.2.2.2.2.2.2.2 _ jn_55)) (vx_c (va_Nw.use rfl (C.2.2.2.2.2.2.2.2 _ jn_59)) (vx_c (va_Nw.use rfl (C.2.2.2.2.2.2.2.2 _ jn_60)) (vx_c (va_Nw.use rfl (C.2.2.2.2.2.2.2.2 _ jn_61)) vx_n))))
theorem xgd_296_292 : ∀ w ∈ Cond.classLink RX8 292 "java/lang/IllegalStateException" :: Cond.initialized "java/lang/IllegalStateException" :: vx_atS RX8 296 "java/lang/IllegalStateException" ["java/lang/RuntimeException", "java/lang/Exception"], vx_ot w = true := by decide +kernel
theorem xat_345 {p : Program} {s : State} {m : MethodId} {args : Array Value} {meth : Method} {c : Code} {cc : ByteArray} {nL : Nat} {own : String} {ret : Option FieldType} {D : va_G} {G : Nat → ClassId} (C : Cx p s m args meth c cc nL own ret D G) : ∀ w ∈ vx_atS RX8 345 "java/lang/UnsupportedOperationException" ["java/lang/RuntimeException", "java/lang/Exception"], w.before args s = true :=
  vx_hat (B := [Cond.castable "java/lang/UnsupportedOperationException" "java/lang/UnsupportedOperationException", Cond.declares (Bundle.initS "java/lang/RuntimeException"), Cond.declares (Bundle.initS "java/lang/Exception"), Cond.declares (Bundle.initS "java/lang/Throwable")]) (fun w h => C.2.2.2.2.1 w (jx_2 w h)) (by decide +kernel) (vx_c (va_Nw.use rfl (C.2.2.2.2.2.2.2.2 _ jn_56)) (vx_c (va_Nw.use rfl (C.2.2.2.2.2.2.2.2 _ jn_59)) (vx_c (va_Nw.use rfl (C.2.2.2.2.2.2.2.2 _ jn_60)) (vx_c (va_Nw.use rfl (C.2.2.2.2.2.2.2.2 _ jn_61)) vx_n))))
theorem xgd_345_341 : ∀ w ∈ Cond.classLink RX8 341 "java/lang/UnsupportedOperationException" :: Cond.initialized "java/lang/UnsupportedOperationException" :: vx_atS RX8 345 "java/lang/UnsupportedOperationException" ["java/lang/RuntimeException", "java/lang/Exception"], vx_ot w = true := by decide +kernel
theorem xat_350 {p : Program} {s : State} {m : MethodId} {args : Array Value} {meth : Method} {c : Code} {cc : ByteArray} {nL : Nat} {own : String} {ret : Option FieldType} {D : va_G} {G : Nat → ClassId} (C : Cx p s m args meth c cc nL own ret D G) : ∀ w ∈ vx_atS RX8 350 "java/lang/IndexOutOfBoundsException" ["java/lang/RuntimeException", "java/lang/Exception"], w.before args s = true :=
  vx_hat (B := [Cond.castable "java/lang/IndexOutOfBoundsException" "java/lang/IndexOutOfBoundsException", Cond.declares (Bundle.initS "java/lang/RuntimeException"), Cond.declares (Bundle.initS "java/lang/Exception"), Cond.declares (Bundle.initS "java/lang/Throwable")]) (fun w h => C.2.2.2.2.1 w (jx_3 w h)) (by decide +kernel) (vx_c (va_Nw.use rfl (C.2.2.2.2.2.2.2.2 _ jn_53)) (vx_c (va_Nw.use rfl (C.2.2.2.2.2.2.2.2 _ jn_59)) (vx_c (va_Nw.use rfl (C.2.2.2.2.2.2.2.2 _ jn_60)) (vx_c (va_Nw.use rfl (C.2.2.2.2.2.2.2.2 _ jn_61)) vx_n))))
theorem xgd_350_346 : ∀ w ∈ Cond.classLink RX8 346 "java/lang/IndexOutOfBoundsException" :: Cond.initialized "java/lang/IndexOutOfBoundsException" :: vx_atS RX8 350 "java/lang/IndexOutOfBoundsException" ["java/lang/RuntimeException", "java/lang/Exception"], vx_ot w = true := by decide +kernel
theorem xat_256 {p : Program} {s : State} {m : MethodId} {args : Array Value} {meth : Method} {c : Code} {cc : ByteArray} {nL : Nat} {own : String} {ret : Option FieldType} {D : va_G} {G : Nat → ClassId} (C : Cx p s m args meth c cc nL own ret D G) : ∀ w ∈ vx_atS RX8 256 "java/lang/ArithmeticException" ["java/lang/RuntimeException", "java/lang/Exception"], w.before args s = true :=
  vx_hat (B := [Cond.castable "java/lang/ArithmeticException" "java/lang/ArithmeticException", Cond.declares (Bundle.initS "java/lang/RuntimeException"), Cond.declares (Bundle.initS "java/lang/Exception"), Cond.declares (Bundle.initS "java/lang/Throwable")]) (fun w h => C.2.2.2.2.1 w (jx_4 w h)) (by decide +kernel) (vx_c (va_Nw.use rfl (C.2.2.2.2.2.2.2.2 _ jn_58)) (vx_c (va_Nw.use rfl (C.2.2.2.2.2.2.2.2 _ jn_59)) (vx_c (va_Nw.use rfl (C.2.2.2.2.2.2.2.2 _ jn_60)) (vx_c (va_Nw.use rfl (C.2.2.2.2.2.2.2.2 _ jn_61)) vx_n))))
theorem xgd_256_252 : ∀ w ∈ Cond.classLink RX8 252 "java/lang/ArithmeticException" :: Cond.initialized "java/lang/ArithmeticException" :: vx_atS RX8 256 "java/lang/ArithmeticException" ["java/lang/RuntimeException", "java/lang/Exception"], vx_ot w = true := by decide +kernel
/-! NoSuchElementException's own constructor links its superclass's at 13: the laws nx_ctorMade, nx_make follow vx_ctorMadeS, vx_makeS of kit/laws, with this link put in -/
def nCls : String := "java/util/NoSuchElementException"
def nSix : ByteArray := prog_25_method_4_code
theorem nSix_0 : decode nSix 0 = .ok (.aload_n 0, 1) := by decide +kernel
theorem nSix_1 : decode nSix 1 = .ok (.aload_n 1, 1) := by decide +kernel
theorem nSix_2 : decode nSix 2 = .ok (.invokespecial 13, 3) := by decide +kernel
theorem nSix_5 : decode nSix 5 = .ok (.return_, 1) := by decide +kernel
def nAtoms (own : String) (ic : Nat) : List Cond :=
  Bundle.throwableAtoms ++ Bundle.throwableSAtoms ++ (Bundle.passSAtoms nCls "java/lang/RuntimeException" 13 nSix ++ Bundle.chainSAtoms "java/lang/RuntimeException" ["java/lang/Exception"]) ++
  [.methodLink own ic (Bundle.initS nCls), .instantiable nCls 6, .castable nCls nCls, .selects nCls Bundle.tFill0 Bundle.tFill0, .selects nCls Bundle.tFill Bundle.tFill,
   .lays nCls Bundle.tN "cause" "Ljava/lang/Throwable;", .lays nCls Bundle.tN "stackTrace" Bundle.steD, .lays nCls Bundle.tN "suppressedExceptions" Bundle.listD, .lays nCls Bundle.tN "detailMessage" "Ljava/lang/String;",
   .isRef (.static Bundle.tN "UNASSIGNED_STACK" Bundle.steD), .isRef (.static Bundle.tN "SUPPRESSED_SENTINEL" Bundle.listD),
   .fieldLink Bundle.tN 198 Bundle.tN "backtrace" "Ljava/lang/Object;", .lays Bundle.tN Bundle.tN "backtrace" "Ljava/lang/Object;", .lays nCls Bundle.tN "backtrace" "Ljava/lang/Object;"]
section B9
variable {p : Program} {l : Launch} {e : Env} {R : Room} {s : State} {m : MethodId} {args : Array Value} {below : List Frame} {meth : Method} {c : Code} {H : Heap} {locs : List Loc} {cells slots : Nat}
theorem vx_back9 {T S : State} {R' : Room} {k n : Nat} (X : Stand p l e R s m args below meth c T locs cells slots) (Y : Stand p l e R' ((T.setVm s.vm).setFrames (.invoking m args :: below)) m args below meth c T [] 0 0) (Z : Stand p l e R' ((T.setVm s.vm).setFrames (.invoking m args :: below)) m args below meth c S [] k n) :
    Stand p l e R s m args below meth c S locs (cells + k) (slots + n) := by
  have hW0 : s.WarmedH ((T.setVm s.vm).setFrames (.invoking m args :: below)).vm := State.WarmedH.refl s
  refine { admits := X.admits, cas := X.cas, clock := X.clock, frames := X.frames, room := X.room, hears := X.hears, method := X.method, code := X.code, here := Z.here, tail := Z.tail, warmed := State.WarmedH.trans hW0 Z.warmed, limits := Z.limits.trans (Y.limits.symm.trans X.limits), bytes := Z.bytes.trans (Y.bytes.symm.trans X.bytes), same := ?_ }
  obtain ⟨e1, e2⟩ := Z.same
  rw [State.setFrames_setFrames] at e1
  have h2 : (T.setVm s.vm).sameButNew (S.setVm s.vm) [] k n := ⟨e1, e2⟩
  have h3 := X.same.trans h2
  rw [List.append_nil] at h3
  exact h3
end B9
section NX
variable {p : Program} {l : Launch} {e : Env} {R : Room} {s : State} {m₀ : MethodId} {args : Array Value} {below : List Frame} {meth : Method} {c : Code} {W : State} {locs : List Loc} {cells slots : Nat}
set_option maxHeartbeats 1000000 in
theorem nx_ctorMade (X : Stand p l e R s m₀ args below meth c W locs cells slots) (hexec : p.tables.exec = Jvm.exec) (htr : e.platform.stackTraces = false) {own : String} {ic : Nat}
    (hown : s.vm.findClass own = some m₀.cls) 
    (h : ∀ a ∈ nAtoms own ic, a.before args s = true)
    (hlocs : ∀ x ∈ locs, ∀ cell, s.heap[x.base]? = some cell → cell.vm.isStatics = false)
    {a : Addr} {cX : ClassId} {kX : Class} (hfoundX : s.vm.findClass nCls = some cX) (hkX : s.vm.classes[cX]? = some kX) (hcell : W.heap[a]? = some (freshCell cX kX)) (hnew : s.heap.size ≤ a)
    {msg : Value} (hmsg : msg.isRef = true)
    {g : JFrame} (hg : g.method = m₀) (hsize : g.locals.size = c.maxLocals) {rest : List Value} (hstack : g.stack = msg :: .ref a :: .ref a :: rest)
    (hd6 : decode c.code g.pc = .ok (.invokespecial ic, 3))
    (hRframes : 2 + 3 < R.frames) (hRlocals : 2 * g.monitorRoom + ((Value.ref a :: rest).map fun v => v.category).sum + (13 * (2 + 1) + 42) ≤ R.locals) :
    ∃ (V : State) (ce : Cell) (L : List Loc), Stand p l e R s m₀ args below meth c (V.setCell a ce) (locs ++ L) cells slots ∧ (∀ y ∈ L, y.base = a) ∧ a < V.heap.size ∧ ce.cls = cX ∧ ce.vm = .none ∧
      ∀ target, Steps p.tables e below ((V.setCell a ce).setTop { g with stack := .ref a :: rest, pc := g.pc + 3 }) target → Steps p.tables e below (W.setTop g) target := by
  have howns : e.platform.frameOwnsMonitors = true := by rw [X.admits.platform]
  have hfin : e.platform.finalization = false := by rw [X.admits.platform]
  have hpl : e.platform.magicAccessors = ({} : Platform).magicAccessors := by rw [X.admits.platform]
  have a' : ∀ x, x ∈ nAtoms own ic → x.holds args s none s [] = true := fun x hx => h x hx
  obtain ⟨T, Z0, L, -, Y⟩ := ThrowableC.of_atoms (args := args) howns hfin hpl (fun x hx => h x (by simp [nAtoms, hx]))
  obtain ⟨Z, M, LZ, LM, hnZ⟩ := Init0T.ofS_atoms (args := args) hpl L Y (fun x hx => h x (by simp [nAtoms, hx]))
  have hcls : Bundle.fit nCls = true := by decide
  obtain ⟨P1, L1, hP1m, hs1⟩ := PassC.ofS_atoms (args := args) (s := s) hpl (X := nCls) (Y := "java/lang/RuntimeException") (index := 13) (bytes := nSix) (Bundle.fit_spec hcls).1 (by decide) nSix_0 nSix_1 nSix_2 nSix_5 (fun x hx => h x (by simp [nAtoms, hx]))
  obtain ⟨P2, Ps2, hlen2, L2, hL2, hP2m, hsup2, hpass2⟩ := Bundle.chainS (args := args) hpl hnZ ["java/lang/Exception"] "java/lang/RuntimeException" (by decide) (by decide) (fun x hx => h x (by simp only [nAtoms, List.mem_append]; exact Or.inl (Or.inr (Or.inr hx))))
  have hlen : (P2 :: Ps2).length = 2 := by simp [hlen2]
  have hL : ∀ P, P ∈ P2 :: Ps2 → P.LinksS e.platform s := by
    intro P hP
    rcases List.mem_cons.mp hP with rfl | hP
    · exact L2
    · exact hL2 P hP
  have hlink1 := Option.some.inj (hs1.symm.trans hP2m)
  have hlink := And.intro hsup2 hpass2
  have hfound : s.vm.findClass nCls = some P1.m.cls := findClass_of_methodNamed hP1m
  cases Option.some.inj (hfoundX.symm.trans hfound)
  obtain ⟨c1, kX', hc1, hk, hord, -, -, hn6⟩ := Cond.instantiable_spec (a' (.instantiable nCls 6) (by simp [nAtoms]))
  cases Option.some.inj (hc1.symm.trans hfound)
  cases Option.some.inj (hkX.symm.trans hk)
  have hsel0 : selectMethod e.platform s.vm P1.m.cls T.fill0 = .method T.fill0 := by
    obtain ⟨c2, r2, m2, q1, q2, q3, q4, -⟩ := Cond.selects_spec (a' (.selects nCls Bundle.tFill0 Bundle.tFill0) (by simp [nAtoms]))
    cases Option.some.inj (q1.symm.trans hfound)
    cases Option.some.inj (q2.symm.trans (State.methodFound?_of_named Y.fill0 (by decide)))
    cases Option.some.inj (q3.symm.trans Y.fill0)
    rw [Launch.admits_selectMethod X.admits]; exact q4
  have hselF : selectMethod e.platform s.vm P1.m.cls T.fill = .method T.fill := by
    obtain ⟨c2, r2, m2, q1, q2, q3, q4, -⟩ := Cond.selects_spec (a' (.selects nCls Bundle.tFill Bundle.tFill) (by simp [nAtoms]))
    cases Option.some.inj (q1.symm.trans hfound)
    cases Option.some.inj (q2.symm.trans (State.methodFound?_of_named Y.fill (by decide)))
    cases Option.some.inj (q3.symm.trans Y.fill)
    rw [Launch.admits_selectMethod X.admits]; exact q4
  obtain ⟨cellS0, hcS0, hiss⟩ := Y.statics
  obtain ⟨u0, hu0⟩ := Cond.staticRefV Y.unassigned L.unassignedStatic L.statics hcS0 hiss (a' (.isRef (.static Bundle.tN "UNASSIGNED_STACK" Bundle.steD)) (by simp [nAtoms]))
  obtain ⟨sen, hsen⟩ := Cond.staticRefV Y.sentinel L.sentinelStatic L.statics hcS0 hiss (a' (.isRef (.static Bundle.tN "SUPPRESSED_SENTINEL" Bundle.listD)) (by simp [nAtoms]))
  obtain ⟨ci198, i198, fB, hk198, hg198, ha198, hsB, -, hnB, htB, hffB⟩ := Cond.ownField (t := .object "java/lang/Object") Y.found L.cls (by decide +kernel) (a' (.fieldLink Bundle.tN 198 Bundle.tN "backtrace" "Ljava/lang/Object;") (by simp [nAtoms])) (a' (.lays Bundle.tN Bundle.tN "backtrace" "Ljava/lang/Object;") (by simp [nAtoms])) e.platform hpl
  obtain ⟨cellS, hcS', heS, -, hkeep⟩ := X.same.2.2.2.2.2 T.aS cellS0 hcS0
  have hcellS : W.heap[T.aS]? = some cellS := hcS'
  have hout' : ∀ i, (⟨T.aS, i⟩ : Loc) ∉ locs := fun i hmem => by
    have := hlocs _ hmem cellS0 hcS0
    rw [hiss] at this; cases this
  have hknownS : cellS.vm ≠ .unknown := by
    rw [heS]; intro hu
    rw [show cellS0.vm = .unknown from hu] at hiss
    cases hiss
  have hneS : T.aS ≠ a := Nat.ne_of_lt (Nat.lt_of_lt_of_le (Array.getElem?_eq_some_iff.mp hcS0).1 hnew)
  obtain ⟨iM, hffM⟩ := Y.msg
  obtain ⟨tyC, dC, hdC, hdnC⟩ := Cond.laysAt hfound hk Y.cause (a' (.lays nCls Bundle.tN "cause" "Ljava/lang/Throwable;") (by simp [nAtoms]))
  obtain ⟨tyS, dS, hdS, hdnS⟩ := Cond.laysAt hfound hk Y.stack (a' (.lays nCls Bundle.tN "stackTrace" Bundle.steD) (by simp [nAtoms]))
  obtain ⟨tyP, dP, hdP, hdnP⟩ := Cond.laysAt hfound hk Y.supp (a' (.lays nCls Bundle.tN "suppressedExceptions" Bundle.listD) (by simp [nAtoms]))
  obtain ⟨tyM, dM, hdM, hdnM⟩ := Cond.laysAt hfound hk hffM (a' (.lays nCls Bundle.tN "detailMessage" "Ljava/lang/String;") (by simp [nAtoms]))
  obtain ⟨tyB, dB, hdB, hdnB⟩ := Cond.laysAt hfound hk hffB (a' (.lays nCls Bundle.tN "backtrace" "Ljava/lang/Object;") (by simp [nAtoms]))
  have bC := Cond.laysApart hdB hdC hdnB hdnC (by rw [hnB, Y.causeName]; decide)
  have bS := Cond.laysApart hdB hdS hdnB hdnS (by rw [hnB, Y.stackName]; decide)
  have bP := Cond.laysApart hdB hdP hdnB hdnP (by rw [hnB, Y.suppName]; decide)
  have hskip : SkipFacts T e.platform s (fun u => u) u0 ((preparedCellV T.toThrowableT (freshCell P1.m.cls kX) a u0 sen).withEntry W.cur) :=
    ⟨{ ci198 := ci198, i198 := i198, fBack := fB }, ⟨hk198, hg198, ha198, hsB⟩, by
      have := fresh_default (c := P1.m.cls) tyB
      rw [htB] at this
      simpa [preparedCellV, Cell.setSlot, Cell.withEntry, Array.getElem?_setIfInBounds, bC, bS, bP, bC.symm, bS.symm, bP.symm, defaultValue] using this, fun _ _ => rfl⟩
  obtain ⟨tm, methC, cdC, kC, vm₁, hnC, -, -, -, -, -, -, -, hW₁, st1⟩ := Steps.initColdS (tb := p.tables) (e := e) (below := below) (s := s) (U := W) X.here hexec X.warmed hpl hown (t := Bundle.initS nCls) rfl rfl (Bundle.fit_spec hcls).2
    (a' (.methodLink own ic (Bundle.initS nCls)) (by simp [nAtoms])) (h (.instanceMethod (Bundle.initS nCls)) (by simp [nAtoms, Bundle.passSAtoms])) (bytes := nSix) (maxL := 2) (h (.code (Bundle.initS nCls) nSix 2 none) (by simp [nAtoms, Bundle.passSAtoms]))
    (f := g) hg (a := a) (msg := msg) (rest := .ref a :: rest) hstack hd6
  cases Option.some.inj (hnC.symm.trans hP1m)
  have X₁ := X.noted hW₁
  obtain ⟨vm₂, X₂, st2⟩ := X₁.ctorMessageOffV hexec (g := { g with stack := .ref a :: rest }) hg hsize T L Z LZ M LM (P1 :: (P2 :: Ps2))
    (fun P hP => by rcases List.mem_cons.mp hP with rfl | hP; exact L1; exact hL P hP) ⟨hlink1, hlink⟩ (u0 := u0) (sen := sen) (self := a) hmsg (cell := freshCell P1.m.cls kX) (cellS := cellS)
    hcell (fun _ => by simp) (by simp) rfl rfl hsel0 hselF hcellS hneS hknownS (by rw [hkeep _ (hout' _)]; exact hu0) (by rw [hkeep _ (hout' _)]; exact hsen)
    (Takes.of_laid hk hord tyC (by rw [Y.causeType]; rfl)) (Takes.of_laid hk hord tyS (by rw [Y.stackType]; exact fits_refV_array _ u0)) (Takes.of_laid hk hord tyP (by rw [Y.suppType]; exact fits_refV_object _ sen))
    (Takes.of_laid hk hord tyM (by rw [Y.msgType]; exact fits_refV_object _ ⟨msg, hmsg⟩)) Y.objLocals hskip htr [] hd6
    (by simp only [List.length_cons, hlen]; omega) (by simp only [List.length_cons, hlen]; exact hRlocals)
  have hlt : a < ((W.setVm vm₁).setVm vm₂).heap.size := (Array.getElem?_eq_some_iff.mp hcell).1
  refine ⟨(W.setVm vm₁).setVm vm₂, _, _, X₂, fun y hy => ?_, hlt, rfl, rfl, fun target hwalk => st1 _ (fun acts => ?_)⟩
  · simp only [List.mem_cons, List.not_mem_nil, or_false] at hy
    rcases hy with rfl | rfl | rfl | rfl | rfl <;> rfl
  · rw [doInvoke_state]
    exact st2 _ hwalk
end NX
set_option maxHeartbeats 4000000 in
theorem nx_make {p : Program} {l : Launch} {e : Env} {R : Room} {s : State} {m : MethodId} {args : Array Value} {below : List Frame} {meth : Method} {c : Code} {H : Heap} {locs : List Loc} {cells slots : Nat} {Q : State → Prop} {ls : Array Slot} {rest : List Value}
    {cc : ByteArray} {pc : Nat} (hexec : p.tables.exec = Jvm.exec) (hb : c.code = cc) (hl : l.stackTraces = false) {own text : String} {ik is ic sa : Nat} {A : Nat → Prop}
    (hown : s.vm.findClass own = some m.cls) (hk : (Cond.classLink own ik nCls).before args s = true) (hini : (Cond.initialized nCls).before args s = true) (hstr : vk_R own is text sa s) (hat : ∀ w ∈ (nAtoms own ic).filter vx_no, w.before args s = true)
    (hgood : ∀ w ∈ Cond.classLink own ik nCls :: Cond.initialized nCls :: (nAtoms own ic).filter vx_no, vx_ot w = true)
    (hU : vx_Zq Bundle.tN "UNASSIGNED_STACK" Bundle.steD A s s.heap) (hN : vx_Zq Bundle.tN "SUPPRESSED_SENTINEL" Bundle.listD A s s.heap) (hS : va_S A s.heap H locs) (hsize : ls.size = c.maxLocals)
    (d0 : decode cc pc = .ok (.new ik, 3)) (d3 : decode cc (pc + 3) = .ok (.dup, 1)) (d4 : decode cc (pc + 4) = .ok (.ldc is, 2)) (d6 : decode cc (pc + 6) = .ok (.invokespecial ic, 3))
    (hRframes : 5 < R.frames) (hRlocals : (rest.map fun v => v.category).sum + 82 ≤ R.locals) (hRcells : cells + 1 ≤ R.cells) (hRslots : slots + 6 ≤ R.slots)
    (kk : ∀ (q : Nat) (ce : Cell) (H1 : Heap), H1[q]? = some ce → ce.vm = .none → s.vm.findClass nCls = some ce.cls → H.size ≤ H1.size → (∀ x : Nat, x < H.size → H1[x]? = H[x]?) → va_S A s.heap H1 locs → W p l e R s m args below meth c H1 locs (cells + 1) (slots + 6) Q (F0 m (pc + 9) ls (.ref q :: rest))) :
    W p l e R s m args below meth c H locs cells slots Q (F0 m pc ls rest) := by
  intro T hT X
  subst hT
  have htr : e.platform.stackTraces = false := (show e.platform.stackTraces = l.stackTraces by rw [X.admits.platform]).trans hl
  have Y := vx_rebase X (R' := { frames := R.frames, locals := R.locals, cells := 1, slots := 6 }) (Nat.le_refl _) (Nat.le_refl _) hRcells hRslots
  obtain ⟨s', hA'⟩ : ∃ z, z = (T.setVm s.vm).setFrames (.invoking m args :: below) := ⟨_, rfl⟩
  rw [← hA'] at Y
  have hvm : s'.vm = s.vm := by rw [hA']; rfl
  have hhp : s'.heap = T.heap := by rw [hA']; rfl
  have hW0 : s.WarmedH s'.vm := by rw [hvm]; exact State.WarmedH.refl s
  have hat' : ∀ w ∈ (nAtoms own ic).filter vx_no, w.before args s' = true := fun w hw => vx_ot_at hW0 hvm.symm (hgood w (List.mem_cons_of_mem _ (List.mem_cons_of_mem _ hw))) (hat w hw)
  have hk' : (Cond.classLink own ik nCls).before args s' = true := vx_ot_at hW0 hvm.symm (hgood _ List.mem_cons_self) hk
  have hini' : (Cond.initialized nCls).before args s' = true := vx_ot_at hW0 hvm.symm (hgood _ (List.mem_cons_of_mem _ List.mem_cons_self)) hini
  have hU' : vx_Zq Bundle.tN "UNASSIGNED_STACK" Bundle.steD A s' s'.heap := by rw [hhp]; exact vx_Zq.moved hW0.alike (hU.kept hS.2.1)
  have hN' : vx_Zq Bundle.tN "SUPPRESSED_SENTINEL" Bundle.listD A s' s'.heap := by rw [hhp]; exact vx_Zq.moved hW0.alike (hN.kept hS.2.1)
  have h : ∀ w ∈ nAtoms own ic, w.before args s' = true := vx_own hat' (vx_isRefq hU'.1) (vx_isRefq hN'.1) hU'.2.word hN'.2.word
  have hown' : s'.vm.findClass own = some m.cls := by rw [hvm]; exact hown
  have hins : (Cond.instantiable nCls 6).before args s' = true := h _ (by simp [nAtoms])
  obtain ⟨vm₁, cX, kX, hfX, hkX, -, -, X₁, st1⟩ := Y.newCold hexec (own := own) (C := nCls) (index := ik) (n := 6) hown' hk' hins hini'
    (g := F0 m pc ls rest) rfl (by rw [hb]; exact d0) (Nat.le_refl _) (Nat.le_refl _)
  generalize hT1 : (T.setVm vm₁).pushCell { cls := cX, slots := kX.instanceTypes.map defaultValue, vm := .none } = T1 at X₁ st1
  have hcat : (Value.ref T.heap.size).category = 1 := rfl
  have hcellA : T1.heap[T.heap.size]? = some (freshCell cX kX) := by rw [← hT1]; exact State.heap_pushCell_size _ _
  have d3' : decode c.code (pc + 3) = .ok (.dup, 1) := by rw [hb]; exact d3
  have d4' : decode c.code (pc + 4) = .ok (.ldc is, 2) := by rw [hb]; exact d4
  have hstr' : vk_R own is text sa s' := vk_R.warm hW0 hstr
  obtain ⟨V, ce, L, Z, hL, hlt, hcl9, hvm9, st⟩ := nx_ctorMade X₁ hexec htr (own := own) (ic := ic) hown' h (fun x hx => nomatch hx) hfX hkX hcellA (by rw [hhp]; exact Nat.le_refl _) (msg := .ref sa) rfl
    (g := { method := m, pc := pc + 6, locals := ls, stack := .ref sa :: .ref T.heap.size :: .ref T.heap.size :: rest, locked := none }) rfl hsize (rest := rest) rfl
    (by rw [hb]; exact d6) (by omega) (by simp only [List.map_cons, List.sum_cons, hcat, JFrame.monitorRoom]; simp; omega)
  have Z0 := Stand.forget (locs := []) Z (fun y hy => by rw [hL y hy, hhp]; exact Nat.le_refl _)
  obtain ⟨f1, f2⟩ := vx_frame Z0.same
  rw [hhp] at f1 f2
  have hcid : s.vm.findClass nCls = some ce.cls := by
    rw [hcl9]
    rw [hvm] at hfX
    exact hfX
  have hh : (V.setCell T.heap.size ce).heap[T.heap.size]? = some ce := heapAt_setCell_self (s := V) ce hlt
  subst hA'
  have X5 := vx_back9 X Y Z0
  have X6 : Stand p l e R s m args below meth c (V.setCell T.heap.size ce) locs (cells + 1) (slots + 6) := { X5 with same := X5.same.mono (by omega) (by omega) }
  have hk9 : ∀ x : Nat, x < T.heap.size → (V.setCell T.heap.size ce).heap[x]? = T.heap[x]? := fun x hx => f2 x hx (fun z hz => nomatch hz)
  obtain ⟨t, a1, b1⟩ := kk T.heap.size ce (V.setCell T.heap.size ce).heap hh hvm9 hcid f1 hk9 ⟨Nat.le_trans hS.1 f1, fun q h1 h2 => (hk9 q (Nat.lt_of_lt_of_le h1 hS.1)).trans (hS.2.1 q h1 h2), hS.2.2⟩ _ rfl X6
  refine ⟨t, st1 _ ?_, b1⟩
  show Steps p.tables e below (T1.setTop { method := m, pc := pc + 3, locals := ls, stack := .ref T.heap.size :: rest, locked := none }) _
  jvm_step X₁.here [X₁.here.top, hexec, d3', Value.category]
  exact X₁.ldcString hexec (own := own) (text := text) (index := is) (a := sa) hown' hstr'.1 hstr'.2
    (g := { method := m, pc := pc + 4, locals := ls, stack := .ref T.heap.size :: .ref T.heap.size :: rest, locked := none }) rfl d4' _ (st _ a1)
set_option maxHeartbeats 4000000 in
theorem nx_makeW {p : Program} {l : Launch} {e : Env} {R : Room} {s : State} {m : MethodId} {args : Array Value} {below : List Frame} {meth : Method} {c : Code} {H : Heap} {locs : List Loc} {cells slots : Nat} {Q : State → Prop} {ls : Array Slot} {rest : List Value}
    {cc : ByteArray} {pc : Nat} (hexec : p.tables.exec = Jvm.exec) (hb : c.code = cc) (hl : l.stackTraces = false) {own text : String} {ik is ic sa : Nat} {A : Nat → Prop}
    (hown : s.vm.findClass own = some m.cls) (hk : (Cond.classLink own ik nCls).before args s = true) (hini : (Cond.initialized nCls).before args s = true) (hstr : vk_R own is text sa s) (hat : ∀ w ∈ (nAtoms own ic).filter vx_no, w.before args s = true)
    (hgood : ∀ w ∈ Cond.classLink own ik nCls :: Cond.initialized nCls :: (nAtoms own ic).filter vx_no, vx_ot w = true)
    (hU : vx_Zq Bundle.tN "UNASSIGNED_STACK" Bundle.steD A s s.heap) (hN : vx_Zq Bundle.tN "SUPPRESSED_SENTINEL" Bundle.listD A s s.heap) (hS : va_S A s.heap H locs) (hsize : ls.size = c.maxLocals)
    (d0 : decode cc pc = .ok (.new ik, 3)) (d3 : decode cc (pc + 3) = .ok (.dup, 1)) (d4 : decode cc (pc + 4) = .ok (.ldc_w is, 3)) (d6 : decode cc (pc + 7) = .ok (.invokespecial ic, 3))
    (hRframes : 5 < R.frames) (hRlocals : (rest.map fun v => v.category).sum + 82 ≤ R.locals) (hRcells : cells + 1 ≤ R.cells) (hRslots : slots + 6 ≤ R.slots)
    (kk : ∀ (q : Nat) (ce : Cell) (H1 : Heap), H1[q]? = some ce → ce.vm = .none → s.vm.findClass nCls = some ce.cls → H.size ≤ H1.size → (∀ x : Nat, x < H.size → H1[x]? = H[x]?) → va_S A s.heap H1 locs → W p l e R s m args below meth c H1 locs (cells + 1) (slots + 6) Q (F0 m (pc + 10) ls (.ref q :: rest))) :
    W p l e R s m args below meth c H locs cells slots Q (F0 m pc ls rest) := by
  intro T hT X
  subst hT
  have htr : e.platform.stackTraces = false := (show e.platform.stackTraces = l.stackTraces by rw [X.admits.platform]).trans hl
  have Y := vx_rebase X (R' := { frames := R.frames, locals := R.locals, cells := 1, slots := 6 }) (Nat.le_refl _) (Nat.le_refl _) hRcells hRslots
  obtain ⟨s', hA'⟩ : ∃ z, z = (T.setVm s.vm).setFrames (.invoking m args :: below) := ⟨_, rfl⟩
  rw [← hA'] at Y
  have hvm : s'.vm = s.vm := by rw [hA']; rfl
  have hhp : s'.heap = T.heap := by rw [hA']; rfl
  have hW0 : s.WarmedH s'.vm := by rw [hvm]; exact State.WarmedH.refl s
  have hat' : ∀ w ∈ (nAtoms own ic).filter vx_no, w.before args s' = true := fun w hw => vx_ot_at hW0 hvm.symm (hgood w (List.mem_cons_of_mem _ (List.mem_cons_of_mem _ hw))) (hat w hw)
  have hk' : (Cond.classLink own ik nCls).before args s' = true := vx_ot_at hW0 hvm.symm (hgood _ List.mem_cons_self) hk
  have hini' : (Cond.initialized nCls).before args s' = true := vx_ot_at hW0 hvm.symm (hgood _ (List.mem_cons_of_mem _ List.mem_cons_self)) hini
  have hU' : vx_Zq Bundle.tN "UNASSIGNED_STACK" Bundle.steD A s' s'.heap := by rw [hhp]; exact vx_Zq.moved hW0.alike (hU.kept hS.2.1)
  have hN' : vx_Zq Bundle.tN "SUPPRESSED_SENTINEL" Bundle.listD A s' s'.heap := by rw [hhp]; exact vx_Zq.moved hW0.alike (hN.kept hS.2.1)
  have h : ∀ w ∈ nAtoms own ic, w.before args s' = true := vx_own hat' (vx_isRefq hU'.1) (vx_isRefq hN'.1) hU'.2.word hN'.2.word
  have hown' : s'.vm.findClass own = some m.cls := by rw [hvm]; exact hown
  have hins : (Cond.instantiable nCls 6).before args s' = true := h _ (by simp [nAtoms])
  obtain ⟨vm₁, cX, kX, hfX, hkX, -, -, X₁, st1⟩ := Y.newCold hexec (own := own) (C := nCls) (index := ik) (n := 6) hown' hk' hins hini'
    (g := F0 m pc ls rest) rfl (by rw [hb]; exact d0) (Nat.le_refl _) (Nat.le_refl _)
  generalize hT1 : (T.setVm vm₁).pushCell { cls := cX, slots := kX.instanceTypes.map defaultValue, vm := .none } = T1 at X₁ st1
  have hcat : (Value.ref T.heap.size).category = 1 := rfl
  have hcellA : T1.heap[T.heap.size]? = some (freshCell cX kX) := by rw [← hT1]; exact State.heap_pushCell_size _ _
  have d3' : decode c.code (pc + 3) = .ok (.dup, 1) := by rw [hb]; exact d3
  have d4' : decode c.code (pc + 4) = .ok (.ldc_w is, 3) := by rw [hb]; exact d4
  have hstr' : vk_R own is text sa s' := vk_R.warm hW0 hstr
  obtain ⟨V, ce, L, Z, hL, hlt, hcl9, hvm9, st⟩ := nx_ctorMade X₁ hexec htr (own := own) (ic := ic) hown' h (fun x hx => nomatch hx) hfX hkX hcellA (by rw [hhp]; exact Nat.le_refl _) (msg := .ref sa) rfl
    (g := { method := m, pc := pc + 7, locals := ls, stack := .ref sa :: .ref T.heap.size :: .ref T.heap.size :: rest, locked := none }) rfl hsize (rest := rest) rfl
    (by rw [hb]; exact d6) (by omega) (by simp only [List.map_cons, List.sum_cons, hcat, JFrame.monitorRoom]; simp; omega)
  have Z0 := Stand.forget (locs := []) Z (fun y hy => by rw [hL y hy, hhp]; exact Nat.le_refl _)
  obtain ⟨f1, f2⟩ := vx_frame Z0.same
  rw [hhp] at f1 f2
  have hcid : s.vm.findClass nCls = some ce.cls := by
    rw [hcl9]
    rw [hvm] at hfX
    exact hfX
  have hh : (V.setCell T.heap.size ce).heap[T.heap.size]? = some ce := heapAt_setCell_self (s := V) ce hlt
  subst hA'
  have X5 := vx_back9 X Y Z0
  have X6 : Stand p l e R s m args below meth c (V.setCell T.heap.size ce) locs (cells + 1) (slots + 6) := { X5 with same := X5.same.mono (by omega) (by omega) }
  have hk9 : ∀ x : Nat, x < T.heap.size → (V.setCell T.heap.size ce).heap[x]? = T.heap[x]? := fun x hx => f2 x hx (fun z hz => nomatch hz)
  obtain ⟨t, a1, b1⟩ := kk T.heap.size ce (V.setCell T.heap.size ce).heap hh hvm9 hcid f1 hk9 ⟨Nat.le_trans hS.1 f1, fun q h1 h2 => (hk9 q (Nat.lt_of_lt_of_le h1 hS.1)).trans (hS.2.1 q h1 h2), hS.2.2⟩ _ rfl X6
  refine ⟨t, st1 _ ?_, b1⟩
  show Steps p.tables e below (T1.setTop { method := m, pc := pc + 3, locals := ls, stack := .ref T.heap.size :: rest, locked := none }) _
  jvm_step X₁.here [X₁.here.top, hexec, d3', Value.category]
  exact X₁.ldcStringW hexec (own := own) (text := text) (index := is) (a := sa) hown' hstr'.1 hstr'.2
    (g := { method := m, pc := pc + 4, locals := ls, stack := .ref T.heap.size :: .ref T.heap.size :: rest, locked := none }) rfl d4' _ (st _ a1)
/-- 'throw x' of an object that was made before -/
theorem nx_athrow {p : Program} {l : Launch} {e : Env} {R : Room} {s : State} {m : MethodId} {args : Array Value} {below : List Frame} {meth : Method} {c : Code} {H : Heap} {locs : List Loc} {cells slots : Nat} {Q : State → Prop} {ls : Array Slot} {rest : List Value}
    {cc : ByteArray} {pc : Nat} (hexec : p.tables.exec = Jvm.exec) (hb : c.code = cc) {q : Addr} (hdg : decode cc pc = .ok (.athrow, 1)) (k : vx_W p l e R s m args below meth c H locs cells slots Q (F0 m pc ls rest) q) : W p l e R s m args below meth c H locs cells slots Q (F0 m pc ls (.ref q :: rest)) := by
  intro T hT X
  obtain ⟨t, st, hq⟩ := k T hT X
  refine ⟨t, ?_, hq⟩
  have hdg' : decode c.code pc = .ok (.athrow, 1) := by rw [hb]; exact hdg
  jvm_step X.here [X.here.top, hexec, hdg', athrow.wp_sem]
  exact st
theorem xat_175 {p : Program} {s : State} {m : MethodId} {args : Array Value} {meth : Method} {c : Code} {cc : ByteArray} {nL : Nat} {own : String} {ret : Option FieldType} {D : va_G} {G : Nat → ClassId} (C : Cx p s m args meth c cc nL own ret D G) : ∀ w ∈ (nAtoms RX8 175).filter vx_no, w.before args s = true :=
  vx_hat (B := [Cond.castable nCls nCls, Cond.declares (Bundle.initS "java/lang/RuntimeException"), Cond.declares (Bundle.initS "java/lang/Exception"), Cond.declares (Bundle.initS "java/lang/Throwable")]) (fun w h => C.2.2.2.2.1 w (by
    have h2 : ∀ w ∈ ((nAtoms RX8 175).filter vx_no).filter goodWord, w ∈ (vx_atS RX8 296 "java/lang/IllegalStateException" ["java/lang/RuntimeException", "java/lang/Exception"]).filter goodWord ∨ w ∈ jwN := by decide +kernel
    rcases h2 w h with h3 | h3
    · exact jx_1 w h3
    · exact jx_N w h3)) (by decide +kernel) (vx_c (va_Nw.use rfl (C.2.2.2.2.2.2.2.2 _ jn_57)) (vx_c (va_Nw.use rfl (C.2.2.2.2.2.2.2.2 _ jn_59)) (vx_c (va_Nw.use rfl (C.2.2.2.2.2.2.2.2 _ jn_60)) (vx_c (va_Nw.use rfl (C.2.2.2.2.2.2.2.2 _ jn_61)) vx_n))))
theorem xgd_175_171 : ∀ w ∈ Cond.classLink RX8 171 nCls :: Cond.initialized nCls :: (nAtoms RX8 175).filter vx_no, vx_ot w = true := by decide +kernel
theorem xThrowN {p : Program} {l : Launch} {e : Env} {R : Room} {s : State} {m : MethodId} {args : Array Value} {below : List Frame} {meth : Method} {c : Code} {H : Heap} {locs : List Loc} {cells slots mc ms : Nat} {cc : ByteArray} {nL : Nat} {ret : Option FieldType} {D : va_G} {G : Nat → ClassId} {pc : Nat} {ls : Array Slot} {A : Nat → Prop} {w' : va_W} {rest : List Value} {k : Int32} (C : Cx p s m args meth c cc nL RX8 ret D G) (hno : ∀ x ∈ c.exceptionTable.toList, False) (hl : l.stackTraces = false) {ov : Option Value} {text : String} {is sa : Nat} (hcls : True) (hnames : True)
    (hkl : Cond.classLink RX8 171 "java/util/NoSuchElementException" ∈ jw) (hini : Cond.initialized "java/util/NoSuchElementException" ∈ jw) (hstr : vk_R RX8 is text sa s) (hat : ∀ w ∈ (nAtoms RX8 175).filter vx_no, w.before args s = true) (hgood : ∀ w ∈ Cond.classLink RX8 171 nCls :: Cond.initialized nCls :: (nAtoms RX8 175).filter vx_no, vx_ot w = true)
    {ks va : Nat → Nat} (hZ : jZ ks va A s s.heap) (hS : va_S A s.heap H locs) (hA : ∀ q : Nat, s.heap.size ≤ q → A q) (hP : va_P D vwCl w' H) {lv : List (Nat × Value)} (hlv : lv_has ls nL lv) (d0 : decode cc pc = .ok (.new 171, 3)) (d3 : decode cc (pc + 3) = .ok (.dup, 1)) (d4 : decode cc (pc + 4) = .ok (.ldc is, 2)) (d6 : decode cc (pc + 6) = .ok (.invokespecial 175, 3)) (d9 : decode cc (pc + 9) = .ok (.athrow, 1))
    (hRf : 5 < R.frames) (hRl : (rest.map fun v => v.category).sum + 82 ≤ R.locals) (hRc : cells + 1 ≤ R.cells) (hRs : slots + 6 ≤ R.slots) (hc : cells + 1 ≤ mc) (hs : slots + 6 ≤ ms) (hk : k ≠ 0) (hE : exN k = "java/util/NoSuchElementException") :
    W p l e R s m args below meth c H locs cells slots (vx_MQ below (xQ D w' k ov A) (xX D w' k A) args s mc ms A) (F0 m pc ls rest) := by
  obtain ⟨hx, hb, hr, hml, hts, hown, hlocks, hK⟩ := id C
  refine nx_make hx hb hl hown (hts _ hkl) (hts _ hini) hstr hat hgood hZ.2.2.2.2.1 hZ.2.2.2.2.2.1 hS (hlv.1.trans hml.symm) d0 d3 d4 d6 hRf hRl hRc hRs (fun q ce H1 hce hcv hcl hz hk9 hS => ?_)
  refine nx_athrow hx hb d9 ?_
  exact xOut C hno hk hce hcv (by rw [hE]; exact hcl) hc hs (hP.kept (fun k q hq => hk9 q.1 (hP k q hq).lt)) hS
theorem xThrowWN {p : Program} {l : Launch} {e : Env} {R : Room} {s : State} {m : MethodId} {args : Array Value} {below : List Frame} {meth : Method} {c : Code} {H : Heap} {locs : List Loc} {cells slots mc ms : Nat} {cc : ByteArray} {nL : Nat} {ret : Option FieldType} {D : va_G} {G : Nat → ClassId} {pc : Nat} {ls : Array Slot} {A : Nat → Prop} {w' : va_W} {rest : List Value} {k : Int32} (C : Cx p s m args meth c cc nL RX8 ret D G) (hno : ∀ x ∈ c.exceptionTable.toList, False) (hl : l.stackTraces = false) {ov : Option Value} {text : String} {is sa : Nat} (hcls : True) (hnames : True)
    (hkl : Cond.classLink RX8 171 "java/util/NoSuchElementException" ∈ jw) (hini : Cond.initialized "java/util/NoSuchElementException" ∈ jw) (hstr : vk_R RX8 is text sa s) (hat : ∀ w ∈ (nAtoms RX8 175).filter vx_no, w.before args s = true) (hgood : ∀ w ∈ Cond.classLink RX8 171 nCls :: Cond.initialized nCls :: (nAtoms RX8 175).filter vx_no, vx_ot w = true)
    {ks va : Nat → Nat} (hZ : jZ ks va A s s.heap) (hS : va_S A s.heap H locs) (hA : ∀ q : Nat, s.heap.size ≤ q → A q) (hP : va_P D vwCl w' H) {lv : List (Nat × Value)} (hlv : lv_has ls nL lv) (d0 : decode cc pc = .ok (.new 171, 3)) (d3 : decode cc (pc + 3) = .ok (.dup, 1)) (d4 : decode cc (pc + 4) = .ok (.ldc_w is, 3)) (d6 : decode cc (pc + 7) = .ok (.invokespecial 175, 3)) (d9 : decode cc (pc + 10) = .ok (.athrow, 1))
    (hRf : 5 < R.frames) (hRl : (rest.map fun v => v.category).sum + 82 ≤ R.locals) (hRc : cells + 1 ≤ R.cells) (hRs : slots + 6 ≤ R.slots) (hc : cells + 1 ≤ mc) (hs : slots + 6 ≤ ms) (hk : k ≠ 0) (hE : exN k = "java/util/NoSuchElementException") :
    W p l e R s m args below meth c H locs cells slots (vx_MQ below (xQ D w' k ov A) (xX D w' k A) args s mc ms A) (F0 m pc ls rest) := by
  obtain ⟨hx, hb, hr, hml, hts, hown, hlocks, hK⟩ := id C
  refine nx_makeW hx hb hl hown (hts _ hkl) (hts _ hini) hstr hat hgood hZ.2.2.2.2.1 hZ.2.2.2.2.2.1 hS (hlv.1.trans hml.symm) d0 d3 d4 d6 hRf hRl hRc hRs (fun q ce H1 hce hcv hcl hz hk9 hS => ?_)
  refine nx_athrow hx hb d9 ?_
  exact xOut C hno hk hce hcv (by rw [hE]; exact hcl) hc hs (hP.kept (fun k q hq => hk9 q.1 (hP k q hq).lt)) hS
theorem jy_X8_checkIndex : jY yX8_checkIndex cX8_checkIndex 1 none 1 := ⟨by decide +kernel, jq_11_21, jq_1_2⟩
def ckIndex (b : Int32) : Int32 := if b = 0 then 1 else 0
set_option maxHeartbeats 4000000 in
set_option maxRecDepth 100000 in
theorem kx_X8_checkIndex (l : Launch) (hl0 : l.stackTraces = false) (D : va_G) (G : Nat → ClassId) (ks va : Nat → Nat) (b : Int32) : xM l yX8_checkIndex (jws yX8_checkIndex cX8_checkIndex 1 none) ({ frames := 7, cells := 1, slots := 6, locals := 100 } : Room) [.int b] D G ks va [] [] (ckIndex b) none := by
  refine xM_of (by decide +kernel) (Nat.le_of_ble_eq_true rfl) (fun p e s m args below meth c ls A C hno hP hD hA hZ hl => ?_)
  have C : Cx p s m args meth c cX8_checkIndex 1 RX8 none D G := C
  obtain ⟨hx, hb, hr, hml, hts, hown, hlocks, hK0⟩ := id C
  have hS : va_S A s.heap s.heap [] := va_S.rf
  have hl : lv_has ls 1 [(0, .int b)] := hl
  refine lv_iload_n hx hb dX8_checkIndex_0 rfl (lv_at hl 0 rfl) ?_
  refine lv_if_ne (tgt := 15) hx hb dX8_checkIndex_1 (by decide) (fun h0 => ?_) (fun h0 => ?_)
  · exact xRetV C dX8_checkIndex_15 (by unfold ckIndex; rw [if_neg h0]) (by decide) (by decide) hP hS
  · have e1 : ckIndex b = 1 := by unfold ckIndex; rw [if_pos h0]
    rw [e1]
    obtain ⟨sa, hsa⟩ := hZ.2.2.2.2.2.2 _ jms_348
    exact xThrowW C hno hl0 (by decide) (by decide) jq_11_22 jq_11_23 hsa (xat_350 C) xgd_350_346 hZ hS hA hP hl dX8_checkIndex_4 dX8_checkIndex_7 dX8_checkIndex_8 dX8_checkIndex_11 dX8_checkIndex_14 (rest := []) (Nat.le_of_ble_eq_true rfl) (Nat.le_of_ble_eq_true rfl) (Nat.le_of_ble_eq_true rfl) (Nat.le_of_ble_eq_true rfl) (by decide) (by decide) (by decide) (by decide)
theorem jy_X8_checkArgument : jY yX8_checkArgument cX8_checkArgument 1 none 1 := ⟨by decide +kernel, jq_12_2, jq_1_2⟩
def ckArgument (b : Int32) : Int32 := if b = 0 then 2 else 0
set_option maxHeartbeats 4000000 in
set_option maxRecDepth 100000 in
theorem kx_X8_checkArgument (l : Launch) (hl0 : l.stackTraces = false) (D : va_G) (G : Nat → ClassId) (ks va : Nat → Nat) (b : Int32) : xM l yX8_checkArgument (jws yX8_checkArgument cX8_checkArgument 1 none) ({ frames := 7, cells := 1, slots := 6, locals := 100 } : Room) [.int b] D G ks va [] [] (ckArgument b) none := by
  refine xM_of (by decide +kernel) (Nat.le_of_ble_eq_true rfl) (fun p e s m args below meth c ls A C hno hP hD hA hZ hl => ?_)
  have C : Cx p s m args meth c cX8_checkArgument 1 RX8 none D G := C
  obtain ⟨hx, hb, hr, hml, hts, hown, hlocks, hK0⟩ := id C
  have hS : va_S A s.heap s.heap [] := va_S.rf
  have hl : lv_has ls 1 [(0, .int b)] := hl
  refine lv_iload_n hx hb dX8_checkArgument_0 rfl (lv_at hl 0 rfl) ?_
  refine lv_if_ne (tgt := 15) hx hb dX8_checkArgument_1 (by decide) (fun h0 => ?_) (fun h0 => ?_)
  · exact xRetV C dX8_checkArgument_15 (by unfold ckArgument; rw [if_neg h0]) (by decide) (by decide) hP hS
  · have e1 : ckArgument b = 2 := by unfold ckArgument; rw [if_pos h0]
    rw [e1]
    obtain ⟨sa, hsa⟩ := hZ.2.2.2.2.2.2 _ jms_351
    exact xThrowW C hno hl0 (by decide) (by decide) jq_6_2 jq_6_3 hsa (xat_118 C) xgd_118_114 hZ hS hA hP hl dX8_checkArgument_4 dX8_checkArgument_7 dX8_checkArgument_8 dX8_checkArgument_11 dX8_checkArgument_14 (rest := []) (Nat.le_of_ble_eq_true rfl) (Nat.le_of_ble_eq_true rfl) (Nat.le_of_ble_eq_true rfl) (Nat.le_of_ble_eq_true rfl) (by decide) (by decide) (by decide) (by decide)
