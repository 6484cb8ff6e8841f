/-! the law's helpers: they call, and catch -/
def jC (U : State) : Prop := va_Nc "java/lang/UnsupportedOperationException" "java/lang/IllegalStateException" U
theorem jC.warm {s U : State} (hW : s.WarmedH U.vm) (h : jC s) : jC U := va_Nc.moved hW.alike h
theorem jC.blind {U : State} {g : JFrame} {mk : MethodId} {a : Array Value} (h : jC U) : jC (U.calling g mk a) := va_Nc.moved (u := U) (U := U.calling g mk a) (Vm.Alike.refl U.vm) h
def hM (l : Launch) (y : MethodName) (ws : List Cond) (rm : Room) (As : List Value) (D : va_G) (G : Nat → ClassId) (ks va : Nat → Nat) (w w' : va_W) (k : Int32) : Prop :=
  ∀ sz : Nat, Met l y ws rm (va_Pc As (fun U => U.heap.size = sz ∧ va_P D vwCl w U.heap ∧ jK D G U ∧ va_D (fun _ => True) w ∧ jZ ks va (va_A w sz) U U.heap ∧ jC U)) (mQ D w' (some (.int k)) (va_A w sz)) rm.cells rm.slots (va_A w sz)
theorem hM_of {l : Launch} {y : MethodName} {cc : ByteArray} {maxL : Nat} {ret : Option FieldType} {hh : List (Nat × Nat × Nat × Nat)} {rm : Room} {As : List Value} {D : va_G} {G : Nat → ClassId} {ks va : Nat → Nat} {w w' : va_W} {k : Int32} (hy : plainName y.cls = true) (hlen : (lg_sl As).length ≤ maxL)
    (body : ∀ (p : Program) (e : Env) (s : State) (m : MethodId) (args : Array Value) (below : List Frame) (meth : Method) (c : Code) (ls : Array Slot) (A : Nat → Prop), Cx p s m args meth c cc maxL y.cls ret D G → c.exceptionTable.toList = tableOf hh → va_P D vwCl w s.heap → va_D A w → (∀ q : Nat, s.heap.size ≤ q → A q) → jZ ks va A s s.heap → jC s → lv_has ls maxL (lv_args 0 As) → W p l e rm s m args below meth c s.heap [] 0 0 (MQ below (mQ D w' (some (.int k)) A) args s rm.cells rm.slots A) (F0 m 0 ls [])) :
    hM l y (Cond.codeWith y cc maxL ret hh :: jw) rm As D G ks va w w' k := by
  intro sz
  refine va_MetW (cc := cc) (maxL := maxL) (ret := ret) (hh := hh) hy rfl ?_
  intro p e s m args below meth c s₁ B hml hv
  obtain ⟨rfl, hsz, hP, hK, hD0, hZ, hC⟩ := hv
  have hts := atoms_spec (ws := Cond.codeWith y cc maxL ret hh :: jw) B.pre
  subst hsz
  rw [lg_entry_eq]
  exact body p e s m _ below meth c _ (va_A w s.heap.size) ⟨B.exec, B.bytes, B.returns, hml, fun w h => hts w (List.mem_cons_of_mem _ h), findClass_of_methodNamed B.named, B.notSynchronized, hK⟩ (vx_table (x := y) B (hts _ List.mem_cons_self)) hP hD0.self (fun q h => Or.inr h) hZ hC (lv_entry As hlen)
theorem hRet {p : Program} {l : Launch} {e : Env} {R : Room} {s : State} {m : MethodId} {args : Array Value} {below : List Frame} {meth : Method} {c : Code} {H : Heap} {locs : List Loc} {cells slots mc ms : Nat} {cc : ByteArray} {nL : Nat} {own : String} {D : va_G} {G : Nat → ClassId} {pc : Nat} {ls : Array Slot} {A : Nat → Prop} {w' : va_W} {r : Int32}
    (C : Cx p s m args meth c cc nL own (some .int) D G) (hdg : decode cc pc = .ok (.ireturn, 1)) (hc : cells ≤ mc) (hs : slots ≤ ms) (hP : va_P D vwCl w' H) (hS : va_S A s.heap H locs) :
    W p l e R s m args below meth c H locs cells slots (MQ below (mQ D w' (some (.int r)) A) args s mc ms A) (F0 m pc ls [.int r]) := by
  obtain ⟨hx, hb, hr, -, -, -, hlocks, -⟩ := C
  refine W.widen hc hs ?_
  exact W.zret hx hb hr rfl (fun t ht _ => ⟨rfl, by rw [ht]; exact hP, hS.F ht⟩) hS.2.2 hdg hlocks
theorem jDT {A : Nat → Prop} {B : Nat → Nat → Nat} {G : Nat → ClassId} {S : Nat → Nat → Nat → Int32} (S' : Nat → Nat → Nat → Int32) {w : va_W} (hD : va_D A (wTS B G S ++ w)) : va_D A (wTS B G S' ++ w) := by
  refine jD ?_ hD
  simp only [List.map_append, dTS S S']
section LWC
variable {p : Program} {l : Launch} {e : Env} {R : Room} {s : State} {m : MethodId} {args : Array Value} {below : List Frame} {meth : Method} {c : Code} {H : Heap} {locs : List Loc} {cells slots : Nat} {Q : State → Prop} {cc : ByteArray} {nL : Nat} {own : String} {ret : Option FieldType} {D : va_G} {G : Nat → ClassId} {pc : Nat} {ls : Array Slot} {A : Nat → Prop} {w w' : va_W}
  {y : MethodName} {bytes : ByteArray} {maxL index : Nat} {rm : Room} {As rest st0 : List Value} {r : Int32} {ks va : Nat → Nat} {hh : List (Nat × Nat × Nat × Nat)}
theorem jWriteC {g : JFrame} {args' : Array Value} {A1 : Nat → Prop} {mc ms : Nat} {ov : Option Value} (hr : va_Run p l e R s m args below meth c H locs cells slots mc ms g rest (mQ D w' ov A1 args') A1) (hS : va_S A s.heap H locs) (hA : ∀ q, A1 q → A q)
    (kk : ∀ (H1 : Heap) (locs1 : List Loc), va_P D vwCl w' H1 → H.size ≤ H1.size → (∀ q : Nat, q < H.size → ¬ A1 q → H1[q]? = H[q]?) → va_S A s.heap H1 locs1 → W p l e R s m args below meth c H1 locs1 (cells + mc) (slots + ms) Q { g with pc := g.pc + 3, stack := ov.toList ++ rest }) : W p l e R s m args below meth c H locs cells slots Q g := by
  intro T hT X
  obtain ⟨v, st₀, t, T', L, h0, X', hL, e1, e2, ⟨hv, hp, hz, hk⟩, st⟩ := hr T hT X
  cases hv
  rw [h0] at hz hk
  obtain ⟨t2, a1, b1⟩ := kk T'.heap (locs ++ L) (by rw [e1]; exact hp) (by rw [e1]; exact hz) (fun q h1 h2 => by rw [e1]; exact hk q h1 h2)
    ⟨Nat.le_trans hS.1 (by rw [e1]; exact hz), fun q h1 h2 => by rw [e1, hk q (Nat.lt_of_lt_of_le h1 hS.1) (fun z => h2 (hA q z))]; exact hS.2.1 q h1 h2, fun q hq => by
      rcases List.mem_append.mp hq with h | h
      · exact hS.2.2 q h
      · exact hA _ (hL q h)⟩ T' rfl X'
  exact ⟨t2, st t2 a1, b1⟩
def hY (y : MethodName) (cc : ByteArray) (maxL : Nat) (hh : List (Nat × Nat × Nat × Nat)) (n : Nat) : Prop :=
  (y.cls ≠ "java/lang/invoke/MethodHandle" ∧ y.cls ≠ "java/lang/invoke/VarHandle" ∧ (parseMethodDescriptor y.desc).map (fun d => d.parameters.length) = some n) ∧ Cond.codeWith y cc maxL (some .int) hh ∈ jw ∧ Cond.initialized y.cls ∈ jw
/-- a call of a helper -/
theorem jSh (C : Cx p s m args meth c cc nL own ret D G) (hdg : decode cc pc = .ok (.invokestatic index, 3)) (hM : hM l y (Cond.codeWith y bytes maxL (some .int) hh :: jw) rm As D G ks va w w' r) (hy : hY y bytes maxL hh As.length) (hl : Cond.methodLink own index y ∈ jw) (hi : Cond.static y ∈ jw)
    (hR : xRoom rm R maxL) (hcs : cells + rm.cells ≤ R.cells ∧ slots + rm.slots ≤ R.slots) (hZ : jZ ks va A s s.heap) (hC : jC s) (hP : va_P D vwCl w H) (hD : va_D A w) (hA : ∀ q : Nat, s.heap.size ≤ q → A q) (hS : va_S A s.heap H locs) {lv : List (Nat × Value)} (hlv : lv_has ls nL lv) (hst : st0 = As.reverse ++ rest) (hcat : (rest.map fun v => v.category).sum ≤ 8)
    (kk : ∀ (H1 : Heap) (locs1 : List Loc), va_P D vwCl w' H1 → H.size ≤ H1.size → (∀ q : Nat, q < H.size → ¬ va_A w H.size q → H1[q]? = H[q]?) → va_S A s.heap H1 locs1 → W p l e R s m args below meth c H1 locs1 (cells + rm.cells) (slots + rm.slots) Q (F0 m (pc + 3) ls (.int r :: rest))) : W p l e R s m args below meth c H locs cells slots Q (F0 m pc ls st0) := by
  have hAw : ∀ q, va_A w H.size q → A q := by
    intro q h
    rcases h with ⟨k, e, h⟩ | h
    · exact hD.2 k _ h
    · exact hA q (Nat.le_trans hS.1 h)
  have hG : GoodIn jw (va_wsS own index y (Cond.codeWith y bytes maxL (some .int) hh :: jw)) := by
    intro w hw
    have hm : w ∈ jw := by
      unfold va_wsS at hw
      rcases List.mem_append.mp hw with h | h
      · simp only [List.mem_cons, List.not_mem_nil, or_false] at h
        rcases h with rfl | rfl | rfl
        · exact hl
        · exact hi
        · exact hy.2.2
      · rcases List.mem_cons.mp h with rfl | h
        · exact hy.2.1
        · exact h
    exact ⟨hm, good_of_word (List.all_eq_true.mp jw_good w hm)⟩
  exact jWriteC (vx_runSW (rest := rest) (As := As) (jFix C) (hM H.size) (vx_cwSW As.length C.2.2.2.2.1 hG rfl rfl rfl hy.1 hR) ⟨fun a U g mk q => ⟨q.1, q.2.1, q.2.2.1, q.2.2.2.1.blind, q.2.2.2.2.1, q.2.2.2.2.2.1.blind, q.2.2.2.2.2.2.blind⟩, fun U hU hW => ⟨rfl, by rw [hU], by rw [hU]; exact hP, C.2.2.2.2.2.2.2.warm hW, hD.weaken (fun _ _ _ _ => trivial), by rw [hU]; exact ((hZ.kept hS.2.1).narrow hAw).warm hW, hC.warm hW⟩⟩ rfl rfl hlv.1 hst (lv_room hcat) hdg hcs) hS hAw kk
end LWC
theorem fp_cmp {x : UInt64} (h : vf_n64 x) : Op.cmpValue (FP.dcmp x x) CmpOp.l = 0 := by
  have h2 : FP.Core.val64 x ≠ .nan := by
    rw [FP.Core.ne_nan]
    unfold vf_n64 at h
    rw [UInt64.le_iff_toNat_le, UInt64.toNat_and] at h
    have e : (0x7fffffffffffffff : UInt64).toNat = 2 ^ 63 - 1 := rfl
    have e2 : (0x7ff0000000000000 : UInt64).toNat = 9218868437227405312 := rfl
    rw [e, e2, Nat.and_two_pow_sub_one_eq_mod] at h
    exact h
  rw [show FP.dcmp x x = some .eq from FP.Core.dcmp_self h2]
  rfl
theorem fp_cmpf {x : UInt32} (h : vf_n32 x) : Op.cmpValue (FP.fcmp x x) CmpOp.l = 0 := by
  have h2 : FP.Core.val32 x ≠ .nan := by
    rw [FP.Core.ne_nan32]
    unfold vf_n32 at h
    rw [UInt32.le_iff_toNat_le, UInt32.toNat_and] at h
    have e : (0x7fffffff : UInt32).toNat = 2 ^ 31 - 1 := rfl
    have e2 : (0x7f800000 : UInt32).toNat = 2139095040 := rfl
    rw [e, e2, Nat.and_two_pow_sub_one_eq_mod] at h
    exact h
  rw [show FP.fcmp x x = some .eq from FP.Core.fcmp_self h2]
  rfl
/-! reading the script -/
/-- a method that reads the script, and writes nothing -/
def sP (l : Launch) (y : MethodName) (ws : List Cond) (rm : Room) (As : List Value) (D : va_G) (G : Nat → ClassId) (b L : Nat) (xs : Nat → Int32) (ov : Option Value) : Prop :=
  Met l y ws rm (va_Pc As (fun U => va_X b L xs U U.heap ∧ b < U.heap.size ∧ jK D G U)) (QcRd ov) 0 0 nofree
theorem sP_of {l : Launch} {y : MethodName} {cc : ByteArray} {maxL : Nat} {ret : Option FieldType} {rm : Room} {As : List Value} {D : va_G} {G : Nat → ClassId} {b L : Nat} {xs : Nat → Int32} {ov : Option Value} (hy : plainName y.cls = true) (hlen : (lg_sl As).length ≤ maxL)
    (body : ∀ (p : Program) (e : Env) (s : State) (m : MethodId) (args : Array Value) (below : List Frame) (meth : Method) (c : Code) (ls : Array Slot), Cx p s m args meth c cc maxL y.cls ret D G → va_X b L xs s s.heap → b < s.heap.size → lv_has ls maxL (lv_args 0 As) → W p l e rm s m args below meth c s.heap [] 0 0 (MQ below (QcRd ov) args s 0 0 nofree) (F0 m 0 ls [])) :
    sP l y (jws y cc maxL ret) rm As D G b L xs ov := by
  refine Met.ofW (cc := cc) (maxL := maxL) (ret := ret) hy rfl ?_
  intro p e s m args below meth c s₁ B hml hv
  obtain ⟨rfl, hX, hbl, hK⟩ := hv
  have hts := atoms_spec (ws := jws y cc maxL ret) B.pre
  rw [lg_entry_eq]
  exact body p e s m _ below meth c _ ⟨B.exec, B.bytes, B.returns, hml, fun w h => hts w (List.mem_cons_of_mem _ h), findClass_of_methodNamed B.named, B.notSynchronized, hK⟩ hX hbl (lv_entry As hlen)
section SC
variable {p : Program} {l : Launch} {e : Env} {R : Room} {s : State} {m : MethodId} {args : Array Value} {below : List Frame} {meth : Method} {c : Code} {H : Heap} {locs : List Loc} {cells slots : Nat} {Q : State → Prop} {cc : ByteArray} {nL : Nat} {own : String} {ret : Option FieldType} {D : va_G} {G : Nat → ClassId} {pc : Nat} {ls : Array Slot} {A : Nat → Prop}
  {y : MethodName} {bytes : ByteArray} {maxL index : Nat} {rt : Option FieldType} {rm : Room} {As rest st0 : List Value} {ov : Option Value} {b L : Nat} {xs : Nat → Int32}
/-- a call of a method that reads the script -/
theorem jSs (C : Cx p s m args meth c cc nL own ret D G) (hdg : decode cc pc = .ok (.invokestatic index, 3)) (hM : sP l y (jws y bytes maxL rt) rm As D G b L xs ov) (hY : jY y bytes maxL rt As.length) (hl : Cond.methodLink own index y ∈ jw) (hi : Cond.static y ∈ jw)
    (hR : jRoom rm R maxL) (hcs : cells ≤ R.cells ∧ slots ≤ R.slots) (hX : va_X b L xs s s.heap) (hbl : b < s.heap.size) (hbA : ¬ A b) (hS : va_S A s.heap H locs) {lv : List (Nat × Value)} (hlv : lv_has ls nL lv) (hst : st0 = As.reverse ++ rest) (hcat : (rest.map fun v => v.category).sum ≤ 8)
    (kk : W p l e R s m args below meth c H locs cells slots Q (F0 m (pc + 3) ls (ov.toList ++ rest))) : W p l e R s m args below meth c H locs cells slots Q (F0 m pc ls st0) :=
  jRead (va_runS (rest := rest) (As := As) (jFix C) hM ⟨jCB C hY hl hR, C.2.2.2.2.1 _ hi⟩ ⟨fun a U g mk q => ⟨q.1, va_X.moved (u := U) (U := U.calling g mk a) (Vm.Alike.refl U.vm) q.2.1, q.2.2.1, q.2.2.2.blind⟩, fun U hU hW => ⟨rfl, by rw [hU]; exact va_X.moved hW.alike (hX.kept (hS.2.1 b hbl hbA)), by rw [hU]; exact Nat.lt_of_lt_of_le hbl hS.1, C.2.2.2.2.2.2.2.warm hW⟩⟩ rfl rfl hlv.1 hst (lv_room hcat) hdg ⟨hcs.1, hcs.2⟩) kk
end SC
/-- what cell answers -/
def clV (L : Nat) (xs : Nat → Int32) (k : Nat) : Int32 := if k < L then xs k else (7919 : Int32) * Int32.ofNat k + 12
/-- what some answers: never below 0 -/
def smV (L : Nat) (xs : Nat → Int32) (k n : Nat) : Nat := ((clV L xs k).toUInt32.toNat / 8) % n
theorem sm_lt {L : Nat} {xs : Nat → Int32} {k n : Nat} (h : 0 < n) : smV L xs k n < n := Nat.mod_lt _ h
theorem jy_L_cell : jY yL_cell cL_cell 2 (some .int) 2 := ⟨by decide +kernel, jq_8_9, jq_8_2⟩
set_option maxHeartbeats 4000000 in
set_option maxRecDepth 100000 in
theorem ks_cell (l : Launch) (D : va_G) (G : Nat → ClassId) (b L : Nat) (xs : Nat → Int32) (hL : L ≤ 260) (k : Nat) (hk : k < 1000) : sP l yL_cell (jws yL_cell cL_cell 2 (some .int)) ({ frames := 0, cells := 0, slots := 0, locals := 0 } : Room) [.ref b, .int (nI k)] D G b L xs (some (.int (clV L xs k))) := by
  refine sP_of (by decide +kernel) (Nat.le_of_ble_eq_true rfl) (fun p e s m args below meth c ls C hX hbl hl => ?_)
  have C : Cx p s m args meth c cL_cell 2 RL (some .int) D G := C
  obtain ⟨hx, hb, hr, hml, hts, hown, hlocks, hK0⟩ := id C
  have hS : va_S nofree s.heap s.heap [] := va_S.rf
  have hbA : ¬ nofree b := fun h => h
  have hl : lv_has ls 2 [(0, .ref b), (1, .int (nI k))] := hl
  have e1 : (nI k).toInt = k := Int32.toInt_ofNat_of_lt (by omega)
  have e2 : (Int32.ofNat L).toInt = L := Int32.toInt_ofNat_of_lt (by omega)
  have e3 : (nI k).toNatClampNeg = k := by
    show (nI k).toInt.toNat = k
    rw [e1]; rfl
  refine lv_iload_n hx hb dL_cell_0 rfl (lv_at hl 1 rfl) ?_
  refine lv_aload_n hx hb dL_cell_1 rfl (lv_at hl 0 rfl) ?_
  refine va_slen hx hb hX hbl hbA hS dL_cell_2 ?_
  refine lv_icmp_ge (tgt := 12) hx hb dL_cell_3 (by decide) (fun h => ?_) (fun h => ?_)
  · have h2 : ¬ k < L := by
      rw [Int32.le_iff_toInt_le, e1, e2] at h
      omega
    refine lv_sipush (v := 7919) hx hb dL_cell_12 (by decide) ?_
    refine lv_iload_n hx hb dL_cell_15 rfl (lv_at hl 1 rfl) ?_
    refine lv_imul hx hb dL_cell_16 ?_
    refine lv_bipush (v := 12) hx hb dL_cell_17 (by decide) ?_
    refine lv_iadd hx hb dL_cell_19 ?_
    exact pRet C rfl dL_cell_20 rfl (by unfold clV; rw [if_neg h2]; rfl)
  · have h2 : k < L := by
      rw [Int32.le_iff_toInt_le, e1, e2] at h
      omega
    refine lv_aload_n hx hb dL_cell_6 rfl (lv_at hl 0 rfl) ?_
    refine lv_iload_n hx hb dL_cell_7 rfl (lv_at hl 1 rfl) ?_
    refine va_sld hx hb hX hbl hbA hS (i := nI k) (by rintro (h3 | h3); · rw [Int32.lt_iff_toInt_lt, e1] at h3; have e4 : (0 : Int32).toInt = 0 := rfl; omega
                                                      · rw [e3] at h3; omega) dL_cell_8 ?_
    rw [e3]
    refine lv_goto (tgt := 20) hx hb dL_cell_9 (by decide) ?_
    exact pRet C rfl dL_cell_20 rfl (by unfold clV; rw [if_pos h2])
theorem sm_rem (x : Int32) {n : Nat} (h0 : 0 < n) (hn : n < 1000) : ((x.toUInt32 >>> ((3 : Int32).toUInt32 &&& Int32.toUInt32 31)).toInt32) - ((x.toUInt32 >>> ((3 : Int32).toUInt32 &&& Int32.toUInt32 31)).toInt32) / nI n * nI n = nI (x.toUInt32.toNat / 8 % n) := by
  have e1 : (x.toUInt32 >>> ((3 : Int32).toUInt32 &&& Int32.toUInt32 31)).toNat = x.toUInt32.toNat / 8 := by
    rw [UInt32.toNat_shiftRight]
    show x.toUInt32.toNat >>> (3 % 32) = _
    rw [Nat.shiftRight_eq_div_pow]
  have hlt : x.toUInt32.toNat < 2 ^ 32 := UInt32.toNat_lt _
  generalize x.toUInt32.toNat = u at e1 hlt ⊢
  have e2 : (x.toUInt32 >>> ((3 : Int32).toUInt32 &&& Int32.toUInt32 31)).toInt32 = nI (u / 8) := by
    have : (x.toUInt32 >>> ((3 : Int32).toUInt32 &&& Int32.toUInt32 31)) = UInt32.ofNat (u / 8) := by
      apply UInt32.toNat_inj.mp
      rw [e1, UInt32.toNat_ofNat_of_lt' (by show u / 8 < 2 ^ 32; omega)]
    rw [this]
    rfl
  rw [e2]
  have hu : u / 8 < 2 ^ 31 := by omega
  generalize u / 8 = v at hu ⊢
  have ev : (nI v).toInt = v := Int32.toInt_ofNat_of_lt hu
  have en : (nI n).toInt = n := Int32.toInt_ofNat_of_lt (by omega)
  have hdm := Nat.div_add_mod v n
  have hd : v / n ≤ v := Nat.div_le_self _ _
  have hq : (nI v / nI n) = nI (v / n) := by
    apply Int32.toInt_inj.mp
    rw [Int32.toInt_div_of_ne_right _ _ (fun h => by have h2 := congrArg Int32.toInt h; rw [en] at h2; have h3 : (-1 : Int32).toInt = -1 := rfl; omega), ev, en, show (nI (v / n)).toInt = ((v / n : Nat) : Int) from Int32.toInt_ofNat_of_lt (by omega)]
    rw [Int.ofNat_tdiv]
  rw [hq]
  have hm : nI (v / n) * nI n = nI (v / n * n) := (Int32.ofNat_mul (v / n) n).symm
  rw [hm]
  have hs : v = v / n * n + v % n := by rw [Nat.mul_comm]; exact hdm.symm
  have hs2 : nI v = nI (v / n * n) + nI (v % n) := by
    have := Int32.ofNat_add (v / n * n) (v % n)
    rw [← hs] at this
    exact this
  rw [hs2, Int32.add_comm, Int32.add_sub_cancel]
theorem jy_L_some : jY yL_some cL_some 3 (some .int) 3 := ⟨by decide +kernel, jq_8_6, jq_8_2⟩
set_option maxHeartbeats 4000000 in
set_option maxRecDepth 100000 in
theorem ks_some (l : Launch) (D : va_G) (G : Nat → ClassId) (b L : Nat) (xs : Nat → Int32) (hL : L ≤ 260) (k n : Nat) (hk : k < 1000) (h0 : 0 < n) (hn : n < 1000) : sP l yL_some (jws yL_some cL_some 3 (some .int)) ({ frames := 1, cells := 0, slots := 0, locals := 40 } : Room) [.ref b, .int (nI k), .int (nI n)] D G b L xs (some (.int (nI (smV L xs k n)))) := by
  refine sP_of (by decide +kernel) (Nat.le_of_ble_eq_true rfl) (fun p e s m args below meth c ls C hX hbl hl => ?_)
  have C : Cx p s m args meth c cL_some 3 RL (some .int) D G := C
  obtain ⟨hx, hb, hr, hml, hts, hown, hlocks, hK0⟩ := id C
  have hS : va_S nofree s.heap s.heap [] := va_S.rf
  have hbA : ¬ nofree b := fun h => h
  have hl : lv_has ls 3 [(0, .ref b), (1, .int (nI k)), (2, .int (nI n))] := hl
  have en : (nI n).toInt = n := Int32.toInt_ofNat_of_lt (by omega)
  refine lv_aload_n hx hb dL_some_0 rfl (lv_at hl 0 rfl) ?_
  refine lv_iload_n hx hb dL_some_1 rfl (lv_at hl 1 rfl) ?_
  refine jSs C dL_some_2 (ks_cell l D G b L xs hL k hk) jy_L_cell jq_8_7 jq_8_8 ⟨rfl, rfl, Nat.le_of_ble_eq_true rfl, Nat.le_of_ble_eq_true rfl⟩ ⟨Nat.le_of_ble_eq_true rfl, Nat.le_of_ble_eq_true rfl⟩ hX hbl hbA hS hl (As := [.ref b, .int (nI k)]) (rest := []) rfl (Nat.le_of_ble_eq_true rfl) ?_
  refine W.eq (g2 := F0 m 5 ls [.int (clV L xs k)]) rfl ?_
  refine lv_iconst (v := 3) hx hb dL_some_5 (by decide) ?_
  refine lv_iushr hx hb dL_some_6 rfl ?_
  refine lv_iload_n hx hb dL_some_7 rfl (lv_at hl 2 rfl) ?_
  refine lv_irem hx hb dL_some_8 (fun h => by have h2 := congrArg Int32.toInt h; rw [en] at h2; have h3 : (0 : Int32).toInt = 0 := rfl; omega) ?_
  exact pRet C rfl dL_some_9 rfl (sm_rem (clV L xs k) h0 hn)
theorem hy_perform : hY yL_perform cL_perform 5 [(0, 7, 8, 19), (0, 7, 14, 21)] 4 := ⟨by decide +kernel, jq_12_9, jq_8_2⟩
set_option maxHeartbeats 4000000 in
set_option maxRecDepth 100000 in
theorem kh_perform (l : Launch) (hl0 : l.stackTraces = false) (D : va_G) (G : Nat → ClassId) (B : Nat → Nat → Nat) (ks va : Nat → Nat) (N : Nat) (S : Nat → Nat → Nat → Int32) (v1 v2 v3 : Int32) (r : Int32 × Int32 × (Nat → Nat → Nat → Int32)) (hV : F_X8_perform N S v1 v2 v3 = some r) (hk : r.1 = 0 ∨ r.1 = 3 ∨ r.1 = 4) (q : Int32) (hq : r.1 = 4 → F_Y8_reason N r.2.2 0 = some q) : hM l yL_perform (Cond.codeWith yL_perform cL_perform 5 (some .int) [(0, 7, 8, 19), (0, 7, 14, 21)] :: jw) ({ frames := 10, cells := 3, slots := 18, locals := 234 } : Room) [.ref (B 9 0), .int v1, .int v2, .int v3] D G ks va (wTS B G S) (wTS B G r.2.2) (if r.1 = 0 then r.2.1 else if r.1 = 3 then (-2000 : Int32) else (-1000 : Int32) - q) := by
  refine hM_of (by decide +kernel) (Nat.le_of_ble_eq_true rfl) (fun p e s m args below meth c ls A C htab hP hD hA hZ hC hl => ?_)
  have C : Cx p s m args meth c cL_perform 5 RL (some .int) D G := C
  obtain ⟨hx, hb, hr, hml, hts, hown, hlocks, hK0⟩ := id C
  have hK := hK0.1
  have hS : va_S A s.heap s.heap [] := va_S.rf
  have hl : lv_has ls 5 [(0, .ref (B 9 0)), (1, .int v1), (2, .int v2), (3, .int v3)] := hl
  refine lv_aload_n hx hb dL_perform_0 rfl (lv_at hl 0 rfl) ?_
  refine lv_iload_n hx hb dL_perform_1 rfl (lv_at hl 1 rfl) ?_
  refine lv_iload_n hx hb dL_perform_2 rfl (lv_at hl 2 rfl) ?_
  refine lv_iload_n hx hb dL_perform_3 rfl (lv_at hl 3 rfl) ?_
  refine jVx C dL_perform_4 (k_X8_perform l hl0 D G B ks va N S v1 v2 v3 r hV) jy_X8_perform jq_12_12 jq_12_13 jq_12_14 ⟨Nat.le_of_ble_eq_true rfl, Nat.le_of_ble_eq_true rfl⟩ ⟨Nat.le_of_ble_eq_true rfl, Nat.le_of_ble_eq_true rfl⟩ hZ hP hD hA hS (ci := 10) (iw := 0) rfl rfl rfl hl (As := [.int v1, .int v2, .int v3]) (rest := []) rfl (Nat.le_of_ble_eq_true rfl) (fun H1 locs hQ hz hkp hS => ?_)
  have hP : va_P D vwCl (wTS B G r.2.2) H1 := hQ
  clear hQ hz hkp
  refine ⟨fun hk0 => ?_, fun hkn ce a hce hcv hcl => ?_⟩
  · rw [if_pos hk0]
    exact hRet C dL_perform_7 (Nat.le_of_ble_eq_true rfl) (Nat.le_of_ble_eq_true rfl) hP hS
  · rw [if_neg hkn]
    rcases hk with hk | hk | hk
    · exact absurd hk hkn
    · rw [if_pos hk]
      rw [hk] at hcl
      have hcl : s.vm.findClass "java/lang/IllegalStateException" = some ce.cls := hcl
      refine vx_catch (own := RL) (name := "java/lang/IllegalStateException") (E := "java/lang/IllegalStateException") hown [] (⟨0, 7, 8, 19⟩ : ExceptionTableEntry) [(⟨0, 7, 14, 21⟩ : ExceptionTableEntry)] (htab.trans rfl) ?_ rfl (by decide : (19 : Nat) ≠ 0) (hts _ jq_12_10) (va_Nw.use rfl (hK0.2 _ jn_55)) hce hcv hcl ?_
      · intro z hz
        exact absurd hz List.not_mem_nil
      · refine lv_astore (lv' := [(4, .ref a), (0, .ref (B 9 0)), (1, .int v1), (2, .int v2), (3, .int v3)]) hx hb dL_perform_8 hl (by decide) rfl (fun ls hl => ?_)
        refine lv_sipush (v := -2000) hx hb dL_perform_10 (by decide) ?_
        exact hRet C dL_perform_13 (Nat.le_of_ble_eq_true rfl) (Nat.le_of_ble_eq_true rfl) hP hS
    · rw [if_neg (show ¬ r.1 = 3 by rw [hk]; decide)]
      rw [hk] at hcl
      have hcl : s.vm.findClass "java/lang/UnsupportedOperationException" = some ce.cls := hcl
      refine vx_catch (own := RL) (name := "java/lang/UnsupportedOperationException") (E := "java/lang/UnsupportedOperationException") hown [(⟨0, 7, 8, 19⟩ : ExceptionTableEntry)] (⟨0, 7, 14, 21⟩ : ExceptionTableEntry) [] (htab.trans rfl) ?_ rfl (by decide : (21 : Nat) ≠ 0) (hts _ jq_12_11) (va_Nw.use rfl (hK0.2 _ jn_56)) hce hcv hcl ?_
      · intro z hz
        rcases List.mem_cons.mp hz with rfl | hz
        · exact Or.inr ⟨(by decide : (19 : Nat) ≠ 0), "java/lang/IllegalStateException", hts _ jq_12_10, hC⟩
        exact absurd hz List.not_mem_nil
      · refine lv_astore (lv' := [(4, .ref a), (0, .ref (B 9 0)), (1, .int v1), (2, .int v2), (3, .int v3)]) hx hb dL_perform_14 hl (by decide) rfl (fun ls hl => ?_)
        refine lv_sipush (v := -1000) hx hb dL_perform_16 (by decide) ?_
        refine lv_aload_n hx hb dL_perform_19 rfl (lv_at hl 1 rfl) ?_
        refine lv_iconst (v := 0) hx hb dL_perform_20 (by decide) ?_
        refine jVpI C dL_perform_21 (k_Y8_reason l D G B N r.2.2 0 q (hq hk)) jy_X8_reason jq_14_18 jq_14_19 jq_14_20 ⟨rfl, rfl, Nat.le_of_ble_eq_true rfl, Nat.le_of_ble_eq_true rfl⟩ ⟨Nat.le_of_ble_eq_true rfl, Nat.le_of_ble_eq_true rfl⟩ hP (ci := 10) (iw := 0) rfl rfl rfl hl (As := [.int 0]) (rest := [.int (-1000)]) rfl (Nat.le_of_ble_eq_true rfl) ?_
        refine lv_isub hx hb dL_perform_24 ?_
        exact hRet C dL_perform_25 (Nat.le_of_ble_eq_true rfl) (Nat.le_of_ble_eq_true rfl) hP hS
theorem hy_sell : hY yL_sell cL_sell 4 [(0, 6, 7, 21)] 3 := ⟨by decide +kernel, jq_17_8, jq_8_2⟩
set_option maxHeartbeats 4000000 in
set_option maxRecDepth 100000 in
theorem kh_sell (l : Launch) (hl0 : l.stackTraces = false) (D : va_G) (G : Nat → ClassId) (B : Nat → Nat → Nat) (ks va : Nat → Nat) (N : Nat) (S : Nat → Nat → Nat → Int32) (v1 v2 : Int32) (r : Int32 × Int32 × (Nat → Nat → Nat → Int32)) (hV : F_X8_sell N S v1 v2 = some r) (hk : r.1 = 0 ∨ r.1 = 4) (q : Int32) (hq : r.1 = 4 → F_Y8_reason N r.2.2 0 = some q) : hM l yL_sell (Cond.codeWith yL_sell cL_sell 4 (some .int) [(0, 6, 7, 21)] :: jw) ({ frames := 10, cells := 3, slots := 18, locals := 233 } : Room) [.ref (B 9 0), .int v1, .int v2] D G ks va (wTS B G S) (wTS B G r.2.2) (if r.1 = 0 then r.2.1 else (-1000 : Int32) - q) := by
  refine hM_of (by decide +kernel) (Nat.le_of_ble_eq_true rfl) (fun p e s m args below meth c ls A C htab hP hD hA hZ hC hl => ?_)
  have C : Cx p s m args meth c cL_sell 4 RL (some .int) D G := C
  obtain ⟨hx, hb, hr, hml, hts, hown, hlocks, hK0⟩ := id C
  have hK := hK0.1
  have hS : va_S A s.heap s.heap [] := va_S.rf
  have hl : lv_has ls 4 [(0, .ref (B 9 0)), (1, .int v1), (2, .int v2)] := hl
  refine lv_aload_n hx hb dL_sell_0 rfl (lv_at hl 0 rfl) ?_
  refine lv_iload_n hx hb dL_sell_1 rfl (lv_at hl 1 rfl) ?_
  refine lv_iload_n hx hb dL_sell_2 rfl (lv_at hl 2 rfl) ?_
  refine jVx C dL_sell_3 (k_X8_sell l hl0 D G B ks va N S v1 v2 r hV) jy_X8_sell jq_17_9 jq_17_10 jq_17_11 ⟨Nat.le_of_ble_eq_true rfl, Nat.le_of_ble_eq_true rfl⟩ ⟨Nat.le_of_ble_eq_true rfl, Nat.le_of_ble_eq_true rfl⟩ hZ hP hD hA hS (ci := 10) (iw := 0) rfl rfl rfl hl (As := [.int v1, .int v2]) (rest := []) rfl (Nat.le_of_ble_eq_true rfl) (fun H1 locs hQ hz hkp hS => ?_)
  have hP : va_P D vwCl (wTS B G r.2.2) H1 := hQ
  clear hQ hz hkp
  refine ⟨fun hk0 => ?_, fun hkn ce a hce hcv hcl => ?_⟩
  · rw [if_pos hk0]
    exact hRet C dL_sell_6 (Nat.le_of_ble_eq_true rfl) (Nat.le_of_ble_eq_true rfl) hP hS
  · rw [if_neg hkn]
    rcases hk with hk | hk
    · exact absurd hk hkn
    · rw [hk] at hcl
      have hcl : s.vm.findClass "java/lang/UnsupportedOperationException" = some ce.cls := hcl
      refine vx_catch (own := RL) (name := "java/lang/UnsupportedOperationException") (E := "java/lang/UnsupportedOperationException") hown [] (⟨0, 6, 7, 21⟩ : ExceptionTableEntry) [] (htab.trans rfl) ?_ rfl (by decide : (21 : Nat) ≠ 0) (hts _ jq_12_11) (va_Nw.use rfl (hK0.2 _ jn_56)) hce hcv hcl ?_
      · intro z hz
        exact absurd hz List.not_mem_nil
      · refine lv_astore_n (lv' := [(3, .ref a), (0, .ref (B 9 0)), (1, .int v1), (2, .int v2)]) hx hb dL_sell_7 rfl hl (by decide) rfl (fun ls hl => ?_)
        refine lv_sipush (v := -1000) hx hb dL_sell_8 (by decide) ?_
        refine lv_aload_n hx hb dL_sell_11 rfl (lv_at hl 1 rfl) ?_
        refine lv_iconst (v := 0) hx hb dL_sell_12 (by decide) ?_
        refine jVpI C dL_sell_13 (k_Y8_reason l D G B N r.2.2 0 q (hq hk)) jy_X8_reason jq_14_18 jq_14_19 jq_14_20 ⟨rfl, rfl, Nat.le_of_ble_eq_true rfl, Nat.le_of_ble_eq_true rfl⟩ ⟨Nat.le_of_ble_eq_true rfl, Nat.le_of_ble_eq_true rfl⟩ hP (ci := 10) (iw := 0) rfl rfl rfl hl (As := [.int 0]) (rest := [.int (-1000)]) rfl (Nat.le_of_ble_eq_true rfl) ?_
        refine lv_isub hx hb dL_sell_16 ?_
        exact hRet C dL_sell_17 (Nat.le_of_ble_eq_true rfl) (Nat.le_of_ble_eq_true rfl) hP hS
theorem hy_request : hY yL_request cL_request 5 [(0, 7, 8, 21)] 4 := ⟨by decide +kernel, jq_17_20, jq_8_2⟩
set_option maxHeartbeats 4000000 in
set_option maxRecDepth 100000 in
theorem kh_request (l : Launch) (hl0 : l.stackTraces = false) (D : va_G) (G : Nat → ClassId) (B : Nat → Nat → Nat) (ks va : Nat → Nat) (N : Nat) (S : Nat → Nat → Nat → Int32) (v1 v2 v3 : Int32) (r : Int32 × Int32 × (Nat → Nat → Nat → Int32)) (hV : F_X8_request N S v1 v2 v3 = some r) (hk : r.1 = 0 ∨ r.1 = 4) (q : Int32) (hq : r.1 = 4 → F_Y8_reason N r.2.2 0 = some q) : hM l yL_request (Cond.codeWith yL_request cL_request 5 (some .int) [(0, 7, 8, 21)] :: jw) ({ frames := 10, cells := 3, slots := 18, locals := 234 } : Room) [.ref (B 9 0), .int v1, .int v2, .int v3] D G ks va (wTS B G S) (wTS B G r.2.2) (if r.1 = 0 then r.2.1 else (-1000 : Int32) - q) := by
  refine hM_of (by decide +kernel) (Nat.le_of_ble_eq_true rfl) (fun p e s m args below meth c ls A C htab hP hD hA hZ hC hl => ?_)
  have C : Cx p s m args meth c cL_request 5 RL (some .int) D G := C
  obtain ⟨hx, hb, hr, hml, hts, hown, hlocks, hK0⟩ := id C
  have hK := hK0.1
  have hS : va_S A s.heap s.heap [] := va_S.rf
  have hl : lv_has ls 5 [(0, .ref (B 9 0)), (1, .int v1), (2, .int v2), (3, .int v3)] := hl
  refine lv_aload_n hx hb dL_request_0 rfl (lv_at hl 0 rfl) ?_
  refine lv_iload_n hx hb dL_request_1 rfl (lv_at hl 1 rfl) ?_
  refine lv_iload_n hx hb dL_request_2 rfl (lv_at hl 2 rfl) ?_
  refine lv_iload_n hx hb dL_request_3 rfl (lv_at hl 3 rfl) ?_
  refine jVx C dL_request_4 (k_X8_request l hl0 D G B ks va N S v1 v2 v3 r hV) jy_X8_request jq_17_21 jq_17_22 jq_17_23 ⟨Nat.le_of_ble_eq_true rfl, Nat.le_of_ble_eq_true rfl⟩ ⟨Nat.le_of_ble_eq_true rfl, Nat.le_of_ble_eq_true rfl⟩ hZ hP hD hA hS (ci := 10) (iw := 0) rfl rfl rfl hl (As := [.int v1, .int v2, .int v3]) (rest := []) rfl (Nat.le_of_ble_eq_true rfl) (fun H1 locs hQ hz hkp hS => ?_)
  have hP : va_P D vwCl (wTS B G r.2.2) H1 := hQ
  clear hQ hz hkp
  refine ⟨fun hk0 => ?_, fun hkn ce a hce hcv hcl => ?_⟩
  · rw [if_pos hk0]
    exact hRet C dL_request_7 (Nat.le_of_ble_eq_true rfl) (Nat.le_of_ble_eq_true rfl) hP hS
  · rw [if_neg hkn]
    rcases hk with hk | hk
    · exact absurd hk hkn
    · rw [hk] at hcl
      have hcl : s.vm.findClass "java/lang/UnsupportedOperationException" = some ce.cls := hcl
      refine vx_catch (own := RL) (name := "java/lang/UnsupportedOperationException") (E := "java/lang/UnsupportedOperationException") hown [] (⟨0, 7, 8, 21⟩ : ExceptionTableEntry) [] (htab.trans rfl) ?_ rfl (by decide : (21 : Nat) ≠ 0) (hts _ jq_12_11) (va_Nw.use rfl (hK0.2 _ jn_56)) hce hcv hcl ?_
      · intro z hz
        exact absurd hz List.not_mem_nil
      · refine lv_astore (lv' := [(4, .ref a), (0, .ref (B 9 0)), (1, .int v1), (2, .int v2), (3, .int v3)]) hx hb dL_request_8 hl (by decide) rfl (fun ls hl => ?_)
        refine lv_sipush (v := -1000) hx hb dL_request_10 (by decide) ?_
        refine lv_aload_n hx hb dL_request_13 rfl (lv_at hl 1 rfl) ?_
        refine lv_iconst (v := 0) hx hb dL_request_14 (by decide) ?_
        refine jVpI C dL_request_15 (k_Y8_reason l D G B N r.2.2 0 q (hq hk)) jy_X8_reason jq_14_18 jq_14_19 jq_14_20 ⟨rfl, rfl, Nat.le_of_ble_eq_true rfl, Nat.le_of_ble_eq_true rfl⟩ ⟨Nat.le_of_ble_eq_true rfl, Nat.le_of_ble_eq_true rfl⟩ hP (ci := 10) (iw := 0) rfl rfl rfl hl (As := [.int 0]) (rest := [.int (-1000)]) rfl (Nat.le_of_ble_eq_true rfl) ?_
        refine lv_isub hx hb dL_request_18 ?_
        exact hRet C dL_request_19 (Nat.le_of_ble_eq_true rfl) (Nat.le_of_ble_eq_true rfl) hP hS
theorem hy_hold : hY yL_hold cL_hold 4 [(0, 6, 7, 21)] 3 := ⟨by decide +kernel, jq_15_15, jq_8_2⟩
set_option maxHeartbeats 4000000 in
set_option maxRecDepth 100000 in
theorem kh_hold (l : Launch) (hl0 : l.stackTraces = false) (D : va_G) (G : Nat → ClassId) (B : Nat → Nat → Nat) (ks va : Nat → Nat) (N : Nat) (S : Nat → Nat → Nat → Int32) (v1 v2 : Int32) (r : Int32 × Int32 × (Nat → Nat → Nat → Int32)) (hV : F_X8_hold N S v1 v2 = some r) (hk : r.1 = 0 ∨ r.1 = 4) (q : Int32) (hq : r.1 = 4 → F_Y8_reason N r.2.2 0 = some q) : hM l yL_hold (Cond.codeWith yL_hold cL_hold 4 (some .int) [(0, 6, 7, 21)] :: jw) ({ frames := 10, cells := 3, slots := 18, locals := 233 } : Room) [.ref (B 9 0), .int v1, .int v2] D G ks va (wTS B G S) (wTS B G r.2.2) (if r.1 = 0 then r.2.1 else (-1000 : Int32) - q) := by
  refine hM_of (by decide +kernel) (Nat.le_of_ble_eq_true rfl) (fun p e s m args below meth c ls A C htab hP hD hA hZ hC hl => ?_)
  have C : Cx p s m args meth c cL_hold 4 RL (some .int) D G := C
  obtain ⟨hx, hb, hr, hml, hts, hown, hlocks, hK0⟩ := id C
  have hK := hK0.1
  have hS : va_S A s.heap s.heap [] := va_S.rf
  have hl : lv_has ls 4 [(0, .ref (B 9 0)), (1, .int v1), (2, .int v2)] := hl
  refine lv_aload_n hx hb dL_hold_0 rfl (lv_at hl 0 rfl) ?_
  refine lv_iload_n hx hb dL_hold_1 rfl (lv_at hl 1 rfl) ?_
  refine lv_iload_n hx hb dL_hold_2 rfl (lv_at hl 2 rfl) ?_
  refine jVx C dL_hold_3 (k_X8_hold l hl0 D G B ks va N S v1 v2 r hV) jy_X8_hold jq_15_16 jq_15_17 jq_15_18 ⟨Nat.le_of_ble_eq_true rfl, Nat.le_of_ble_eq_true rfl⟩ ⟨Nat.le_of_ble_eq_true rfl, Nat.le_of_ble_eq_true rfl⟩ hZ hP hD hA hS (ci := 10) (iw := 0) rfl rfl rfl hl (As := [.int v1, .int v2]) (rest := []) rfl (Nat.le_of_ble_eq_true rfl) (fun H1 locs hQ hz hkp hS => ?_)
  have hP : va_P D vwCl (wTS B G r.2.2) H1 := hQ
  clear hQ hz hkp
  refine ⟨fun hk0 => ?_, fun hkn ce a hce hcv hcl => ?_⟩
  · rw [if_pos hk0]
    exact hRet C dL_hold_6 (Nat.le_of_ble_eq_true rfl) (Nat.le_of_ble_eq_true rfl) hP hS
  · rw [if_neg hkn]
    rcases hk with hk | hk
    · exact absurd hk hkn
    · rw [hk] at hcl
      have hcl : s.vm.findClass "java/lang/UnsupportedOperationException" = some ce.cls := hcl
      refine vx_catch (own := RL) (name := "java/lang/UnsupportedOperationException") (E := "java/lang/UnsupportedOperationException") hown [] (⟨0, 6, 7, 21⟩ : ExceptionTableEntry) [] (htab.trans rfl) ?_ rfl (by decide : (21 : Nat) ≠ 0) (hts _ jq_12_11) (va_Nw.use rfl (hK0.2 _ jn_56)) hce hcv hcl ?_
      · intro z hz
        exact absurd hz List.not_mem_nil
      · refine lv_astore_n (lv' := [(3, .ref a), (0, .ref (B 9 0)), (1, .int v1), (2, .int v2)]) hx hb dL_hold_7 rfl hl (by decide) rfl (fun ls hl => ?_)
        refine lv_sipush (v := -1000) hx hb dL_hold_8 (by decide) ?_
        refine lv_aload_n hx hb dL_hold_11 rfl (lv_at hl 1 rfl) ?_
        refine lv_iconst (v := 0) hx hb dL_hold_12 (by decide) ?_
        refine jVpI C dL_hold_13 (k_Y8_reason l D G B N r.2.2 0 q (hq hk)) jy_X8_reason jq_14_18 jq_14_19 jq_14_20 ⟨rfl, rfl, Nat.le_of_ble_eq_true rfl, Nat.le_of_ble_eq_true rfl⟩ ⟨Nat.le_of_ble_eq_true rfl, Nat.le_of_ble_eq_true rfl⟩ hP (ci := 10) (iw := 0) rfl rfl rfl hl (As := [.int 0]) (rest := [.int (-1000)]) rfl (Nat.le_of_ble_eq_true rfl) ?_
        refine lv_isub hx hb dL_hold_16 ?_
        exact hRet C dL_hold_17 (Nat.le_of_ble_eq_true rfl) (Nat.le_of_ble_eq_true rfl) hP hS
