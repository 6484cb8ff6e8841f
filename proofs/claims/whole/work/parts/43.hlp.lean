/-! the law's helpers: they call, and catch -/
def jC (U : State) : Prop := ∀ i j : Int32, 1 ≤ i → i ≤ 6 → 1 ≤ j → j ≤ 6 → i ≠ j → va_Nc (exN i) (exN j) U
theorem jC.warm {s U : State} (hW : s.WarmedH U.vm) (h : jC s) : jC U := fun i j h1 h2 h3 h4 h5 => va_Nc.moved hW.alike (h i j h1 h2 h3 h4 h5)
theorem jC.blind {U : State} {g : JFrame} {mk : MethodId} {a : Array Value} (h : jC U) : jC (U.calling g mk a) := fun i j h1 h2 h3 h4 h5 => va_Nc.moved (u := U) (U := U.calling g mk a) (Vm.Alike.refl U.vm) (h i j h1 h2 h3 h4 h5)
def hM (l : Launch) (y : MethodName) (ws : List Cond) (rm : Room) (As : List Value) (D : va_G) (G : Nat → ClassId) (ks va : Nat → Nat) (w w' : va_W) (k : Int32) : Prop :=
  ∀ sz : Nat, Met l y ws rm (va_Pc As (fun U => U.heap.size = sz ∧ va_P D vwCl w U.heap ∧ jK D G U ∧ va_D (fun _ => True) w ∧ jZ ks va (va_A w sz) U U.heap ∧ jC U)) (mQ D w' (some (.int k)) (va_A w sz)) rm.cells rm.slots (va_A w sz)
theorem hM_of {l : Launch} {y : MethodName} {cc : ByteArray} {maxL : Nat} {ret : Option FieldType} {hh : List (Nat × Nat × Nat × Nat)} {rm : Room} {As : List Value} {D : va_G} {G : Nat → ClassId} {ks va : Nat → Nat} {w w' : va_W} {k : Int32} (hy : plainName y.cls = true) (hlen : (lg_sl As).length ≤ maxL)
    (body : ∀ (p : Program) (e : Env) (s : State) (m : MethodId) (args : Array Value) (below : List Frame) (meth : Method) (c : Code) (ls : Array Slot) (A : Nat → Prop), Cx p s m args meth c cc maxL y.cls ret D G → c.exceptionTable.toList = tableOf hh → va_P D vwCl w s.heap → va_D A w → (∀ q : Nat, s.heap.size ≤ q → A q) → jZ ks va A s s.heap → jC s → lv_has ls maxL (lv_args 0 As) → W p l e rm s m args below meth c s.heap [] 0 0 (MQ below (mQ D w' (some (.int k)) A) args s rm.cells rm.slots A) (F0 m 0 ls [])) :
    hM l y (Cond.codeWith y cc maxL ret hh :: jw) rm As D G ks va w w' k := by
  intro sz
  refine va_MetW (cc := cc) (maxL := maxL) (ret := ret) (hh := hh) hy rfl ?_
  intro p e s m args below meth c s₁ B hml hv
  obtain ⟨rfl, hsz, hP, hK, hD0, hZ, hC⟩ := hv
  have hts := atoms_spec (ws := Cond.codeWith y cc maxL ret hh :: jw) B.pre
  subst hsz
  rw [lg_entry_eq]
  exact body p e s m _ below meth c _ (va_A w s.heap.size) ⟨B.exec, B.bytes, B.returns, hml, fun w h => hts w (List.mem_cons_of_mem _ h), findClass_of_methodNamed B.named, B.notSynchronized, hK⟩ (vx_table (x := y) B (hts _ List.mem_cons_self)) hP hD0.self (fun q h => Or.inr h) hZ hC (lv_entry As hlen)
theorem hRet {p : Program} {l : Launch} {e : Env} {R : Room} {s : State} {m : MethodId} {args : Array Value} {below : List Frame} {meth : Method} {c : Code} {H : Heap} {locs : List Loc} {cells slots mc ms : Nat} {cc : ByteArray} {nL : Nat} {own : String} {D : va_G} {G : Nat → ClassId} {pc : Nat} {ls : Array Slot} {A : Nat → Prop} {w' : va_W} {r : Int32}
    (C : Cx p s m args meth c cc nL own (some .int) D G) (hdg : decode cc pc = .ok (.ireturn, 1)) (hc : cells ≤ mc) (hs : slots ≤ ms) (hP : va_P D vwCl w' H) (hS : va_S A s.heap H locs) :
    W p l e R s m args below meth c H locs cells slots (MQ below (mQ D w' (some (.int r)) A) args s mc ms A) (F0 m pc ls [.int r]) := by
  obtain ⟨hx, hb, hr, -, -, -, hlocks, -⟩ := C
  refine W.widen hc hs ?_
  exact W.zret hx hb hr rfl (fun t ht _ => ⟨rfl, by rw [ht]; exact hP, hS.F ht⟩) hS.2.2 hdg hlocks
theorem jSetLast {α : Type} (l : List α) (x y : α) : (l ++ [x]).set l.length y = l ++ [y] := by
  rw [List.set_append_right _ _ (Nat.le_refl _), Nat.sub_self]; rfl
theorem jLast {α : Type} (l : List α) (x : α) : (l ++ [x])[l.length]? = some x := by
  rw [List.getElem?_append_right (Nat.le_refl _), Nat.sub_self]; rfl
def hO (k : Int32) (f : Nat → Int64) (x : Int32) : Nat → Int64 := if k = 0 then vp_updL f (0 : Int32).toNatClampNeg x.toInt64 else f
def hOd (k : Int32) (f : Nat → UInt64) (x : UInt64) : Nat → UInt64 := if k = 0 then vf_upd f (0 : Int32).toNatClampNeg x else f
theorem jDT {A : Nat → Prop} {B : Nat → Nat → Nat} {G : Nat → ClassId} {S : Nat → Nat → Nat → Int32} (S' : Nat → Nat → Nat → Int32) {w : va_W} (hD : va_D A (wTS B G S ++ w)) : va_D A (wTS B G S' ++ w) := by
  refine jD ?_ hD
  simp only [List.map_append, dTS S S']
def hk_setSeats (k : Int32) : Int32 := if k = 1 then 1 else if k = 2 then 2 else if k = 4 then 3 else 0
set_option maxHeartbeats 4000000 in
set_option maxRecDepth 100000 in
theorem kh_setSeats (l : Launch) (hl0 : l.stackTraces = false) (D : va_G) (G : Nat → ClassId) (B : Nat → Nat → Nat) (ks va : Nat → Nat) (o : Nat) (f : Nat → Int64) (N : Nat) (S : Nat → Nat → Nat → Int32) (v1 v2 : Int32) (r : Int32 × Int32 × (Nat → Nat → Nat → Int32)) (hV : F_X8_setSeats N S v1 v2 = some r) (hk : r.1 = 0 ∨ r.1 = 1 ∨ r.1 = 2 ∨ r.1 = 4) : hM l yL_setSeats (Cond.codeWith yL_setSeats cL_setSeats 5 (some .int) [(0, 10, 13, 13), (0, 10, 17, 15), (0, 10, 21, 17)] :: jw) ({ frames := 10, cells := 3, slots := 18, locals := 233 } : Room) [.ref (B 9 0), .int v1, .int v2, .ref o] D G ks va (wTS B G S ++ [((o, .inl (G 3, 1, .inr (.inl f))) : Nat × va_E)]) (wTS B G r.2.2 ++ [((o, .inl (G 3, 1, .inr (.inl (hO r.1 f r.2.1)))) : Nat × va_E)]) (hk_setSeats r.1) := by
  refine hM_of (by decide +kernel) (Nat.le_of_ble_eq_true rfl) (fun p e s m args below meth c ls A C htab hP hD hA hZ hC hl => ?_)
  have C : Cx p s m args meth c cL_setSeats 5 RL (some .int) D G := C
  obtain ⟨hx, hb, hr, hml, hts, hown, hlocks, hK0⟩ := id C
  have hK := hK0.1
  have hS : va_S A s.heap s.heap [] := va_S.rf
  have hl : lv_has ls 5 [(0, .ref (B 9 0)), (1, .int v1), (2, .int v2), (3, .ref o)] := hl
  refine lv_aload_n hx hb dL_setSeats_0 rfl (lv_at hl 3 rfl) ?_
  refine lv_iconst (v := 0) hx hb dL_setSeats_1 (by decide) ?_
  refine lv_aload_n hx hb dL_setSeats_2 rfl (lv_at hl 0 rfl) ?_
  refine lv_iload_n hx hb dL_setSeats_3 rfl (lv_at hl 1 rfl) ?_
  refine lv_iload_n hx hb dL_setSeats_4 rfl (lv_at hl 2 rfl) ?_
  refine jVx C dL_setSeats_5 (k_X8_setSeats l hl0 D G B ks va N S v1 v2 r hV) jy_X8_setSeats jq_6_12 jq_6_13 jq_6_14 ⟨Nat.le_of_ble_eq_true rfl, Nat.le_of_ble_eq_true rfl⟩ ⟨Nat.le_of_ble_eq_true rfl, Nat.le_of_ble_eq_true rfl⟩ hZ (jMidP (pre := []) (mid := wTS B G S) (post := [((o, .inl (G 3, 1, .inr (.inl f))) : Nat × va_E)]) hP) (jMidD (pre := []) (mid := wTS B G S) (post := [((o, .inl (G 3, 1, .inr (.inl f))) : Nat × va_E)]) hD) hA hS (ci := 10) (iw := 0) rfl rfl rfl hl (As := [.int v1, .int v2]) (rest := [.int 0, .ref o]) rfl (Nat.le_of_ble_eq_true rfl) (fun H1 locs hQ hz hkp hS => ?_)
  have hP : va_P D vwCl (wTS B G r.2.2 ++ [((o, .inl (G 3, 1, .inr (.inl f))) : Nat × va_E)]) H1 := jMidJoin (pre := ([] : va_W)) (mid := wTS B G S) (mid' := wTS B G r.2.2) (post := [((o, .inl (G 3, 1, .inr (.inl f))) : Nat × va_E)]) hP hD hkp hQ
  have hD := jDT r.2.2 hD
  clear hQ hz hkp
  refine ⟨fun hk0 => ?_, fun hkn ce q hce hcv hcl => ?_⟩
  · have ek : hk_setSeats r.1 = 0 := by rw [hk0]; rfl
    have eo : (hO r.1 f r.2.1) = vp_updL f (0 : Int32).toNatClampNeg r.2.1.toInt64 := if_pos hk0
    rw [ek, eo]
    refine lv_i2l hx hb dL_setSeats_8 rfl ?_
    refine va_last (D := D) (n := 1) (f := f) hx hb hK hP hD hS (wTS B G r.2.2).length 3 (jLast _ _) rfl (inb_of (by decide)) dL_setSeats_9 (fun H2 locs hP hD hS => ?_)
    rw [jSetLast] at hP hD
    refine lv_goto (tgt := 25) hx hb dL_setSeats_10 (by decide) ?_
    refine lv_iconst (v := 0) hx hb dL_setSeats_25 (by decide) ?_
    exact hRet C dL_setSeats_26 (Nat.le_of_ble_eq_true rfl) (Nat.le_of_ble_eq_true rfl) hP hS
  · have eo : (hO r.1 f r.2.1) = f := if_neg hkn
    rw [eo]
    rcases hk with hk | hk | hk | hk
    · exact absurd hk hkn
    · have ek : hk_setSeats r.1 = 1 := by rw [hk]; rfl
      rw [ek]
      rw [hk] at hcl
      have hcl : s.vm.findClass "java/lang/IndexOutOfBoundsException" = some ce.cls := hcl
      refine vx_catch (own := RL) (name := "java/lang/IndexOutOfBoundsException") (E := "java/lang/IndexOutOfBoundsException") hown [] (⟨0, 10, 13, 13⟩ : ExceptionTableEntry) [(⟨0, 10, 17, 15⟩ : ExceptionTableEntry), (⟨0, 10, 21, 17⟩ : ExceptionTableEntry)] (htab.trans rfl) ?_ rfl (by decide : (13 : Nat) ≠ 0) (hts _ jq_6_9) (va_Nw.use rfl (hK0.2 _ jn_57)) hce hcv hcl ?_
      · intro z hz
        exact absurd hz List.not_mem_nil
      · refine lv_astore (lv' := [(4, .ref q), (0, .ref (B 9 0)), (1, .int v1), (2, .int v2), (3, .ref o)]) hx hb dL_setSeats_13 hl (by decide) rfl (fun ls hl => ?_)
        refine lv_iconst (v := 1) hx hb dL_setSeats_15 (by decide) ?_
        exact hRet C dL_setSeats_16 (Nat.le_of_ble_eq_true rfl) (Nat.le_of_ble_eq_true rfl) hP hS
    · have ek : hk_setSeats r.1 = 2 := by rw [hk]; rfl
      rw [ek]
      rw [hk] at hcl
      have hcl : s.vm.findClass "java/lang/IllegalArgumentException" = some ce.cls := hcl
      refine vx_catch (own := RL) (name := "java/lang/IllegalArgumentException") (E := "java/lang/IllegalArgumentException") hown [(⟨0, 10, 13, 13⟩ : ExceptionTableEntry)] (⟨0, 10, 17, 15⟩ : ExceptionTableEntry) [(⟨0, 10, 21, 17⟩ : ExceptionTableEntry)] (htab.trans rfl) ?_ rfl (by decide : (15 : Nat) ≠ 0) (hts _ jq_6_10) (va_Nw.use rfl (hK0.2 _ jn_58)) hce hcv hcl ?_
      · intro z hz
        rcases List.mem_cons.mp hz with rfl | hz
        · exact Or.inr ⟨(by decide : (13 : Nat) ≠ 0), "java/lang/IndexOutOfBoundsException", hts _ jq_6_9, hC 2 1 (by decide) (by decide) (by decide) (by decide) (by decide)⟩
        exact absurd hz List.not_mem_nil
      · refine lv_astore (lv' := [(4, .ref q), (0, .ref (B 9 0)), (1, .int v1), (2, .int v2), (3, .ref o)]) hx hb dL_setSeats_17 hl (by decide) rfl (fun ls hl => ?_)
        refine lv_iconst (v := 2) hx hb dL_setSeats_19 (by decide) ?_
        exact hRet C dL_setSeats_20 (Nat.le_of_ble_eq_true rfl) (Nat.le_of_ble_eq_true rfl) hP hS
    · have ek : hk_setSeats r.1 = 3 := by rw [hk]; rfl
      rw [ek]
      rw [hk] at hcl
      have hcl : s.vm.findClass "java/lang/UnsupportedOperationException" = some ce.cls := hcl
      refine vx_catch (own := RL) (name := "java/lang/UnsupportedOperationException") (E := "java/lang/UnsupportedOperationException") hown [(⟨0, 10, 13, 13⟩ : ExceptionTableEntry), (⟨0, 10, 17, 15⟩ : ExceptionTableEntry)] (⟨0, 10, 21, 17⟩ : ExceptionTableEntry) [] (htab.trans rfl) ?_ rfl (by decide : (17 : Nat) ≠ 0) (hts _ jq_6_11) (va_Nw.use rfl (hK0.2 _ jn_60)) hce hcv hcl ?_
      · intro z hz
        rcases List.mem_cons.mp hz with rfl | hz
        · exact Or.inr ⟨(by decide : (13 : Nat) ≠ 0), "java/lang/IndexOutOfBoundsException", hts _ jq_6_9, hC 4 1 (by decide) (by decide) (by decide) (by decide) (by decide)⟩
        rcases List.mem_cons.mp hz with rfl | hz
        · exact Or.inr ⟨(by decide : (15 : Nat) ≠ 0), "java/lang/IllegalArgumentException", hts _ jq_6_10, hC 4 2 (by decide) (by decide) (by decide) (by decide) (by decide)⟩
        exact absurd hz List.not_mem_nil
      · refine lv_astore (lv' := [(4, .ref q), (0, .ref (B 9 0)), (1, .int v1), (2, .int v2), (3, .ref o)]) hx hb dL_setSeats_21 hl (by decide) rfl (fun ls hl => ?_)
        refine lv_iconst (v := 3) hx hb dL_setSeats_23 (by decide) ?_
        exact hRet C dL_setSeats_24 (Nat.le_of_ble_eq_true rfl) (Nat.le_of_ble_eq_true rfl) hP hS
def hk_setStaff (k : Int32) : Int32 := if k = 2 then 1 else if k = 4 then 2 else 0
set_option maxHeartbeats 4000000 in
set_option maxRecDepth 100000 in
theorem kh_setStaff (l : Launch) (hl0 : l.stackTraces = false) (D : va_G) (G : Nat → ClassId) (B : Nat → Nat → Nat) (ks va : Nat → Nat) (o : Nat) (f : Nat → Int64) (N : Nat) (S : Nat → Nat → Nat → Int32) (v1 : Int32) (r : Int32 × Int32 × (Nat → Nat → Nat → Int32)) (hV : F_X8_setStaff N S v1 = some r) (hk : r.1 = 0 ∨ r.1 = 2 ∨ r.1 = 4) : hM l yL_setStaff (Cond.codeWith yL_setStaff cL_setStaff 4 (some .int) [(0, 9, 12, 15), (0, 9, 15, 17)] :: jw) ({ frames := 10, cells := 3, slots := 18, locals := 232 } : Room) [.ref (B 9 0), .int v1, .ref o] D G ks va (wTS B G S ++ [((o, .inl (G 3, 1, .inr (.inl f))) : Nat × va_E)]) (wTS B G r.2.2 ++ [((o, .inl (G 3, 1, .inr (.inl (hO r.1 f r.2.1)))) : Nat × va_E)]) (hk_setStaff r.1) := by
  refine hM_of (by decide +kernel) (Nat.le_of_ble_eq_true rfl) (fun p e s m args below meth c ls A C htab hP hD hA hZ hC hl => ?_)
  have C : Cx p s m args meth c cL_setStaff 4 RL (some .int) D G := C
  obtain ⟨hx, hb, hr, hml, hts, hown, hlocks, hK0⟩ := id C
  have hK := hK0.1
  have hS : va_S A s.heap s.heap [] := va_S.rf
  have hl : lv_has ls 4 [(0, .ref (B 9 0)), (1, .int v1), (2, .ref o)] := hl
  refine lv_aload_n hx hb dL_setStaff_0 rfl (lv_at hl 2 rfl) ?_
  refine lv_iconst (v := 0) hx hb dL_setStaff_1 (by decide) ?_
  refine lv_aload_n hx hb dL_setStaff_2 rfl (lv_at hl 0 rfl) ?_
  refine lv_iload_n hx hb dL_setStaff_3 rfl (lv_at hl 1 rfl) ?_
  refine jVx C dL_setStaff_4 (k_X8_setStaff l hl0 D G B ks va N S v1 r hV) jy_X8_setStaff jq_15_15 jq_15_16 jq_15_17 ⟨Nat.le_of_ble_eq_true rfl, Nat.le_of_ble_eq_true rfl⟩ ⟨Nat.le_of_ble_eq_true rfl, Nat.le_of_ble_eq_true rfl⟩ hZ (jMidP (pre := []) (mid := wTS B G S) (post := [((o, .inl (G 3, 1, .inr (.inl f))) : Nat × va_E)]) hP) (jMidD (pre := []) (mid := wTS B G S) (post := [((o, .inl (G 3, 1, .inr (.inl f))) : Nat × va_E)]) hD) hA hS (ci := 10) (iw := 0) rfl rfl rfl hl (As := [.int v1]) (rest := [.int 0, .ref o]) rfl (Nat.le_of_ble_eq_true rfl) (fun H1 locs hQ hz hkp hS => ?_)
  have hP : va_P D vwCl (wTS B G r.2.2 ++ [((o, .inl (G 3, 1, .inr (.inl f))) : Nat × va_E)]) H1 := jMidJoin (pre := ([] : va_W)) (mid := wTS B G S) (mid' := wTS B G r.2.2) (post := [((o, .inl (G 3, 1, .inr (.inl f))) : Nat × va_E)]) hP hD hkp hQ
  have hD := jDT r.2.2 hD
  clear hQ hz hkp
  refine ⟨fun hk0 => ?_, fun hkn ce q hce hcv hcl => ?_⟩
  · have ek : hk_setStaff r.1 = 0 := by rw [hk0]; rfl
    have eo : (hO r.1 f r.2.1) = vp_updL f (0 : Int32).toNatClampNeg r.2.1.toInt64 := if_pos hk0
    rw [ek, eo]
    refine lv_i2l hx hb dL_setStaff_7 rfl ?_
    refine va_last (D := D) (n := 1) (f := f) hx hb hK hP hD hS (wTS B G r.2.2).length 3 (jLast _ _) rfl (inb_of (by decide)) dL_setStaff_8 (fun H2 locs hP hD hS => ?_)
    rw [jSetLast] at hP hD
    refine lv_goto (tgt := 18) hx hb dL_setStaff_9 (by decide) ?_
    refine lv_iconst (v := 0) hx hb dL_setStaff_18 (by decide) ?_
    exact hRet C dL_setStaff_19 (Nat.le_of_ble_eq_true rfl) (Nat.le_of_ble_eq_true rfl) hP hS
  · have eo : (hO r.1 f r.2.1) = f := if_neg hkn
    rw [eo]
    rcases hk with hk | hk | hk
    · exact absurd hk hkn
    · have ek : hk_setStaff r.1 = 1 := by rw [hk]; rfl
      rw [ek]
      rw [hk] at hcl
      have hcl : s.vm.findClass "java/lang/IllegalArgumentException" = some ce.cls := hcl
      refine vx_catch (own := RL) (name := "java/lang/IllegalArgumentException") (E := "java/lang/IllegalArgumentException") hown [] (⟨0, 9, 12, 15⟩ : ExceptionTableEntry) [(⟨0, 9, 15, 17⟩ : ExceptionTableEntry)] (htab.trans rfl) ?_ rfl (by decide : (15 : Nat) ≠ 0) (hts _ jq_6_10) (va_Nw.use rfl (hK0.2 _ jn_58)) hce hcv hcl ?_
      · intro z hz
        exact absurd hz List.not_mem_nil
      · refine lv_astore_n (lv' := [(3, .ref q), (0, .ref (B 9 0)), (1, .int v1), (2, .ref o)]) hx hb dL_setStaff_12 rfl hl (by decide) rfl (fun ls hl => ?_)
        refine lv_iconst (v := 1) hx hb dL_setStaff_13 (by decide) ?_
        exact hRet C dL_setStaff_14 (Nat.le_of_ble_eq_true rfl) (Nat.le_of_ble_eq_true rfl) hP hS
    · have ek : hk_setStaff r.1 = 2 := by rw [hk]; rfl
      rw [ek]
      rw [hk] at hcl
      have hcl : s.vm.findClass "java/lang/UnsupportedOperationException" = some ce.cls := hcl
      refine vx_catch (own := RL) (name := "java/lang/UnsupportedOperationException") (E := "java/lang/UnsupportedOperationException") hown [(⟨0, 9, 12, 15⟩ : ExceptionTableEntry)] (⟨0, 9, 15, 17⟩ : ExceptionTableEntry) [] (htab.trans rfl) ?_ rfl (by decide : (17 : Nat) ≠ 0) (hts _ jq_6_11) (va_Nw.use rfl (hK0.2 _ jn_60)) hce hcv hcl ?_
      · intro z hz
        rcases List.mem_cons.mp hz with rfl | hz
        · exact Or.inr ⟨(by decide : (15 : Nat) ≠ 0), "java/lang/IllegalArgumentException", hts _ jq_6_10, hC 4 2 (by decide) (by decide) (by decide) (by decide) (by decide)⟩
        exact absurd hz List.not_mem_nil
      · refine lv_astore_n (lv' := [(3, .ref q), (0, .ref (B 9 0)), (1, .int v1), (2, .ref o)]) hx hb dL_setStaff_15 rfl hl (by decide) rfl (fun ls hl => ?_)
        refine lv_iconst (v := 2) hx hb dL_setStaff_16 (by decide) ?_
        exact hRet C dL_setStaff_17 (Nat.le_of_ble_eq_true rfl) (Nat.le_of_ble_eq_true rfl) hP hS
def hk_setRoom (k : Int32) : Int32 := if k = 2 then 1 else if k = 4 then 2 else 0
set_option maxHeartbeats 4000000 in
set_option maxRecDepth 100000 in
theorem kh_setRoom (l : Launch) (hl0 : l.stackTraces = false) (D : va_G) (G : Nat → ClassId) (B : Nat → Nat → Nat) (ks va : Nat → Nat) (o : Nat) (f : Nat → Int64) (N : Nat) (S : Nat → Nat → Nat → Int32) (v1 : Int32) (r : Int32 × Int32 × (Nat → Nat → Nat → Int32)) (hV : F_X8_setRoom N S v1 = some r) (hk : r.1 = 0 ∨ r.1 = 2 ∨ r.1 = 4) : hM l yL_setRoom (Cond.codeWith yL_setRoom cL_setRoom 4 (some .int) [(0, 9, 12, 15), (0, 9, 15, 17)] :: jw) ({ frames := 10, cells := 3, slots := 18, locals := 232 } : Room) [.ref (B 9 0), .int v1, .ref o] D G ks va (wTS B G S ++ [((o, .inl (G 3, 1, .inr (.inl f))) : Nat × va_E)]) (wTS B G r.2.2 ++ [((o, .inl (G 3, 1, .inr (.inl (hO r.1 f r.2.1)))) : Nat × va_E)]) (hk_setRoom r.1) := by
  refine hM_of (by decide +kernel) (Nat.le_of_ble_eq_true rfl) (fun p e s m args below meth c ls A C htab hP hD hA hZ hC hl => ?_)
  have C : Cx p s m args meth c cL_setRoom 4 RL (some .int) D G := C
  obtain ⟨hx, hb, hr, hml, hts, hown, hlocks, hK0⟩ := id C
  have hK := hK0.1
  have hS : va_S A s.heap s.heap [] := va_S.rf
  have hl : lv_has ls 4 [(0, .ref (B 9 0)), (1, .int v1), (2, .ref o)] := hl
  refine lv_aload_n hx hb dL_setRoom_0 rfl (lv_at hl 2 rfl) ?_
  refine lv_iconst (v := 0) hx hb dL_setRoom_1 (by decide) ?_
  refine lv_aload_n hx hb dL_setRoom_2 rfl (lv_at hl 0 rfl) ?_
  refine lv_iload_n hx hb dL_setRoom_3 rfl (lv_at hl 1 rfl) ?_
  refine jVx C dL_setRoom_4 (k_X8_setRoom l hl0 D G B ks va N S v1 r hV) jy_X8_setRoom jq_18_15 jq_18_16 jq_18_17 ⟨Nat.le_of_ble_eq_true rfl, Nat.le_of_ble_eq_true rfl⟩ ⟨Nat.le_of_ble_eq_true rfl, Nat.le_of_ble_eq_true rfl⟩ hZ (jMidP (pre := []) (mid := wTS B G S) (post := [((o, .inl (G 3, 1, .inr (.inl f))) : Nat × va_E)]) hP) (jMidD (pre := []) (mid := wTS B G S) (post := [((o, .inl (G 3, 1, .inr (.inl f))) : Nat × va_E)]) hD) hA hS (ci := 10) (iw := 0) rfl rfl rfl hl (As := [.int v1]) (rest := [.int 0, .ref o]) rfl (Nat.le_of_ble_eq_true rfl) (fun H1 locs hQ hz hkp hS => ?_)
  have hP : va_P D vwCl (wTS B G r.2.2 ++ [((o, .inl (G 3, 1, .inr (.inl f))) : Nat × va_E)]) H1 := jMidJoin (pre := ([] : va_W)) (mid := wTS B G S) (mid' := wTS B G r.2.2) (post := [((o, .inl (G 3, 1, .inr (.inl f))) : Nat × va_E)]) hP hD hkp hQ
  have hD := jDT r.2.2 hD
  clear hQ hz hkp
  refine ⟨fun hk0 => ?_, fun hkn ce q hce hcv hcl => ?_⟩
  · have ek : hk_setRoom r.1 = 0 := by rw [hk0]; rfl
    have eo : (hO r.1 f r.2.1) = vp_updL f (0 : Int32).toNatClampNeg r.2.1.toInt64 := if_pos hk0
    rw [ek, eo]
    refine lv_i2l hx hb dL_setRoom_7 rfl ?_
    refine va_last (D := D) (n := 1) (f := f) hx hb hK hP hD hS (wTS B G r.2.2).length 3 (jLast _ _) rfl (inb_of (by decide)) dL_setRoom_8 (fun H2 locs hP hD hS => ?_)
    rw [jSetLast] at hP hD
    refine lv_goto (tgt := 18) hx hb dL_setRoom_9 (by decide) ?_
    refine lv_iconst (v := 0) hx hb dL_setRoom_18 (by decide) ?_
    exact hRet C dL_setRoom_19 (Nat.le_of_ble_eq_true rfl) (Nat.le_of_ble_eq_true rfl) hP hS
  · have eo : (hO r.1 f r.2.1) = f := if_neg hkn
    rw [eo]
    rcases hk with hk | hk | hk
    · exact absurd hk hkn
    · have ek : hk_setRoom r.1 = 1 := by rw [hk]; rfl
      rw [ek]
      rw [hk] at hcl
      have hcl : s.vm.findClass "java/lang/IllegalArgumentException" = some ce.cls := hcl
      refine vx_catch (own := RL) (name := "java/lang/IllegalArgumentException") (E := "java/lang/IllegalArgumentException") hown [] (⟨0, 9, 12, 15⟩ : ExceptionTableEntry) [(⟨0, 9, 15, 17⟩ : ExceptionTableEntry)] (htab.trans rfl) ?_ rfl (by decide : (15 : Nat) ≠ 0) (hts _ jq_6_10) (va_Nw.use rfl (hK0.2 _ jn_58)) hce hcv hcl ?_
      · intro z hz
        exact absurd hz List.not_mem_nil
      · refine lv_astore_n (lv' := [(3, .ref q), (0, .ref (B 9 0)), (1, .int v1), (2, .ref o)]) hx hb dL_setRoom_12 rfl hl (by decide) rfl (fun ls hl => ?_)
        refine lv_iconst (v := 1) hx hb dL_setRoom_13 (by decide) ?_
        exact hRet C dL_setRoom_14 (Nat.le_of_ble_eq_true rfl) (Nat.le_of_ble_eq_true rfl) hP hS
    · have ek : hk_setRoom r.1 = 2 := by rw [hk]; rfl
      rw [ek]
      rw [hk] at hcl
      have hcl : s.vm.findClass "java/lang/UnsupportedOperationException" = some ce.cls := hcl
      refine vx_catch (own := RL) (name := "java/lang/UnsupportedOperationException") (E := "java/lang/UnsupportedOperationException") hown [(⟨0, 9, 12, 15⟩ : ExceptionTableEntry)] (⟨0, 9, 15, 17⟩ : ExceptionTableEntry) [] (htab.trans rfl) ?_ rfl (by decide : (17 : Nat) ≠ 0) (hts _ jq_6_11) (va_Nw.use rfl (hK0.2 _ jn_60)) hce hcv hcl ?_
      · intro z hz
        rcases List.mem_cons.mp hz with rfl | hz
        · exact Or.inr ⟨(by decide : (15 : Nat) ≠ 0), "java/lang/IllegalArgumentException", hts _ jq_6_10, hC 4 2 (by decide) (by decide) (by decide) (by decide) (by decide)⟩
        exact absurd hz List.not_mem_nil
      · refine lv_astore_n (lv' := [(3, .ref q), (0, .ref (B 9 0)), (1, .int v1), (2, .ref o)]) hx hb dL_setRoom_15 rfl hl (by decide) rfl (fun ls hl => ?_)
        refine lv_iconst (v := 2) hx hb dL_setRoom_16 (by decide) ?_
        exact hRet C dL_setRoom_17 (Nat.le_of_ble_eq_true rfl) (Nat.le_of_ble_eq_true rfl) hP hS
def hk_addProduction (k : Int32) : Int32 := if k = 2 then 1 else if k = 3 then 2 else 0
set_option maxHeartbeats 4000000 in
set_option maxRecDepth 100000 in
theorem kh_addProduction (l : Launch) (hl0 : l.stackTraces = false) (D : va_G) (G : Nat → ClassId) (B : Nat → Nat → Nat) (ks va : Nat → Nat) (o : Nat) (f : Nat → Int64) (N : Nat) (S : Nat → Nat → Nat → Int32) (v1 v2 v3 v4 : Int32) (r : Int32 × Int32 × (Nat → Nat → Nat → Int32)) (hV : F_X8_addProduction N S v1 v2 v3 v4 = some r) (hk : r.1 = 0 ∨ r.1 = 2 ∨ r.1 = 3) : hM l yL_addProduction (Cond.codeWith yL_addProduction cL_addProduction 7 (some .int) [(0, 14, 17, 15), (0, 14, 21, 30)] :: jw) ({ frames := 10, cells := 3, slots := 18, locals := 235 } : Room) [.ref (B 9 0), .int v1, .int v2, .int v3, .int v4, .ref o] D G ks va (wTS B G S ++ [((o, .inl (G 3, 1, .inr (.inl f))) : Nat × va_E)]) (wTS B G r.2.2 ++ [((o, .inl (G 3, 1, .inr (.inl (hO r.1 f r.2.1)))) : Nat × va_E)]) (hk_addProduction r.1) := by
  refine hM_of (by decide +kernel) (Nat.le_of_ble_eq_true rfl) (fun p e s m args below meth c ls A C htab hP hD hA hZ hC hl => ?_)
  have C : Cx p s m args meth c cL_addProduction 7 RL (some .int) D G := C
  obtain ⟨hx, hb, hr, hml, hts, hown, hlocks, hK0⟩ := id C
  have hK := hK0.1
  have hS : va_S A s.heap s.heap [] := va_S.rf
  have hl : lv_has ls 7 [(0, .ref (B 9 0)), (1, .int v1), (2, .int v2), (3, .int v3), (4, .int v4), (5, .ref o)] := hl
  refine lv_aload hx hb dL_addProduction_0 (lv_at hl 5 rfl) ?_
  refine lv_iconst (v := 0) hx hb dL_addProduction_2 (by decide) ?_
  refine lv_aload_n hx hb dL_addProduction_3 rfl (lv_at hl 0 rfl) ?_
  refine lv_iload_n hx hb dL_addProduction_4 rfl (lv_at hl 1 rfl) ?_
  refine lv_iload_n hx hb dL_addProduction_5 rfl (lv_at hl 2 rfl) ?_
  refine lv_iload_n hx hb dL_addProduction_6 rfl (lv_at hl 3 rfl) ?_
  refine lv_iload hx hb dL_addProduction_7 (lv_at hl 4 rfl) ?_
  refine jVx C dL_addProduction_9 (k_X8_addProduction l hl0 D G B ks va N S v1 v2 v3 v4 r hV) jy_X8_addProduction jq_19_18 jq_19_19 jq_19_20 ⟨Nat.le_of_ble_eq_true rfl, Nat.le_of_ble_eq_true rfl⟩ ⟨Nat.le_of_ble_eq_true rfl, Nat.le_of_ble_eq_true rfl⟩ hZ (jMidP (pre := []) (mid := wTS B G S) (post := [((o, .inl (G 3, 1, .inr (.inl f))) : Nat × va_E)]) hP) (jMidD (pre := []) (mid := wTS B G S) (post := [((o, .inl (G 3, 1, .inr (.inl f))) : Nat × va_E)]) hD) hA hS (ci := 10) (iw := 0) rfl rfl rfl hl (As := [.int v1, .int v2, .int v3, .int v4]) (rest := [.int 0, .ref o]) rfl (Nat.le_of_ble_eq_true rfl) (fun H1 locs hQ hz hkp hS => ?_)
  have hP : va_P D vwCl (wTS B G r.2.2 ++ [((o, .inl (G 3, 1, .inr (.inl f))) : Nat × va_E)]) H1 := jMidJoin (pre := ([] : va_W)) (mid := wTS B G S) (mid' := wTS B G r.2.2) (post := [((o, .inl (G 3, 1, .inr (.inl f))) : Nat × va_E)]) hP hD hkp hQ
  have hD := jDT r.2.2 hD
  clear hQ hz hkp
  refine ⟨fun hk0 => ?_, fun hkn ce q hce hcv hcl => ?_⟩
  · have ek : hk_addProduction r.1 = 0 := by rw [hk0]; rfl
    have eo : (hO r.1 f r.2.1) = vp_updL f (0 : Int32).toNatClampNeg r.2.1.toInt64 := if_pos hk0
    rw [ek, eo]
    refine lv_i2l hx hb dL_addProduction_12 rfl ?_
    refine va_last (D := D) (n := 1) (f := f) hx hb hK hP hD hS (wTS B G r.2.2).length 3 (jLast _ _) rfl (inb_of (by decide)) dL_addProduction_13 (fun H2 locs hP hD hS => ?_)
    rw [jSetLast] at hP hD
    refine lv_goto (tgt := 25) hx hb dL_addProduction_14 (by decide) ?_
    refine lv_iconst (v := 0) hx hb dL_addProduction_25 (by decide) ?_
    exact hRet C dL_addProduction_26 (Nat.le_of_ble_eq_true rfl) (Nat.le_of_ble_eq_true rfl) hP hS
  · have eo : (hO r.1 f r.2.1) = f := if_neg hkn
    rw [eo]
    rcases hk with hk | hk | hk
    · exact absurd hk hkn
    · have ek : hk_addProduction r.1 = 1 := by rw [hk]; rfl
      rw [ek]
      rw [hk] at hcl
      have hcl : s.vm.findClass "java/lang/IllegalArgumentException" = some ce.cls := hcl
      refine vx_catch (own := RL) (name := "java/lang/IllegalArgumentException") (E := "java/lang/IllegalArgumentException") hown [] (⟨0, 14, 17, 15⟩ : ExceptionTableEntry) [(⟨0, 14, 21, 30⟩ : ExceptionTableEntry)] (htab.trans rfl) ?_ rfl (by decide : (15 : Nat) ≠ 0) (hts _ jq_6_10) (va_Nw.use rfl (hK0.2 _ jn_58)) hce hcv hcl ?_
      · intro z hz
        exact absurd hz List.not_mem_nil
      · refine lv_astore (lv' := [(6, .ref q), (0, .ref (B 9 0)), (1, .int v1), (2, .int v2), (3, .int v3), (4, .int v4), (5, .ref o)]) hx hb dL_addProduction_17 hl (by decide) rfl (fun ls hl => ?_)
        refine lv_iconst (v := 1) hx hb dL_addProduction_19 (by decide) ?_
        exact hRet C dL_addProduction_20 (Nat.le_of_ble_eq_true rfl) (Nat.le_of_ble_eq_true rfl) hP hS
    · have ek : hk_addProduction r.1 = 2 := by rw [hk]; rfl
      rw [ek]
      rw [hk] at hcl
      have hcl : s.vm.findClass "java/lang/IllegalStateException" = some ce.cls := hcl
      refine vx_catch (own := RL) (name := "java/lang/IllegalStateException") (E := "java/lang/IllegalStateException") hown [(⟨0, 14, 17, 15⟩ : ExceptionTableEntry)] (⟨0, 14, 21, 30⟩ : ExceptionTableEntry) [] (htab.trans rfl) ?_ rfl (by decide : (30 : Nat) ≠ 0) (hts _ jq_19_17) (va_Nw.use rfl (hK0.2 _ jn_59)) hce hcv hcl ?_
      · intro z hz
        rcases List.mem_cons.mp hz with rfl | hz
        · exact Or.inr ⟨(by decide : (15 : Nat) ≠ 0), "java/lang/IllegalArgumentException", hts _ jq_6_10, hC 3 2 (by decide) (by decide) (by decide) (by decide) (by decide)⟩
        exact absurd hz List.not_mem_nil
      · refine lv_astore (lv' := [(6, .ref q), (0, .ref (B 9 0)), (1, .int v1), (2, .int v2), (3, .int v3), (4, .int v4), (5, .ref o)]) hx hb dL_addProduction_21 hl (by decide) rfl (fun ls hl => ?_)
        refine lv_iconst (v := 2) hx hb dL_addProduction_23 (by decide) ?_
        exact hRet C dL_addProduction_24 (Nat.le_of_ble_eq_true rfl) (Nat.le_of_ble_eq_true rfl) hP hS
def hk_production (k : Int32) : Int32 := if k = 1 then 1 else if k = 2 then 2 else 0
set_option maxHeartbeats 4000000 in
set_option maxRecDepth 100000 in
theorem kh_production (l : Launch) (hl0 : l.stackTraces = false) (D : va_G) (G : Nat → ClassId) (B : Nat → Nat → Nat) (ks va : Nat → Nat) (o : Nat) (f : Nat → Int64) (N : Nat) (S : Nat → Nat → Nat → Int32) (v1 v2 : Int32) (r : Int32 × Int32 × (Nat → Nat → Nat → Int32)) (hV : F_X8_production N S v1 v2 = some r) (hk : r.1 = 0 ∨ r.1 = 1 ∨ r.1 = 2) : hM l yL_production (Cond.codeWith yL_production cL_production 5 (some .int) [(0, 10, 13, 13), (0, 10, 17, 15)] :: jw) ({ frames := 9, cells := 2, slots := 12, locals := 144 } : Room) [.ref (B 9 0), .int v1, .int v2, .ref o] D G ks va (wTS B G S ++ [((o, .inl (G 3, 1, .inr (.inl f))) : Nat × va_E)]) (wTS B G r.2.2 ++ [((o, .inl (G 3, 1, .inr (.inl (hO r.1 f r.2.1)))) : Nat × va_E)]) (hk_production r.1) := by
  refine hM_of (by decide +kernel) (Nat.le_of_ble_eq_true rfl) (fun p e s m args below meth c ls A C htab hP hD hA hZ hC hl => ?_)
  have C : Cx p s m args meth c cL_production 5 RL (some .int) D G := C
  obtain ⟨hx, hb, hr, hml, hts, hown, hlocks, hK0⟩ := id C
  have hK := hK0.1
  have hS : va_S A s.heap s.heap [] := va_S.rf
  have hl : lv_has ls 5 [(0, .ref (B 9 0)), (1, .int v1), (2, .int v2), (3, .ref o)] := hl
  refine lv_aload_n hx hb dL_production_0 rfl (lv_at hl 3 rfl) ?_
  refine lv_iconst (v := 0) hx hb dL_production_1 (by decide) ?_
  refine lv_aload_n hx hb dL_production_2 rfl (lv_at hl 0 rfl) ?_
  refine lv_iload_n hx hb dL_production_3 rfl (lv_at hl 1 rfl) ?_
  refine lv_iload_n hx hb dL_production_4 rfl (lv_at hl 2 rfl) ?_
  refine jVx C dL_production_5 (k_X8_production l hl0 D G B ks va N S v1 v2 r hV) jy_X8_production jq_20_18 jq_20_19 jq_20_20 ⟨Nat.le_of_ble_eq_true rfl, Nat.le_of_ble_eq_true rfl⟩ ⟨Nat.le_of_ble_eq_true rfl, Nat.le_of_ble_eq_true rfl⟩ hZ (jMidP (pre := []) (mid := wTS B G S) (post := [((o, .inl (G 3, 1, .inr (.inl f))) : Nat × va_E)]) hP) (jMidD (pre := []) (mid := wTS B G S) (post := [((o, .inl (G 3, 1, .inr (.inl f))) : Nat × va_E)]) hD) hA hS (ci := 10) (iw := 0) rfl rfl rfl hl (As := [.int v1, .int v2]) (rest := [.int 0, .ref o]) rfl (Nat.le_of_ble_eq_true rfl) (fun H1 locs hQ hz hkp hS => ?_)
  have hP : va_P D vwCl (wTS B G r.2.2 ++ [((o, .inl (G 3, 1, .inr (.inl f))) : Nat × va_E)]) H1 := jMidJoin (pre := ([] : va_W)) (mid := wTS B G S) (mid' := wTS B G r.2.2) (post := [((o, .inl (G 3, 1, .inr (.inl f))) : Nat × va_E)]) hP hD hkp hQ
  have hD := jDT r.2.2 hD
  clear hQ hz hkp
  refine ⟨fun hk0 => ?_, fun hkn ce q hce hcv hcl => ?_⟩
  · have ek : hk_production r.1 = 0 := by rw [hk0]; rfl
    have eo : (hO r.1 f r.2.1) = vp_updL f (0 : Int32).toNatClampNeg r.2.1.toInt64 := if_pos hk0
    rw [ek, eo]
    refine lv_i2l hx hb dL_production_8 rfl ?_
    refine va_last (D := D) (n := 1) (f := f) hx hb hK hP hD hS (wTS B G r.2.2).length 3 (jLast _ _) rfl (inb_of (by decide)) dL_production_9 (fun H2 locs hP hD hS => ?_)
    rw [jSetLast] at hP hD
    refine lv_goto (tgt := 21) hx hb dL_production_10 (by decide) ?_
    refine lv_iconst (v := 0) hx hb dL_production_21 (by decide) ?_
    exact hRet C dL_production_22 (Nat.le_of_ble_eq_true rfl) (Nat.le_of_ble_eq_true rfl) hP hS
  · have eo : (hO r.1 f r.2.1) = f := if_neg hkn
    rw [eo]
    rcases hk with hk | hk | hk
    · exact absurd hk hkn
    · have ek : hk_production r.1 = 1 := by rw [hk]; rfl
      rw [ek]
      rw [hk] at hcl
      have hcl : s.vm.findClass "java/lang/IndexOutOfBoundsException" = some ce.cls := hcl
      refine vx_catch (own := RL) (name := "java/lang/IndexOutOfBoundsException") (E := "java/lang/IndexOutOfBoundsException") hown [] (⟨0, 10, 13, 13⟩ : ExceptionTableEntry) [(⟨0, 10, 17, 15⟩ : ExceptionTableEntry)] (htab.trans rfl) ?_ rfl (by decide : (13 : Nat) ≠ 0) (hts _ jq_6_9) (va_Nw.use rfl (hK0.2 _ jn_57)) hce hcv hcl ?_
      · intro z hz
        exact absurd hz List.not_mem_nil
      · refine lv_astore (lv' := [(4, .ref q), (0, .ref (B 9 0)), (1, .int v1), (2, .int v2), (3, .ref o)]) hx hb dL_production_13 hl (by decide) rfl (fun ls hl => ?_)
        refine lv_iconst (v := 1) hx hb dL_production_15 (by decide) ?_
        exact hRet C dL_production_16 (Nat.le_of_ble_eq_true rfl) (Nat.le_of_ble_eq_true rfl) hP hS
    · have ek : hk_production r.1 = 2 := by rw [hk]; rfl
      rw [ek]
      rw [hk] at hcl
      have hcl : s.vm.findClass "java/lang/IllegalArgumentException" = some ce.cls := hcl
      refine vx_catch (own := RL) (name := "java/lang/IllegalArgumentException") (E := "java/lang/IllegalArgumentException") hown [(⟨0, 10, 13, 13⟩ : ExceptionTableEntry)] (⟨0, 10, 17, 15⟩ : ExceptionTableEntry) [] (htab.trans rfl) ?_ rfl (by decide : (15 : Nat) ≠ 0) (hts _ jq_6_10) (va_Nw.use rfl (hK0.2 _ jn_58)) hce hcv hcl ?_
      · intro z hz
        rcases List.mem_cons.mp hz with rfl | hz
        · exact Or.inr ⟨(by decide : (13 : Nat) ≠ 0), "java/lang/IndexOutOfBoundsException", hts _ jq_6_9, hC 2 1 (by decide) (by decide) (by decide) (by decide) (by decide)⟩
        exact absurd hz List.not_mem_nil
      · refine lv_astore (lv' := [(4, .ref q), (0, .ref (B 9 0)), (1, .int v1), (2, .int v2), (3, .ref o)]) hx hb dL_production_17 hl (by decide) rfl (fun ls hl => ?_)
        refine lv_iconst (v := 2) hx hb dL_production_19 (by decide) ?_
        exact hRet C dL_production_20 (Nat.le_of_ble_eq_true rfl) (Nat.le_of_ble_eq_true rfl) hP hS
def hk_perform (k : Int32) : Int32 := if k = 1 then 1 else if k = 2 then 2 else if k = 3 then 3 else if k = 4 then 4 else 0
set_option maxHeartbeats 4000000 in
set_option maxRecDepth 100000 in
theorem kh_perform (l : Launch) (hl0 : l.stackTraces = false) (D : va_G) (G : Nat → ClassId) (B : Nat → Nat → Nat) (ks va : Nat → Nat) (o : Nat) (f : Nat → Int64) (N : Nat) (S : Nat → Nat → Nat → Int32) (v1 v2 v3 : Int32) (r : Int32 × Int32 × (Nat → Nat → Nat → Int32)) (hV : F_X8_perform N S v1 v2 v3 = some r) (hk : r.1 = 0 ∨ r.1 = 1 ∨ r.1 = 2 ∨ r.1 = 3 ∨ r.1 = 4) : hM l yL_perform (Cond.codeWith yL_perform cL_perform 6 (some .int) [(0, 12, 15, 13), (0, 12, 19, 15), (0, 12, 23, 30), (0, 12, 27, 17)] :: jw) ({ frames := 10, cells := 3, slots := 18, locals := 234 } : Room) [.ref (B 9 0), .int v1, .int v2, .int v3, .ref o] D G ks va (wTS B G S ++ [((o, .inl (G 3, 1, .inr (.inl f))) : Nat × va_E)]) (wTS B G r.2.2 ++ [((o, .inl (G 3, 1, .inr (.inl (hO r.1 f r.2.1)))) : Nat × va_E)]) (hk_perform r.1) := by
  refine hM_of (by decide +kernel) (Nat.le_of_ble_eq_true rfl) (fun p e s m args below meth c ls A C htab hP hD hA hZ hC hl => ?_)
  have C : Cx p s m args meth c cL_perform 6 RL (some .int) D G := C
  obtain ⟨hx, hb, hr, hml, hts, hown, hlocks, hK0⟩ := id C
  have hK := hK0.1
  have hS : va_S A s.heap s.heap [] := va_S.rf
  have hl : lv_has ls 6 [(0, .ref (B 9 0)), (1, .int v1), (2, .int v2), (3, .int v3), (4, .ref o)] := hl
  refine lv_aload hx hb dL_perform_0 (lv_at hl 4 rfl) ?_
  refine lv_iconst (v := 0) hx hb dL_perform_2 (by decide) ?_
  refine lv_aload_n hx hb dL_perform_3 rfl (lv_at hl 0 rfl) ?_
  refine lv_iload_n hx hb dL_perform_4 rfl (lv_at hl 1 rfl) ?_
  refine lv_iload_n hx hb dL_perform_5 rfl (lv_at hl 2 rfl) ?_
  refine lv_iload_n hx hb dL_perform_6 rfl (lv_at hl 3 rfl) ?_
  refine jVx C dL_perform_7 (k_X8_perform l hl0 D G B ks va N S v1 v2 v3 r hV) jy_X8_perform jq_22_16 jq_22_17 jq_22_18 ⟨Nat.le_of_ble_eq_true rfl, Nat.le_of_ble_eq_true rfl⟩ ⟨Nat.le_of_ble_eq_true rfl, Nat.le_of_ble_eq_true rfl⟩ hZ (jMidP (pre := []) (mid := wTS B G S) (post := [((o, .inl (G 3, 1, .inr (.inl f))) : Nat × va_E)]) hP) (jMidD (pre := []) (mid := wTS B G S) (post := [((o, .inl (G 3, 1, .inr (.inl f))) : Nat × va_E)]) hD) hA hS (ci := 10) (iw := 0) rfl rfl rfl hl (As := [.int v1, .int v2, .int v3]) (rest := [.int 0, .ref o]) rfl (Nat.le_of_ble_eq_true rfl) (fun H1 locs hQ hz hkp hS => ?_)
  have hP : va_P D vwCl (wTS B G r.2.2 ++ [((o, .inl (G 3, 1, .inr (.inl f))) : Nat × va_E)]) H1 := jMidJoin (pre := ([] : va_W)) (mid := wTS B G S) (mid' := wTS B G r.2.2) (post := [((o, .inl (G 3, 1, .inr (.inl f))) : Nat × va_E)]) hP hD hkp hQ
  have hD := jDT r.2.2 hD
  clear hQ hz hkp
  refine ⟨fun hk0 => ?_, fun hkn ce q hce hcv hcl => ?_⟩
  · have ek : hk_perform r.1 = 0 := by rw [hk0]; rfl
    have eo : (hO r.1 f r.2.1) = vp_updL f (0 : Int32).toNatClampNeg r.2.1.toInt64 := if_pos hk0
    rw [ek, eo]
    refine lv_i2l hx hb dL_perform_10 rfl ?_
    refine va_last (D := D) (n := 1) (f := f) hx hb hK hP hD hS (wTS B G r.2.2).length 3 (jLast _ _) rfl (inb_of (by decide)) dL_perform_11 (fun H2 locs hP hD hS => ?_)
    rw [jSetLast] at hP hD
    refine lv_goto (tgt := 31) hx hb dL_perform_12 (by decide) ?_
    refine lv_iconst (v := 0) hx hb dL_perform_31 (by decide) ?_
    exact hRet C dL_perform_32 (Nat.le_of_ble_eq_true rfl) (Nat.le_of_ble_eq_true rfl) hP hS
  · have eo : (hO r.1 f r.2.1) = f := if_neg hkn
    rw [eo]
    rcases hk with hk | hk | hk | hk | hk
    · exact absurd hk hkn
    · have ek : hk_perform r.1 = 1 := by rw [hk]; rfl
      rw [ek]
      rw [hk] at hcl
      have hcl : s.vm.findClass "java/lang/IndexOutOfBoundsException" = some ce.cls := hcl
      refine vx_catch (own := RL) (name := "java/lang/IndexOutOfBoundsException") (E := "java/lang/IndexOutOfBoundsException") hown [] (⟨0, 12, 15, 13⟩ : ExceptionTableEntry) [(⟨0, 12, 19, 15⟩ : ExceptionTableEntry), (⟨0, 12, 23, 30⟩ : ExceptionTableEntry), (⟨0, 12, 27, 17⟩ : ExceptionTableEntry)] (htab.trans rfl) ?_ rfl (by decide : (13 : Nat) ≠ 0) (hts _ jq_6_9) (va_Nw.use rfl (hK0.2 _ jn_57)) hce hcv hcl ?_
      · intro z hz
        exact absurd hz List.not_mem_nil
      · refine lv_astore (lv' := [(5, .ref q), (0, .ref (B 9 0)), (1, .int v1), (2, .int v2), (3, .int v3), (4, .ref o)]) hx hb dL_perform_15 hl (by decide) rfl (fun ls hl => ?_)
        refine lv_iconst (v := 1) hx hb dL_perform_17 (by decide) ?_
        exact hRet C dL_perform_18 (Nat.le_of_ble_eq_true rfl) (Nat.le_of_ble_eq_true rfl) hP hS
    · have ek : hk_perform r.1 = 2 := by rw [hk]; rfl
      rw [ek]
      rw [hk] at hcl
      have hcl : s.vm.findClass "java/lang/IllegalArgumentException" = some ce.cls := hcl
      refine vx_catch (own := RL) (name := "java/lang/IllegalArgumentException") (E := "java/lang/IllegalArgumentException") hown [(⟨0, 12, 15, 13⟩ : ExceptionTableEntry)] (⟨0, 12, 19, 15⟩ : ExceptionTableEntry) [(⟨0, 12, 23, 30⟩ : ExceptionTableEntry), (⟨0, 12, 27, 17⟩ : ExceptionTableEntry)] (htab.trans rfl) ?_ rfl (by decide : (15 : Nat) ≠ 0) (hts _ jq_6_10) (va_Nw.use rfl (hK0.2 _ jn_58)) hce hcv hcl ?_
      · intro z hz
        rcases List.mem_cons.mp hz with rfl | hz
        · exact Or.inr ⟨(by decide : (13 : Nat) ≠ 0), "java/lang/IndexOutOfBoundsException", hts _ jq_6_9, hC 2 1 (by decide) (by decide) (by decide) (by decide) (by decide)⟩
        exact absurd hz List.not_mem_nil
      · refine lv_astore (lv' := [(5, .ref q), (0, .ref (B 9 0)), (1, .int v1), (2, .int v2), (3, .int v3), (4, .ref o)]) hx hb dL_perform_19 hl (by decide) rfl (fun ls hl => ?_)
        refine lv_iconst (v := 2) hx hb dL_perform_21 (by decide) ?_
        exact hRet C dL_perform_22 (Nat.le_of_ble_eq_true rfl) (Nat.le_of_ble_eq_true rfl) hP hS
    · have ek : hk_perform r.1 = 3 := by rw [hk]; rfl
      rw [ek]
      rw [hk] at hcl
      have hcl : s.vm.findClass "java/lang/IllegalStateException" = some ce.cls := hcl
      refine vx_catch (own := RL) (name := "java/lang/IllegalStateException") (E := "java/lang/IllegalStateException") hown [(⟨0, 12, 15, 13⟩ : ExceptionTableEntry), (⟨0, 12, 19, 15⟩ : ExceptionTableEntry)] (⟨0, 12, 23, 30⟩ : ExceptionTableEntry) [(⟨0, 12, 27, 17⟩ : ExceptionTableEntry)] (htab.trans rfl) ?_ rfl (by decide : (30 : Nat) ≠ 0) (hts _ jq_19_17) (va_Nw.use rfl (hK0.2 _ jn_59)) hce hcv hcl ?_
      · intro z hz
        rcases List.mem_cons.mp hz with rfl | hz
        · exact Or.inr ⟨(by decide : (13 : Nat) ≠ 0), "java/lang/IndexOutOfBoundsException", hts _ jq_6_9, hC 3 1 (by decide) (by decide) (by decide) (by decide) (by decide)⟩
        rcases List.mem_cons.mp hz with rfl | hz
        · exact Or.inr ⟨(by decide : (15 : Nat) ≠ 0), "java/lang/IllegalArgumentException", hts _ jq_6_10, hC 3 2 (by decide) (by decide) (by decide) (by decide) (by decide)⟩
        exact absurd hz List.not_mem_nil
      · refine lv_astore (lv' := [(5, .ref q), (0, .ref (B 9 0)), (1, .int v1), (2, .int v2), (3, .int v3), (4, .ref o)]) hx hb dL_perform_23 hl (by decide) rfl (fun ls hl => ?_)
        refine lv_iconst (v := 3) hx hb dL_perform_25 (by decide) ?_
        exact hRet C dL_perform_26 (Nat.le_of_ble_eq_true rfl) (Nat.le_of_ble_eq_true rfl) hP hS
    · have ek : hk_perform r.1 = 4 := by rw [hk]; rfl
      rw [ek]
      rw [hk] at hcl
      have hcl : s.vm.findClass "java/lang/UnsupportedOperationException" = some ce.cls := hcl
      refine vx_catch (own := RL) (name := "java/lang/UnsupportedOperationException") (E := "java/lang/UnsupportedOperationException") hown [(⟨0, 12, 15, 13⟩ : ExceptionTableEntry), (⟨0, 12, 19, 15⟩ : ExceptionTableEntry), (⟨0, 12, 23, 30⟩ : ExceptionTableEntry)] (⟨0, 12, 27, 17⟩ : ExceptionTableEntry) [] (htab.trans rfl) ?_ rfl (by decide : (17 : Nat) ≠ 0) (hts _ jq_6_11) (va_Nw.use rfl (hK0.2 _ jn_60)) hce hcv hcl ?_
      · intro z hz
        rcases List.mem_cons.mp hz with rfl | hz
        · exact Or.inr ⟨(by decide : (13 : Nat) ≠ 0), "java/lang/IndexOutOfBoundsException", hts _ jq_6_9, hC 4 1 (by decide) (by decide) (by decide) (by decide) (by decide)⟩
        rcases List.mem_cons.mp hz with rfl | hz
        · exact Or.inr ⟨(by decide : (15 : Nat) ≠ 0), "java/lang/IllegalArgumentException", hts _ jq_6_10, hC 4 2 (by decide) (by decide) (by decide) (by decide) (by decide)⟩
        rcases List.mem_cons.mp hz with rfl | hz
        · exact Or.inr ⟨(by decide : (30 : Nat) ≠ 0), "java/lang/IllegalStateException", hts _ jq_19_17, hC 4 3 (by decide) (by decide) (by decide) (by decide) (by decide)⟩
        exact absurd hz List.not_mem_nil
      · refine lv_astore (lv' := [(5, .ref q), (0, .ref (B 9 0)), (1, .int v1), (2, .int v2), (3, .int v3), (4, .ref o)]) hx hb dL_perform_27 hl (by decide) rfl (fun ls hl => ?_)
        refine lv_iconst (v := 4) hx hb dL_perform_29 (by decide) ?_
        exact hRet C dL_perform_30 (Nat.le_of_ble_eq_true rfl) (Nat.le_of_ble_eq_true rfl) hP hS
def hk_cancel (k : Int32) : Int32 := if k = 1 then 1 else if k = 4 then 2 else 0
set_option maxHeartbeats 4000000 in
set_option maxRecDepth 100000 in
theorem kh_cancel (l : Launch) (hl0 : l.stackTraces = false) (D : va_G) (G : Nat → ClassId) (B : Nat → Nat → Nat) (ks va : Nat → Nat) (o : Nat) (f : Nat → Int64) (N : Nat) (S : Nat → Nat → Nat → Int32) (v1 : Int32) (r : Int32 × Int32 × (Nat → Nat → Nat → Int32)) (hV : F_X8_cancel N S v1 = some r) (hk : r.1 = 0 ∨ r.1 = 1 ∨ r.1 = 4) : hM l yL_cancel (Cond.codeWith yL_cancel cL_cancel 4 (some .int) [(0, 9, 12, 13), (0, 9, 15, 17)] :: jw) ({ frames := 10, cells := 3, slots := 18, locals := 232 } : Room) [.ref (B 9 0), .int v1, .ref o] D G ks va (wTS B G S ++ [((o, .inl (G 3, 1, .inr (.inl f))) : Nat × va_E)]) (wTS B G r.2.2 ++ [((o, .inl (G 3, 1, .inr (.inl (hO r.1 f r.2.1)))) : Nat × va_E)]) (hk_cancel r.1) := by
  refine hM_of (by decide +kernel) (Nat.le_of_ble_eq_true rfl) (fun p e s m args below meth c ls A C htab hP hD hA hZ hC hl => ?_)
  have C : Cx p s m args meth c cL_cancel 4 RL (some .int) D G := C
  obtain ⟨hx, hb, hr, hml, hts, hown, hlocks, hK0⟩ := id C
  have hK := hK0.1
  have hS : va_S A s.heap s.heap [] := va_S.rf
  have hl : lv_has ls 4 [(0, .ref (B 9 0)), (1, .int v1), (2, .ref o)] := hl
  refine lv_aload_n hx hb dL_cancel_0 rfl (lv_at hl 2 rfl) ?_
  refine lv_iconst (v := 0) hx hb dL_cancel_1 (by decide) ?_
  refine lv_aload_n hx hb dL_cancel_2 rfl (lv_at hl 0 rfl) ?_
  refine lv_iload_n hx hb dL_cancel_3 rfl (lv_at hl 1 rfl) ?_
  refine jVx C dL_cancel_4 (k_X8_cancel l hl0 D G B ks va N S v1 r hV) jy_X8_cancel jq_24_22 jq_24_23 jq_25_0 ⟨Nat.le_of_ble_eq_true rfl, Nat.le_of_ble_eq_true rfl⟩ ⟨Nat.le_of_ble_eq_true rfl, Nat.le_of_ble_eq_true rfl⟩ hZ (jMidP (pre := []) (mid := wTS B G S) (post := [((o, .inl (G 3, 1, .inr (.inl f))) : Nat × va_E)]) hP) (jMidD (pre := []) (mid := wTS B G S) (post := [((o, .inl (G 3, 1, .inr (.inl f))) : Nat × va_E)]) hD) hA hS (ci := 10) (iw := 0) rfl rfl rfl hl (As := [.int v1]) (rest := [.int 0, .ref o]) rfl (Nat.le_of_ble_eq_true rfl) (fun H1 locs hQ hz hkp hS => ?_)
  have hP : va_P D vwCl (wTS B G r.2.2 ++ [((o, .inl (G 3, 1, .inr (.inl f))) : Nat × va_E)]) H1 := jMidJoin (pre := ([] : va_W)) (mid := wTS B G S) (mid' := wTS B G r.2.2) (post := [((o, .inl (G 3, 1, .inr (.inl f))) : Nat × va_E)]) hP hD hkp hQ
  have hD := jDT r.2.2 hD
  clear hQ hz hkp
  refine ⟨fun hk0 => ?_, fun hkn ce q hce hcv hcl => ?_⟩
  · have ek : hk_cancel r.1 = 0 := by rw [hk0]; rfl
    have eo : (hO r.1 f r.2.1) = vp_updL f (0 : Int32).toNatClampNeg r.2.1.toInt64 := if_pos hk0
    rw [ek, eo]
    refine lv_i2l hx hb dL_cancel_7 rfl ?_
    refine va_last (D := D) (n := 1) (f := f) hx hb hK hP hD hS (wTS B G r.2.2).length 3 (jLast _ _) rfl (inb_of (by decide)) dL_cancel_8 (fun H2 locs hP hD hS => ?_)
    rw [jSetLast] at hP hD
    refine lv_goto (tgt := 18) hx hb dL_cancel_9 (by decide) ?_
    refine lv_iconst (v := 0) hx hb dL_cancel_18 (by decide) ?_
    exact hRet C dL_cancel_19 (Nat.le_of_ble_eq_true rfl) (Nat.le_of_ble_eq_true rfl) hP hS
  · have eo : (hO r.1 f r.2.1) = f := if_neg hkn
    rw [eo]
    rcases hk with hk | hk | hk
    · exact absurd hk hkn
    · have ek : hk_cancel r.1 = 1 := by rw [hk]; rfl
      rw [ek]
      rw [hk] at hcl
      have hcl : s.vm.findClass "java/lang/IndexOutOfBoundsException" = some ce.cls := hcl
      refine vx_catch (own := RL) (name := "java/lang/IndexOutOfBoundsException") (E := "java/lang/IndexOutOfBoundsException") hown [] (⟨0, 9, 12, 13⟩ : ExceptionTableEntry) [(⟨0, 9, 15, 17⟩ : ExceptionTableEntry)] (htab.trans rfl) ?_ rfl (by decide : (13 : Nat) ≠ 0) (hts _ jq_6_9) (va_Nw.use rfl (hK0.2 _ jn_57)) hce hcv hcl ?_
      · intro z hz
        exact absurd hz List.not_mem_nil
      · refine lv_astore_n (lv' := [(3, .ref q), (0, .ref (B 9 0)), (1, .int v1), (2, .ref o)]) hx hb dL_cancel_12 rfl hl (by decide) rfl (fun ls hl => ?_)
        refine lv_iconst (v := 1) hx hb dL_cancel_13 (by decide) ?_
        exact hRet C dL_cancel_14 (Nat.le_of_ble_eq_true rfl) (Nat.le_of_ble_eq_true rfl) hP hS
    · have ek : hk_cancel r.1 = 2 := by rw [hk]; rfl
      rw [ek]
      rw [hk] at hcl
      have hcl : s.vm.findClass "java/lang/UnsupportedOperationException" = some ce.cls := hcl
      refine vx_catch (own := RL) (name := "java/lang/UnsupportedOperationException") (E := "java/lang/UnsupportedOperationException") hown [(⟨0, 9, 12, 13⟩ : ExceptionTableEntry)] (⟨0, 9, 15, 17⟩ : ExceptionTableEntry) [] (htab.trans rfl) ?_ rfl (by decide : (17 : Nat) ≠ 0) (hts _ jq_6_11) (va_Nw.use rfl (hK0.2 _ jn_60)) hce hcv hcl ?_
      · intro z hz
        rcases List.mem_cons.mp hz with rfl | hz
        · exact Or.inr ⟨(by decide : (13 : Nat) ≠ 0), "java/lang/IndexOutOfBoundsException", hts _ jq_6_9, hC 4 1 (by decide) (by decide) (by decide) (by decide) (by decide)⟩
        exact absurd hz List.not_mem_nil
      · refine lv_astore_n (lv' := [(3, .ref q), (0, .ref (B 9 0)), (1, .int v1), (2, .ref o)]) hx hb dL_cancel_15 rfl hl (by decide) rfl (fun ls hl => ?_)
        refine lv_iconst (v := 2) hx hb dL_cancel_16 (by decide) ?_
        exact hRet C dL_cancel_17 (Nat.le_of_ble_eq_true rfl) (Nat.le_of_ble_eq_true rfl) hP hS
def hk_move (k : Int32) : Int32 := if k = 1 then 1 else if k = 2 then 2 else if k = 4 then 3 else 0
set_option maxHeartbeats 4000000 in
set_option maxRecDepth 100000 in
theorem kh_move (l : Launch) (hl0 : l.stackTraces = false) (D : va_G) (G : Nat → ClassId) (B : Nat → Nat → Nat) (ks va : Nat → Nat) (o : Nat) (f : Nat → Int64) (N : Nat) (S : Nat → Nat → Nat → Int32) (v1 v2 : Int32) (r : Int32 × Int32 × (Nat → Nat → Nat → Int32)) (hV : F_X8_move N S v1 v2 = some r) (hk : r.1 = 0 ∨ r.1 = 1 ∨ r.1 = 2 ∨ r.1 = 4) : hM l yL_move (Cond.codeWith yL_move cL_move 5 (some .int) [(0, 10, 13, 13), (0, 10, 17, 15), (0, 10, 21, 17)] :: jw) ({ frames := 10, cells := 3, slots := 18, locals := 233 } : Room) [.ref (B 9 0), .int v1, .int v2, .ref o] D G ks va (wTS B G S ++ [((o, .inl (G 3, 1, .inr (.inl f))) : Nat × va_E)]) (wTS B G r.2.2 ++ [((o, .inl (G 3, 1, .inr (.inl (hO r.1 f r.2.1)))) : Nat × va_E)]) (hk_move r.1) := by
  refine hM_of (by decide +kernel) (Nat.le_of_ble_eq_true rfl) (fun p e s m args below meth c ls A C htab hP hD hA hZ hC hl => ?_)
  have C : Cx p s m args meth c cL_move 5 RL (some .int) D G := C
  obtain ⟨hx, hb, hr, hml, hts, hown, hlocks, hK0⟩ := id C
  have hK := hK0.1
  have hS : va_S A s.heap s.heap [] := va_S.rf
  have hl : lv_has ls 5 [(0, .ref (B 9 0)), (1, .int v1), (2, .int v2), (3, .ref o)] := hl
  refine lv_aload_n hx hb dL_move_0 rfl (lv_at hl 3 rfl) ?_
  refine lv_iconst (v := 0) hx hb dL_move_1 (by decide) ?_
  refine lv_aload_n hx hb dL_move_2 rfl (lv_at hl 0 rfl) ?_
  refine lv_iload_n hx hb dL_move_3 rfl (lv_at hl 1 rfl) ?_
  refine lv_iload_n hx hb dL_move_4 rfl (lv_at hl 2 rfl) ?_
  refine jVx C dL_move_5 (k_X8_move l hl0 D G B ks va N S v1 v2 r hV) jy_X8_move jq_26_8 jq_26_9 jq_26_10 ⟨Nat.le_of_ble_eq_true rfl, Nat.le_of_ble_eq_true rfl⟩ ⟨Nat.le_of_ble_eq_true rfl, Nat.le_of_ble_eq_true rfl⟩ hZ (jMidP (pre := []) (mid := wTS B G S) (post := [((o, .inl (G 3, 1, .inr (.inl f))) : Nat × va_E)]) hP) (jMidD (pre := []) (mid := wTS B G S) (post := [((o, .inl (G 3, 1, .inr (.inl f))) : Nat × va_E)]) hD) hA hS (ci := 10) (iw := 0) rfl rfl rfl hl (As := [.int v1, .int v2]) (rest := [.int 0, .ref o]) rfl (Nat.le_of_ble_eq_true rfl) (fun H1 locs hQ hz hkp hS => ?_)
  have hP : va_P D vwCl (wTS B G r.2.2 ++ [((o, .inl (G 3, 1, .inr (.inl f))) : Nat × va_E)]) H1 := jMidJoin (pre := ([] : va_W)) (mid := wTS B G S) (mid' := wTS B G r.2.2) (post := [((o, .inl (G 3, 1, .inr (.inl f))) : Nat × va_E)]) hP hD hkp hQ
  have hD := jDT r.2.2 hD
  clear hQ hz hkp
  refine ⟨fun hk0 => ?_, fun hkn ce q hce hcv hcl => ?_⟩
  · have ek : hk_move r.1 = 0 := by rw [hk0]; rfl
    have eo : (hO r.1 f r.2.1) = vp_updL f (0 : Int32).toNatClampNeg r.2.1.toInt64 := if_pos hk0
    rw [ek, eo]
    refine lv_i2l hx hb dL_move_8 rfl ?_
    refine va_last (D := D) (n := 1) (f := f) hx hb hK hP hD hS (wTS B G r.2.2).length 3 (jLast _ _) rfl (inb_of (by decide)) dL_move_9 (fun H2 locs hP hD hS => ?_)
    rw [jSetLast] at hP hD
    refine lv_goto (tgt := 25) hx hb dL_move_10 (by decide) ?_
    refine lv_iconst (v := 0) hx hb dL_move_25 (by decide) ?_
    exact hRet C dL_move_26 (Nat.le_of_ble_eq_true rfl) (Nat.le_of_ble_eq_true rfl) hP hS
  · have eo : (hO r.1 f r.2.1) = f := if_neg hkn
    rw [eo]
    rcases hk with hk | hk | hk | hk
    · exact absurd hk hkn
    · have ek : hk_move r.1 = 1 := by rw [hk]; rfl
      rw [ek]
      rw [hk] at hcl
      have hcl : s.vm.findClass "java/lang/IndexOutOfBoundsException" = some ce.cls := hcl
      refine vx_catch (own := RL) (name := "java/lang/IndexOutOfBoundsException") (E := "java/lang/IndexOutOfBoundsException") hown [] (⟨0, 10, 13, 13⟩ : ExceptionTableEntry) [(⟨0, 10, 17, 15⟩ : ExceptionTableEntry), (⟨0, 10, 21, 17⟩ : ExceptionTableEntry)] (htab.trans rfl) ?_ rfl (by decide : (13 : Nat) ≠ 0) (hts _ jq_6_9) (va_Nw.use rfl (hK0.2 _ jn_57)) hce hcv hcl ?_
      · intro z hz
        exact absurd hz List.not_mem_nil
      · refine lv_astore (lv' := [(4, .ref q), (0, .ref (B 9 0)), (1, .int v1), (2, .int v2), (3, .ref o)]) hx hb dL_move_13 hl (by decide) rfl (fun ls hl => ?_)
        refine lv_iconst (v := 1) hx hb dL_move_15 (by decide) ?_
        exact hRet C dL_move_16 (Nat.le_of_ble_eq_true rfl) (Nat.le_of_ble_eq_true rfl) hP hS
    · have ek : hk_move r.1 = 2 := by rw [hk]; rfl
      rw [ek]
      rw [hk] at hcl
      have hcl : s.vm.findClass "java/lang/IllegalArgumentException" = some ce.cls := hcl
      refine vx_catch (own := RL) (name := "java/lang/IllegalArgumentException") (E := "java/lang/IllegalArgumentException") hown [(⟨0, 10, 13, 13⟩ : ExceptionTableEntry)] (⟨0, 10, 17, 15⟩ : ExceptionTableEntry) [(⟨0, 10, 21, 17⟩ : ExceptionTableEntry)] (htab.trans rfl) ?_ rfl (by decide : (15 : Nat) ≠ 0) (hts _ jq_6_10) (va_Nw.use rfl (hK0.2 _ jn_58)) hce hcv hcl ?_
      · intro z hz
        rcases List.mem_cons.mp hz with rfl | hz
        · exact Or.inr ⟨(by decide : (13 : Nat) ≠ 0), "java/lang/IndexOutOfBoundsException", hts _ jq_6_9, hC 2 1 (by decide) (by decide) (by decide) (by decide) (by decide)⟩
        exact absurd hz List.not_mem_nil
      · refine lv_astore (lv' := [(4, .ref q), (0, .ref (B 9 0)), (1, .int v1), (2, .int v2), (3, .ref o)]) hx hb dL_move_17 hl (by decide) rfl (fun ls hl => ?_)
        refine lv_iconst (v := 2) hx hb dL_move_19 (by decide) ?_
        exact hRet C dL_move_20 (Nat.le_of_ble_eq_true rfl) (Nat.le_of_ble_eq_true rfl) hP hS
    · have ek : hk_move r.1 = 3 := by rw [hk]; rfl
      rw [ek]
      rw [hk] at hcl
      have hcl : s.vm.findClass "java/lang/UnsupportedOperationException" = some ce.cls := hcl
      refine vx_catch (own := RL) (name := "java/lang/UnsupportedOperationException") (E := "java/lang/UnsupportedOperationException") hown [(⟨0, 10, 13, 13⟩ : ExceptionTableEntry), (⟨0, 10, 17, 15⟩ : ExceptionTableEntry)] (⟨0, 10, 21, 17⟩ : ExceptionTableEntry) [] (htab.trans rfl) ?_ rfl (by decide : (17 : Nat) ≠ 0) (hts _ jq_6_11) (va_Nw.use rfl (hK0.2 _ jn_60)) hce hcv hcl ?_
      · intro z hz
        rcases List.mem_cons.mp hz with rfl | hz
        · exact Or.inr ⟨(by decide : (13 : Nat) ≠ 0), "java/lang/IndexOutOfBoundsException", hts _ jq_6_9, hC 4 1 (by decide) (by decide) (by decide) (by decide) (by decide)⟩
        rcases List.mem_cons.mp hz with rfl | hz
        · exact Or.inr ⟨(by decide : (15 : Nat) ≠ 0), "java/lang/IllegalArgumentException", hts _ jq_6_10, hC 4 2 (by decide) (by decide) (by decide) (by decide) (by decide)⟩
        exact absurd hz List.not_mem_nil
      · refine lv_astore (lv' := [(4, .ref q), (0, .ref (B 9 0)), (1, .int v1), (2, .int v2), (3, .ref o)]) hx hb dL_move_21 hl (by decide) rfl (fun ls hl => ?_)
        refine lv_iconst (v := 3) hx hb dL_move_23 (by decide) ?_
        exact hRet C dL_move_24 (Nat.le_of_ble_eq_true rfl) (Nat.le_of_ble_eq_true rfl) hP hS
def hk_performance (k : Int32) : Int32 := if k = 1 then 1 else if k = 2 then 2 else 0
set_option maxHeartbeats 4000000 in
set_option maxRecDepth 100000 in
theorem kh_performance (l : Launch) (hl0 : l.stackTraces = false) (D : va_G) (G : Nat → ClassId) (B : Nat → Nat → Nat) (ks va : Nat → Nat) (o : Nat) (f : Nat → Int64) (N : Nat) (S : Nat → Nat → Nat → Int32) (v1 v2 : Int32) (r : Int32 × Int32 × (Nat → Nat → Nat → Int32)) (hV : F_X8_performance N S v1 v2 = some r) (hk : r.1 = 0 ∨ r.1 = 1 ∨ r.1 = 2) : hM l yL_performance (Cond.codeWith yL_performance cL_performance 5 (some .int) [(0, 10, 13, 13), (0, 10, 17, 15)] :: jw) ({ frames := 9, cells := 2, slots := 12, locals := 143 } : Room) [.ref (B 9 0), .int v1, .int v2, .ref o] D G ks va (wTS B G S ++ [((o, .inl (G 3, 1, .inr (.inl f))) : Nat × va_E)]) (wTS B G r.2.2 ++ [((o, .inl (G 3, 1, .inr (.inl (hO r.1 f r.2.1)))) : Nat × va_E)]) (hk_performance r.1) := by
  refine hM_of (by decide +kernel) (Nat.le_of_ble_eq_true rfl) (fun p e s m args below meth c ls A C htab hP hD hA hZ hC hl => ?_)
  have C : Cx p s m args meth c cL_performance 5 RL (some .int) D G := C
  obtain ⟨hx, hb, hr, hml, hts, hown, hlocks, hK0⟩ := id C
  have hK := hK0.1
  have hS : va_S A s.heap s.heap [] := va_S.rf
  have hl : lv_has ls 5 [(0, .ref (B 9 0)), (1, .int v1), (2, .int v2), (3, .ref o)] := hl
  refine lv_aload_n hx hb dL_performance_0 rfl (lv_at hl 3 rfl) ?_
  refine lv_iconst (v := 0) hx hb dL_performance_1 (by decide) ?_
  refine lv_aload_n hx hb dL_performance_2 rfl (lv_at hl 0 rfl) ?_
  refine lv_iload_n hx hb dL_performance_3 rfl (lv_at hl 1 rfl) ?_
  refine lv_iload_n hx hb dL_performance_4 rfl (lv_at hl 2 rfl) ?_
  refine jVx C dL_performance_5 (k_X8_performance l hl0 D G B ks va N S v1 v2 r hV) jy_X8_performance jq_27_3 jq_27_4 jq_27_5 ⟨Nat.le_of_ble_eq_true rfl, Nat.le_of_ble_eq_true rfl⟩ ⟨Nat.le_of_ble_eq_true rfl, Nat.le_of_ble_eq_true rfl⟩ hZ (jMidP (pre := []) (mid := wTS B G S) (post := [((o, .inl (G 3, 1, .inr (.inl f))) : Nat × va_E)]) hP) (jMidD (pre := []) (mid := wTS B G S) (post := [((o, .inl (G 3, 1, .inr (.inl f))) : Nat × va_E)]) hD) hA hS (ci := 10) (iw := 0) rfl rfl rfl hl (As := [.int v1, .int v2]) (rest := [.int 0, .ref o]) rfl (Nat.le_of_ble_eq_true rfl) (fun H1 locs hQ hz hkp hS => ?_)
  have hP : va_P D vwCl (wTS B G r.2.2 ++ [((o, .inl (G 3, 1, .inr (.inl f))) : Nat × va_E)]) H1 := jMidJoin (pre := ([] : va_W)) (mid := wTS B G S) (mid' := wTS B G r.2.2) (post := [((o, .inl (G 3, 1, .inr (.inl f))) : Nat × va_E)]) hP hD hkp hQ
  have hD := jDT r.2.2 hD
  clear hQ hz hkp
  refine ⟨fun hk0 => ?_, fun hkn ce q hce hcv hcl => ?_⟩
  · have ek : hk_performance r.1 = 0 := by rw [hk0]; rfl
    have eo : (hO r.1 f r.2.1) = vp_updL f (0 : Int32).toNatClampNeg r.2.1.toInt64 := if_pos hk0
    rw [ek, eo]
    refine lv_i2l hx hb dL_performance_8 rfl ?_
    refine va_last (D := D) (n := 1) (f := f) hx hb hK hP hD hS (wTS B G r.2.2).length 3 (jLast _ _) rfl (inb_of (by decide)) dL_performance_9 (fun H2 locs hP hD hS => ?_)
    rw [jSetLast] at hP hD
    refine lv_goto (tgt := 21) hx hb dL_performance_10 (by decide) ?_
    refine lv_iconst (v := 0) hx hb dL_performance_21 (by decide) ?_
    exact hRet C dL_performance_22 (Nat.le_of_ble_eq_true rfl) (Nat.le_of_ble_eq_true rfl) hP hS
  · have eo : (hO r.1 f r.2.1) = f := if_neg hkn
    rw [eo]
    rcases hk with hk | hk | hk
    · exact absurd hk hkn
    · have ek : hk_performance r.1 = 1 := by rw [hk]; rfl
      rw [ek]
      rw [hk] at hcl
      have hcl : s.vm.findClass "java/lang/IndexOutOfBoundsException" = some ce.cls := hcl
      refine vx_catch (own := RL) (name := "java/lang/IndexOutOfBoundsException") (E := "java/lang/IndexOutOfBoundsException") hown [] (⟨0, 10, 13, 13⟩ : ExceptionTableEntry) [(⟨0, 10, 17, 15⟩ : ExceptionTableEntry)] (htab.trans rfl) ?_ rfl (by decide : (13 : Nat) ≠ 0) (hts _ jq_6_9) (va_Nw.use rfl (hK0.2 _ jn_57)) hce hcv hcl ?_
      · intro z hz
        exact absurd hz List.not_mem_nil
      · refine lv_astore (lv' := [(4, .ref q), (0, .ref (B 9 0)), (1, .int v1), (2, .int v2), (3, .ref o)]) hx hb dL_performance_13 hl (by decide) rfl (fun ls hl => ?_)
        refine lv_iconst (v := 1) hx hb dL_performance_15 (by decide) ?_
        exact hRet C dL_performance_16 (Nat.le_of_ble_eq_true rfl) (Nat.le_of_ble_eq_true rfl) hP hS
    · have ek : hk_performance r.1 = 2 := by rw [hk]; rfl
      rw [ek]
      rw [hk] at hcl
      have hcl : s.vm.findClass "java/lang/IllegalArgumentException" = some ce.cls := hcl
      refine vx_catch (own := RL) (name := "java/lang/IllegalArgumentException") (E := "java/lang/IllegalArgumentException") hown [(⟨0, 10, 13, 13⟩ : ExceptionTableEntry)] (⟨0, 10, 17, 15⟩ : ExceptionTableEntry) [] (htab.trans rfl) ?_ rfl (by decide : (15 : Nat) ≠ 0) (hts _ jq_6_10) (va_Nw.use rfl (hK0.2 _ jn_58)) hce hcv hcl ?_
      · intro z hz
        rcases List.mem_cons.mp hz with rfl | hz
        · exact Or.inr ⟨(by decide : (13 : Nat) ≠ 0), "java/lang/IndexOutOfBoundsException", hts _ jq_6_9, hC 2 1 (by decide) (by decide) (by decide) (by decide) (by decide)⟩
        exact absurd hz List.not_mem_nil
      · refine lv_astore (lv' := [(4, .ref q), (0, .ref (B 9 0)), (1, .int v1), (2, .int v2), (3, .ref o)]) hx hb dL_performance_17 hl (by decide) rfl (fun ls hl => ?_)
        refine lv_iconst (v := 2) hx hb dL_performance_19 (by decide) ?_
        exact hRet C dL_performance_20 (Nat.le_of_ble_eq_true rfl) (Nat.le_of_ble_eq_true rfl) hP hS
def hk_on (k : Int32) : Int32 := if k = 1 then 1 else if k = 2 then 2 else if k = 5 then 3 else 0
set_option maxHeartbeats 4000000 in
set_option maxRecDepth 100000 in
theorem kh_on (l : Launch) (hl0 : l.stackTraces = false) (D : va_G) (G : Nat → ClassId) (B : Nat → Nat → Nat) (ks va : Nat → Nat) (o : Nat) (f : Nat → Int64) (N : Nat) (S : Nat → Nat → Nat → Int32) (v1 v2 : Int32) (r : Int32 × Int32 × (Nat → Nat → Nat → Int32)) (hV : F_X8_on N S v1 v2 = some r) (hk : r.1 = 0 ∨ r.1 = 1 ∨ r.1 = 2 ∨ r.1 = 5) : hM l yL_on (Cond.codeWith yL_on cL_on 5 (some .int) [(0, 10, 13, 13), (0, 10, 17, 15), (0, 10, 21, 51)] :: jw) ({ frames := 9, cells := 3, slots := 18, locals := 143 } : Room) [.ref (B 9 0), .int v1, .int v2, .ref o] D G ks va (wTS B G S ++ [((o, .inl (G 3, 1, .inr (.inl f))) : Nat × va_E)]) (wTS B G r.2.2 ++ [((o, .inl (G 3, 1, .inr (.inl (hO r.1 f r.2.1)))) : Nat × va_E)]) (hk_on r.1) := by
  refine hM_of (by decide +kernel) (Nat.le_of_ble_eq_true rfl) (fun p e s m args below meth c ls A C htab hP hD hA hZ hC hl => ?_)
  have C : Cx p s m args meth c cL_on 5 RL (some .int) D G := C
  obtain ⟨hx, hb, hr, hml, hts, hown, hlocks, hK0⟩ := id C
  have hK := hK0.1
  have hS : va_S A s.heap s.heap [] := va_S.rf
  have hl : lv_has ls 5 [(0, .ref (B 9 0)), (1, .int v1), (2, .int v2), (3, .ref o)] := hl
  refine lv_aload_n hx hb dL_on_0 rfl (lv_at hl 3 rfl) ?_
  refine lv_iconst (v := 0) hx hb dL_on_1 (by decide) ?_
  refine lv_aload_n hx hb dL_on_2 rfl (lv_at hl 0 rfl) ?_
  refine lv_iload_n hx hb dL_on_3 rfl (lv_at hl 1 rfl) ?_
  refine lv_iload_n hx hb dL_on_4 rfl (lv_at hl 2 rfl) ?_
  refine jVx C dL_on_5 (k_X8_on l hl0 D G B ks va N S v1 v2 r hV) jy_X8_on jq_28_5 jq_28_6 jq_28_7 ⟨Nat.le_of_ble_eq_true rfl, Nat.le_of_ble_eq_true rfl⟩ ⟨Nat.le_of_ble_eq_true rfl, Nat.le_of_ble_eq_true rfl⟩ hZ (jMidP (pre := []) (mid := wTS B G S) (post := [((o, .inl (G 3, 1, .inr (.inl f))) : Nat × va_E)]) hP) (jMidD (pre := []) (mid := wTS B G S) (post := [((o, .inl (G 3, 1, .inr (.inl f))) : Nat × va_E)]) hD) hA hS (ci := 10) (iw := 0) rfl rfl rfl hl (As := [.int v1, .int v2]) (rest := [.int 0, .ref o]) rfl (Nat.le_of_ble_eq_true rfl) (fun H1 locs hQ hz hkp hS => ?_)
  have hP : va_P D vwCl (wTS B G r.2.2 ++ [((o, .inl (G 3, 1, .inr (.inl f))) : Nat × va_E)]) H1 := jMidJoin (pre := ([] : va_W)) (mid := wTS B G S) (mid' := wTS B G r.2.2) (post := [((o, .inl (G 3, 1, .inr (.inl f))) : Nat × va_E)]) hP hD hkp hQ
  have hD := jDT r.2.2 hD
  clear hQ hz hkp
  refine ⟨fun hk0 => ?_, fun hkn ce q hce hcv hcl => ?_⟩
  · have ek : hk_on r.1 = 0 := by rw [hk0]; rfl
    have eo : (hO r.1 f r.2.1) = vp_updL f (0 : Int32).toNatClampNeg r.2.1.toInt64 := if_pos hk0
    rw [ek, eo]
    refine lv_i2l hx hb dL_on_8 rfl ?_
    refine va_last (D := D) (n := 1) (f := f) hx hb hK hP hD hS (wTS B G r.2.2).length 3 (jLast _ _) rfl (inb_of (by decide)) dL_on_9 (fun H2 locs hP hD hS => ?_)
    rw [jSetLast] at hP hD
    refine lv_goto (tgt := 25) hx hb dL_on_10 (by decide) ?_
    refine lv_iconst (v := 0) hx hb dL_on_25 (by decide) ?_
    exact hRet C dL_on_26 (Nat.le_of_ble_eq_true rfl) (Nat.le_of_ble_eq_true rfl) hP hS
  · have eo : (hO r.1 f r.2.1) = f := if_neg hkn
    rw [eo]
    rcases hk with hk | hk | hk | hk
    · exact absurd hk hkn
    · have ek : hk_on r.1 = 1 := by rw [hk]; rfl
      rw [ek]
      rw [hk] at hcl
      have hcl : s.vm.findClass "java/lang/IndexOutOfBoundsException" = some ce.cls := hcl
      refine vx_catch (own := RL) (name := "java/lang/IndexOutOfBoundsException") (E := "java/lang/IndexOutOfBoundsException") hown [] (⟨0, 10, 13, 13⟩ : ExceptionTableEntry) [(⟨0, 10, 17, 15⟩ : ExceptionTableEntry), (⟨0, 10, 21, 51⟩ : ExceptionTableEntry)] (htab.trans rfl) ?_ rfl (by decide : (13 : Nat) ≠ 0) (hts _ jq_6_9) (va_Nw.use rfl (hK0.2 _ jn_57)) hce hcv hcl ?_
      · intro z hz
        exact absurd hz List.not_mem_nil
      · refine lv_astore (lv' := [(4, .ref q), (0, .ref (B 9 0)), (1, .int v1), (2, .int v2), (3, .ref o)]) hx hb dL_on_13 hl (by decide) rfl (fun ls hl => ?_)
        refine lv_iconst (v := 1) hx hb dL_on_15 (by decide) ?_
        exact hRet C dL_on_16 (Nat.le_of_ble_eq_true rfl) (Nat.le_of_ble_eq_true rfl) hP hS
    · have ek : hk_on r.1 = 2 := by rw [hk]; rfl
      rw [ek]
      rw [hk] at hcl
      have hcl : s.vm.findClass "java/lang/IllegalArgumentException" = some ce.cls := hcl
      refine vx_catch (own := RL) (name := "java/lang/IllegalArgumentException") (E := "java/lang/IllegalArgumentException") hown [(⟨0, 10, 13, 13⟩ : ExceptionTableEntry)] (⟨0, 10, 17, 15⟩ : ExceptionTableEntry) [(⟨0, 10, 21, 51⟩ : ExceptionTableEntry)] (htab.trans rfl) ?_ rfl (by decide : (15 : Nat) ≠ 0) (hts _ jq_6_10) (va_Nw.use rfl (hK0.2 _ jn_58)) hce hcv hcl ?_
      · intro z hz
        rcases List.mem_cons.mp hz with rfl | hz
        · exact Or.inr ⟨(by decide : (13 : Nat) ≠ 0), "java/lang/IndexOutOfBoundsException", hts _ jq_6_9, hC 2 1 (by decide) (by decide) (by decide) (by decide) (by decide)⟩
        exact absurd hz List.not_mem_nil
      · refine lv_astore (lv' := [(4, .ref q), (0, .ref (B 9 0)), (1, .int v1), (2, .int v2), (3, .ref o)]) hx hb dL_on_17 hl (by decide) rfl (fun ls hl => ?_)
        refine lv_iconst (v := 2) hx hb dL_on_19 (by decide) ?_
        exact hRet C dL_on_20 (Nat.le_of_ble_eq_true rfl) (Nat.le_of_ble_eq_true rfl) hP hS
    · have ek : hk_on r.1 = 3 := by rw [hk]; rfl
      rw [ek]
      rw [hk] at hcl
      have hcl : s.vm.findClass "java/util/NoSuchElementException" = some ce.cls := hcl
      refine vx_catch (own := RL) (name := "java/util/NoSuchElementException") (E := "java/util/NoSuchElementException") hown [(⟨0, 10, 13, 13⟩ : ExceptionTableEntry), (⟨0, 10, 17, 15⟩ : ExceptionTableEntry)] (⟨0, 10, 21, 51⟩ : ExceptionTableEntry) [] (htab.trans rfl) ?_ rfl (by decide : (51 : Nat) ≠ 0) (hts _ jq_28_4) (va_Nw.use rfl (hK0.2 _ jn_61)) hce hcv hcl ?_
      · intro z hz
        rcases List.mem_cons.mp hz with rfl | hz
        · exact Or.inr ⟨(by decide : (13 : Nat) ≠ 0), "java/lang/IndexOutOfBoundsException", hts _ jq_6_9, hC 5 1 (by decide) (by decide) (by decide) (by decide) (by decide)⟩
        rcases List.mem_cons.mp hz with rfl | hz
        · exact Or.inr ⟨(by decide : (15 : Nat) ≠ 0), "java/lang/IllegalArgumentException", hts _ jq_6_10, hC 5 2 (by decide) (by decide) (by decide) (by decide) (by decide)⟩
        exact absurd hz List.not_mem_nil
      · refine lv_astore (lv' := [(4, .ref q), (0, .ref (B 9 0)), (1, .int v1), (2, .int v2), (3, .ref o)]) hx hb dL_on_21 hl (by decide) rfl (fun ls hl => ?_)
        refine lv_iconst (v := 3) hx hb dL_on_23 (by decide) ?_
        exact hRet C dL_on_24 (Nat.le_of_ble_eq_true rfl) (Nat.le_of_ble_eq_true rfl) hP hS
def hk_nextDate (k : Int32) : Int32 := if k = 1 then 1 else if k = 2 then 2 else if k = 5 then 3 else 0
set_option maxHeartbeats 4000000 in
set_option maxRecDepth 100000 in
theorem kh_nextDate (l : Launch) (hl0 : l.stackTraces = false) (D : va_G) (G : Nat → ClassId) (B : Nat → Nat → Nat) (ks va : Nat → Nat) (o : Nat) (f : Nat → Int64) (N : Nat) (S : Nat → Nat → Nat → Int32) (v1 v2 v3 : Int32) (r : Int32 × Int32 × (Nat → Nat → Nat → Int32)) (hV : F_X8_nextDate N S v1 v2 v3 = some r) (hk : r.1 = 0 ∨ r.1 = 1 ∨ r.1 = 2 ∨ r.1 = 5) : hM l yL_nextDate (Cond.codeWith yL_nextDate cL_nextDate 6 (some .int) [(0, 12, 15, 13), (0, 12, 19, 15), (0, 12, 23, 51)] :: jw) ({ frames := 9, cells := 3, slots := 18, locals := 144 } : Room) [.ref (B 9 0), .int v1, .int v2, .int v3, .ref o] D G ks va (wTS B G S ++ [((o, .inl (G 3, 1, .inr (.inl f))) : Nat × va_E)]) (wTS B G r.2.2 ++ [((o, .inl (G 3, 1, .inr (.inl (hO r.1 f r.2.1)))) : Nat × va_E)]) (hk_nextDate r.1) := by
  refine hM_of (by decide +kernel) (Nat.le_of_ble_eq_true rfl) (fun p e s m args below meth c ls A C htab hP hD hA hZ hC hl => ?_)
  have C : Cx p s m args meth c cL_nextDate 6 RL (some .int) D G := C
  obtain ⟨hx, hb, hr, hml, hts, hown, hlocks, hK0⟩ := id C
  have hK := hK0.1
  have hS : va_S A s.heap s.heap [] := va_S.rf
  have hl : lv_has ls 6 [(0, .ref (B 9 0)), (1, .int v1), (2, .int v2), (3, .int v3), (4, .ref o)] := hl
  refine lv_aload hx hb dL_nextDate_0 (lv_at hl 4 rfl) ?_
  refine lv_iconst (v := 0) hx hb dL_nextDate_2 (by decide) ?_
  refine lv_aload_n hx hb dL_nextDate_3 rfl (lv_at hl 0 rfl) ?_
  refine lv_iload_n hx hb dL_nextDate_4 rfl (lv_at hl 1 rfl) ?_
  refine lv_iload_n hx hb dL_nextDate_5 rfl (lv_at hl 2 rfl) ?_
  refine lv_iload_n hx hb dL_nextDate_6 rfl (lv_at hl 3 rfl) ?_
  refine jVx C dL_nextDate_7 (k_X8_nextDate l hl0 D G B ks va N S v1 v2 v3 r hV) jy_X8_nextDate jq_29_0 jq_29_1 jq_29_2 ⟨Nat.le_of_ble_eq_true rfl, Nat.le_of_ble_eq_true rfl⟩ ⟨Nat.le_of_ble_eq_true rfl, Nat.le_of_ble_eq_true rfl⟩ hZ (jMidP (pre := []) (mid := wTS B G S) (post := [((o, .inl (G 3, 1, .inr (.inl f))) : Nat × va_E)]) hP) (jMidD (pre := []) (mid := wTS B G S) (post := [((o, .inl (G 3, 1, .inr (.inl f))) : Nat × va_E)]) hD) hA hS (ci := 10) (iw := 0) rfl rfl rfl hl (As := [.int v1, .int v2, .int v3]) (rest := [.int 0, .ref o]) rfl (Nat.le_of_ble_eq_true rfl) (fun H1 locs hQ hz hkp hS => ?_)
  have hP : va_P D vwCl (wTS B G r.2.2 ++ [((o, .inl (G 3, 1, .inr (.inl f))) : Nat × va_E)]) H1 := jMidJoin (pre := ([] : va_W)) (mid := wTS B G S) (mid' := wTS B G r.2.2) (post := [((o, .inl (G 3, 1, .inr (.inl f))) : Nat × va_E)]) hP hD hkp hQ
  have hD := jDT r.2.2 hD
  clear hQ hz hkp
  refine ⟨fun hk0 => ?_, fun hkn ce q hce hcv hcl => ?_⟩
  · have ek : hk_nextDate r.1 = 0 := by rw [hk0]; rfl
    have eo : (hO r.1 f r.2.1) = vp_updL f (0 : Int32).toNatClampNeg r.2.1.toInt64 := if_pos hk0
    rw [ek, eo]
    refine lv_i2l hx hb dL_nextDate_10 rfl ?_
    refine va_last (D := D) (n := 1) (f := f) hx hb hK hP hD hS (wTS B G r.2.2).length 3 (jLast _ _) rfl (inb_of (by decide)) dL_nextDate_11 (fun H2 locs hP hD hS => ?_)
    rw [jSetLast] at hP hD
    refine lv_goto (tgt := 27) hx hb dL_nextDate_12 (by decide) ?_
    refine lv_iconst (v := 0) hx hb dL_nextDate_27 (by decide) ?_
    exact hRet C dL_nextDate_28 (Nat.le_of_ble_eq_true rfl) (Nat.le_of_ble_eq_true rfl) hP hS
  · have eo : (hO r.1 f r.2.1) = f := if_neg hkn
    rw [eo]
    rcases hk with hk | hk | hk | hk
    · exact absurd hk hkn
    · have ek : hk_nextDate r.1 = 1 := by rw [hk]; rfl
      rw [ek]
      rw [hk] at hcl
      have hcl : s.vm.findClass "java/lang/IndexOutOfBoundsException" = some ce.cls := hcl
      refine vx_catch (own := RL) (name := "java/lang/IndexOutOfBoundsException") (E := "java/lang/IndexOutOfBoundsException") hown [] (⟨0, 12, 15, 13⟩ : ExceptionTableEntry) [(⟨0, 12, 19, 15⟩ : ExceptionTableEntry), (⟨0, 12, 23, 51⟩ : ExceptionTableEntry)] (htab.trans rfl) ?_ rfl (by decide : (13 : Nat) ≠ 0) (hts _ jq_6_9) (va_Nw.use rfl (hK0.2 _ jn_57)) hce hcv hcl ?_
      · intro z hz
        exact absurd hz List.not_mem_nil
      · refine lv_astore (lv' := [(5, .ref q), (0, .ref (B 9 0)), (1, .int v1), (2, .int v2), (3, .int v3), (4, .ref o)]) hx hb dL_nextDate_15 hl (by decide) rfl (fun ls hl => ?_)
        refine lv_iconst (v := 1) hx hb dL_nextDate_17 (by decide) ?_
        exact hRet C dL_nextDate_18 (Nat.le_of_ble_eq_true rfl) (Nat.le_of_ble_eq_true rfl) hP hS
    · have ek : hk_nextDate r.1 = 2 := by rw [hk]; rfl
      rw [ek]
      rw [hk] at hcl
      have hcl : s.vm.findClass "java/lang/IllegalArgumentException" = some ce.cls := hcl
      refine vx_catch (own := RL) (name := "java/lang/IllegalArgumentException") (E := "java/lang/IllegalArgumentException") hown [(⟨0, 12, 15, 13⟩ : ExceptionTableEntry)] (⟨0, 12, 19, 15⟩ : ExceptionTableEntry) [(⟨0, 12, 23, 51⟩ : ExceptionTableEntry)] (htab.trans rfl) ?_ rfl (by decide : (15 : Nat) ≠ 0) (hts _ jq_6_10) (va_Nw.use rfl (hK0.2 _ jn_58)) hce hcv hcl ?_
      · intro z hz
        rcases List.mem_cons.mp hz with rfl | hz
        · exact Or.inr ⟨(by decide : (13 : Nat) ≠ 0), "java/lang/IndexOutOfBoundsException", hts _ jq_6_9, hC 2 1 (by decide) (by decide) (by decide) (by decide) (by decide)⟩
        exact absurd hz List.not_mem_nil
      · refine lv_astore (lv' := [(5, .ref q), (0, .ref (B 9 0)), (1, .int v1), (2, .int v2), (3, .int v3), (4, .ref o)]) hx hb dL_nextDate_19 hl (by decide) rfl (fun ls hl => ?_)
        refine lv_iconst (v := 2) hx hb dL_nextDate_21 (by decide) ?_
        exact hRet C dL_nextDate_22 (Nat.le_of_ble_eq_true rfl) (Nat.le_of_ble_eq_true rfl) hP hS
    · have ek : hk_nextDate r.1 = 3 := by rw [hk]; rfl
      rw [ek]
      rw [hk] at hcl
      have hcl : s.vm.findClass "java/util/NoSuchElementException" = some ce.cls := hcl
      refine vx_catch (own := RL) (name := "java/util/NoSuchElementException") (E := "java/util/NoSuchElementException") hown [(⟨0, 12, 15, 13⟩ : ExceptionTableEntry), (⟨0, 12, 19, 15⟩ : ExceptionTableEntry)] (⟨0, 12, 23, 51⟩ : ExceptionTableEntry) [] (htab.trans rfl) ?_ rfl (by decide : (51 : Nat) ≠ 0) (hts _ jq_28_4) (va_Nw.use rfl (hK0.2 _ jn_61)) hce hcv hcl ?_
      · intro z hz
        rcases List.mem_cons.mp hz with rfl | hz
        · exact Or.inr ⟨(by decide : (13 : Nat) ≠ 0), "java/lang/IndexOutOfBoundsException", hts _ jq_6_9, hC 5 1 (by decide) (by decide) (by decide) (by decide) (by decide)⟩
        rcases List.mem_cons.mp hz with rfl | hz
        · exact Or.inr ⟨(by decide : (15 : Nat) ≠ 0), "java/lang/IllegalArgumentException", hts _ jq_6_10, hC 5 2 (by decide) (by decide) (by decide) (by decide) (by decide)⟩
        exact absurd hz List.not_mem_nil
      · refine lv_astore (lv' := [(5, .ref q), (0, .ref (B 9 0)), (1, .int v1), (2, .int v2), (3, .int v3), (4, .ref o)]) hx hb dL_nextDate_23 hl (by decide) rfl (fun ls hl => ?_)
        refine lv_iconst (v := 3) hx hb dL_nextDate_25 (by decide) ?_
        exact hRet C dL_nextDate_26 (Nat.le_of_ble_eq_true rfl) (Nat.le_of_ble_eq_true rfl) hP hS
def hk_bestMove (k : Int32) : Int32 := if k = 1 then 1 else if k = 5 then 2 else 0
set_option maxHeartbeats 4000000 in
set_option maxRecDepth 100000 in
theorem kh_bestMove (l : Launch) (hl0 : l.stackTraces = false) (D : va_G) (G : Nat → ClassId) (B : Nat → Nat → Nat) (ks va : Nat → Nat) (o : Nat) (f : Nat → Int64) (N : Nat) (S : Nat → Nat → Nat → Int32) (v1 : Int32) (r : Int32 × Int32 × (Nat → Nat → Nat → Int32)) (hV : F_X8_bestMove N S v1 = some r) (hk : r.1 = 0 ∨ r.1 = 1 ∨ r.1 = 5) : hM l yL_bestMove (Cond.codeWith yL_bestMove cL_bestMove 4 (some .int) [(0, 9, 12, 13), (0, 9, 15, 51)] :: jw) ({ frames := 9, cells := 2, slots := 12, locals := 151 } : Room) [.ref (B 9 0), .int v1, .ref o] D G ks va (wTS B G S ++ [((o, .inl (G 3, 1, .inr (.inl f))) : Nat × va_E)]) (wTS B G r.2.2 ++ [((o, .inl (G 3, 1, .inr (.inl (hO r.1 f r.2.1)))) : Nat × va_E)]) (hk_bestMove r.1) := by
  refine hM_of (by decide +kernel) (Nat.le_of_ble_eq_true rfl) (fun p e s m args below meth c ls A C htab hP hD hA hZ hC hl => ?_)
  have C : Cx p s m args meth c cL_bestMove 4 RL (some .int) D G := C
  obtain ⟨hx, hb, hr, hml, hts, hown, hlocks, hK0⟩ := id C
  have hK := hK0.1
  have hS : va_S A s.heap s.heap [] := va_S.rf
  have hl : lv_has ls 4 [(0, .ref (B 9 0)), (1, .int v1), (2, .ref o)] := hl
  refine lv_aload_n hx hb dL_bestMove_0 rfl (lv_at hl 2 rfl) ?_
  refine lv_iconst (v := 0) hx hb dL_bestMove_1 (by decide) ?_
  refine lv_aload_n hx hb dL_bestMove_2 rfl (lv_at hl 0 rfl) ?_
  refine lv_iload_n hx hb dL_bestMove_3 rfl (lv_at hl 1 rfl) ?_
  refine jVx C dL_bestMove_4 (k_X8_bestMove l hl0 D G B ks va N S v1 r hV) jy_X8_bestMove jq_29_16 jq_29_17 jq_29_18 ⟨Nat.le_of_ble_eq_true rfl, Nat.le_of_ble_eq_true rfl⟩ ⟨Nat.le_of_ble_eq_true rfl, Nat.le_of_ble_eq_true rfl⟩ hZ (jMidP (pre := []) (mid := wTS B G S) (post := [((o, .inl (G 3, 1, .inr (.inl f))) : Nat × va_E)]) hP) (jMidD (pre := []) (mid := wTS B G S) (post := [((o, .inl (G 3, 1, .inr (.inl f))) : Nat × va_E)]) hD) hA hS (ci := 10) (iw := 0) rfl rfl rfl hl (As := [.int v1]) (rest := [.int 0, .ref o]) rfl (Nat.le_of_ble_eq_true rfl) (fun H1 locs hQ hz hkp hS => ?_)
  have hP : va_P D vwCl (wTS B G r.2.2 ++ [((o, .inl (G 3, 1, .inr (.inl f))) : Nat × va_E)]) H1 := jMidJoin (pre := ([] : va_W)) (mid := wTS B G S) (mid' := wTS B G r.2.2) (post := [((o, .inl (G 3, 1, .inr (.inl f))) : Nat × va_E)]) hP hD hkp hQ
  have hD := jDT r.2.2 hD
  clear hQ hz hkp
  refine ⟨fun hk0 => ?_, fun hkn ce q hce hcv hcl => ?_⟩
  · have ek : hk_bestMove r.1 = 0 := by rw [hk0]; rfl
    have eo : (hO r.1 f r.2.1) = vp_updL f (0 : Int32).toNatClampNeg r.2.1.toInt64 := if_pos hk0
    rw [ek, eo]
    refine lv_i2l hx hb dL_bestMove_7 rfl ?_
    refine va_last (D := D) (n := 1) (f := f) hx hb hK hP hD hS (wTS B G r.2.2).length 3 (jLast _ _) rfl (inb_of (by decide)) dL_bestMove_8 (fun H2 locs hP hD hS => ?_)
    rw [jSetLast] at hP hD
    refine lv_goto (tgt := 18) hx hb dL_bestMove_9 (by decide) ?_
    refine lv_iconst (v := 0) hx hb dL_bestMove_18 (by decide) ?_
    exact hRet C dL_bestMove_19 (Nat.le_of_ble_eq_true rfl) (Nat.le_of_ble_eq_true rfl) hP hS
  · have eo : (hO r.1 f r.2.1) = f := if_neg hkn
    rw [eo]
    rcases hk with hk | hk | hk
    · exact absurd hk hkn
    · have ek : hk_bestMove r.1 = 1 := by rw [hk]; rfl
      rw [ek]
      rw [hk] at hcl
      have hcl : s.vm.findClass "java/lang/IndexOutOfBoundsException" = some ce.cls := hcl
      refine vx_catch (own := RL) (name := "java/lang/IndexOutOfBoundsException") (E := "java/lang/IndexOutOfBoundsException") hown [] (⟨0, 9, 12, 13⟩ : ExceptionTableEntry) [(⟨0, 9, 15, 51⟩ : ExceptionTableEntry)] (htab.trans rfl) ?_ rfl (by decide : (13 : Nat) ≠ 0) (hts _ jq_6_9) (va_Nw.use rfl (hK0.2 _ jn_57)) hce hcv hcl ?_
      · intro z hz
        exact absurd hz List.not_mem_nil
      · refine lv_astore_n (lv' := [(3, .ref q), (0, .ref (B 9 0)), (1, .int v1), (2, .ref o)]) hx hb dL_bestMove_12 rfl hl (by decide) rfl (fun ls hl => ?_)
        refine lv_iconst (v := 1) hx hb dL_bestMove_13 (by decide) ?_
        exact hRet C dL_bestMove_14 (Nat.le_of_ble_eq_true rfl) (Nat.le_of_ble_eq_true rfl) hP hS
    · have ek : hk_bestMove r.1 = 2 := by rw [hk]; rfl
      rw [ek]
      rw [hk] at hcl
      have hcl : s.vm.findClass "java/util/NoSuchElementException" = some ce.cls := hcl
      refine vx_catch (own := RL) (name := "java/util/NoSuchElementException") (E := "java/util/NoSuchElementException") hown [(⟨0, 9, 12, 13⟩ : ExceptionTableEntry)] (⟨0, 9, 15, 51⟩ : ExceptionTableEntry) [] (htab.trans rfl) ?_ rfl (by decide : (51 : Nat) ≠ 0) (hts _ jq_28_4) (va_Nw.use rfl (hK0.2 _ jn_61)) hce hcv hcl ?_
      · intro z hz
        rcases List.mem_cons.mp hz with rfl | hz
        · exact Or.inr ⟨(by decide : (13 : Nat) ≠ 0), "java/lang/IndexOutOfBoundsException", hts _ jq_6_9, hC 5 1 (by decide) (by decide) (by decide) (by decide) (by decide)⟩
        exact absurd hz List.not_mem_nil
      · refine lv_astore_n (lv' := [(3, .ref q), (0, .ref (B 9 0)), (1, .int v1), (2, .ref o)]) hx hb dL_bestMove_15 rfl hl (by decide) rfl (fun ls hl => ?_)
        refine lv_iconst (v := 2) hx hb dL_bestMove_16 (by decide) ?_
        exact hRet C dL_bestMove_17 (Nat.le_of_ble_eq_true rfl) (Nat.le_of_ble_eq_true rfl) hP hS
def hk_load (k : Int32) : Int32 := if k = 2 then 1 else 0
set_option maxHeartbeats 4000000 in
set_option maxRecDepth 100000 in
theorem kh_load (l : Launch) (hl0 : l.stackTraces = false) (D : va_G) (G : Nat → ClassId) (B : Nat → Nat → Nat) (ks va : Nat → Nat) (o : Nat) (f : Nat → Int64) (N : Nat) (S : Nat → Nat → Nat → Int32) (v1 : Int32) (r : Int32 × Int32 × (Nat → Nat → Nat → Int32)) (hV : F_X8_load N S v1 = some r) (hk : r.1 = 0 ∨ r.1 = 2) : hM l yL_load (Cond.codeWith yL_load cL_load 4 (some .int) [(0, 9, 12, 15)] :: jw) ({ frames := 9, cells := 1, slots := 6, locals := 141 } : Room) [.ref (B 9 0), .int v1, .ref o] D G ks va (wTS B G S ++ [((o, .inl (G 3, 1, .inr (.inl f))) : Nat × va_E)]) (wTS B G r.2.2 ++ [((o, .inl (G 3, 1, .inr (.inl (hO r.1 f r.2.1)))) : Nat × va_E)]) (hk_load r.1) := by
  refine hM_of (by decide +kernel) (Nat.le_of_ble_eq_true rfl) (fun p e s m args below meth c ls A C htab hP hD hA hZ hC hl => ?_)
  have C : Cx p s m args meth c cL_load 4 RL (some .int) D G := C
  obtain ⟨hx, hb, hr, hml, hts, hown, hlocks, hK0⟩ := id C
  have hK := hK0.1
  have hS : va_S A s.heap s.heap [] := va_S.rf
  have hl : lv_has ls 4 [(0, .ref (B 9 0)), (1, .int v1), (2, .ref o)] := hl
  refine lv_aload_n hx hb dL_load_0 rfl (lv_at hl 2 rfl) ?_
  refine lv_iconst (v := 0) hx hb dL_load_1 (by decide) ?_
  refine lv_aload_n hx hb dL_load_2 rfl (lv_at hl 0 rfl) ?_
  refine lv_iload_n hx hb dL_load_3 rfl (lv_at hl 1 rfl) ?_
  refine jVx C dL_load_4 (k_X8_load l hl0 D G B ks va N S v1 r hV) jy_X8_load jq_30_18 jq_30_19 jq_30_20 ⟨Nat.le_of_ble_eq_true rfl, Nat.le_of_ble_eq_true rfl⟩ ⟨Nat.le_of_ble_eq_true rfl, Nat.le_of_ble_eq_true rfl⟩ hZ (jMidP (pre := []) (mid := wTS B G S) (post := [((o, .inl (G 3, 1, .inr (.inl f))) : Nat × va_E)]) hP) (jMidD (pre := []) (mid := wTS B G S) (post := [((o, .inl (G 3, 1, .inr (.inl f))) : Nat × va_E)]) hD) hA hS (ci := 10) (iw := 0) rfl rfl rfl hl (As := [.int v1]) (rest := [.int 0, .ref o]) rfl (Nat.le_of_ble_eq_true rfl) (fun H1 locs hQ hz hkp hS => ?_)
  have hP : va_P D vwCl (wTS B G r.2.2 ++ [((o, .inl (G 3, 1, .inr (.inl f))) : Nat × va_E)]) H1 := jMidJoin (pre := ([] : va_W)) (mid := wTS B G S) (mid' := wTS B G r.2.2) (post := [((o, .inl (G 3, 1, .inr (.inl f))) : Nat × va_E)]) hP hD hkp hQ
  have hD := jDT r.2.2 hD
  clear hQ hz hkp
  refine ⟨fun hk0 => ?_, fun hkn ce q hce hcv hcl => ?_⟩
  · have ek : hk_load r.1 = 0 := by rw [hk0]; rfl
    have eo : (hO r.1 f r.2.1) = vp_updL f (0 : Int32).toNatClampNeg r.2.1.toInt64 := if_pos hk0
    rw [ek, eo]
    refine lv_i2l hx hb dL_load_7 rfl ?_
    refine va_last (D := D) (n := 1) (f := f) hx hb hK hP hD hS (wTS B G r.2.2).length 3 (jLast _ _) rfl (inb_of (by decide)) dL_load_8 (fun H2 locs hP hD hS => ?_)
    rw [jSetLast] at hP hD
    refine lv_goto (tgt := 15) hx hb dL_load_9 (by decide) ?_
    refine lv_iconst (v := 0) hx hb dL_load_15 (by decide) ?_
    exact hRet C dL_load_16 (Nat.le_of_ble_eq_true rfl) (Nat.le_of_ble_eq_true rfl) hP hS
  · have eo : (hO r.1 f r.2.1) = f := if_neg hkn
    rw [eo]
    rcases hk with hk | hk
    · exact absurd hk hkn
    · have ek : hk_load r.1 = 1 := by rw [hk]; rfl
      rw [ek]
      rw [hk] at hcl
      have hcl : s.vm.findClass "java/lang/IllegalArgumentException" = some ce.cls := hcl
      refine vx_catch (own := RL) (name := "java/lang/IllegalArgumentException") (E := "java/lang/IllegalArgumentException") hown [] (⟨0, 9, 12, 15⟩ : ExceptionTableEntry) [] (htab.trans rfl) ?_ rfl (by decide : (15 : Nat) ≠ 0) (hts _ jq_6_10) (va_Nw.use rfl (hK0.2 _ jn_58)) hce hcv hcl ?_
      · intro z hz
        exact absurd hz List.not_mem_nil
      · refine lv_astore_n (lv' := [(3, .ref q), (0, .ref (B 9 0)), (1, .int v1), (2, .ref o)]) hx hb dL_load_12 rfl hl (by decide) rfl (fun ls hl => ?_)
        refine lv_iconst (v := 1) hx hb dL_load_13 (by decide) ?_
        exact hRet C dL_load_14 (Nat.le_of_ble_eq_true rfl) (Nat.le_of_ble_eq_true rfl) hP hS
def hk_sell (k : Int32) : Int32 := if k = 1 then 1 else if k = 2 then 2 else if k = 4 then 3 else 0
set_option maxHeartbeats 4000000 in
set_option maxRecDepth 100000 in
theorem kh_sell (l : Launch) (hl0 : l.stackTraces = false) (D : va_G) (G : Nat → ClassId) (B : Nat → Nat → Nat) (ks va : Nat → Nat) (o : Nat) (f : Nat → Int64) (N : Nat) (S : Nat → Nat → Nat → Int32) (v1 v2 : Int32) (r : Int32 × Int32 × (Nat → Nat → Nat → Int32)) (hV : F_X8_sell N S v1 v2 = some r) (hk : r.1 = 0 ∨ r.1 = 1 ∨ r.1 = 2 ∨ r.1 = 4) : hM l yL_sell (Cond.codeWith yL_sell cL_sell 5 (some .int) [(0, 10, 13, 13), (0, 10, 17, 15), (0, 10, 21, 17)] :: jw) ({ frames := 10, cells := 3, slots := 18, locals := 233 } : Room) [.ref (B 9 0), .int v1, .int v2, .ref o] D G ks va (wTS B G S ++ [((o, .inl (G 3, 1, .inr (.inl f))) : Nat × va_E)]) (wTS B G r.2.2 ++ [((o, .inl (G 3, 1, .inr (.inl (hO r.1 f r.2.1)))) : Nat × va_E)]) (hk_sell r.1) := by
  refine hM_of (by decide +kernel) (Nat.le_of_ble_eq_true rfl) (fun p e s m args below meth c ls A C htab hP hD hA hZ hC hl => ?_)
  have C : Cx p s m args meth c cL_sell 5 RL (some .int) D G := C
  obtain ⟨hx, hb, hr, hml, hts, hown, hlocks, hK0⟩ := id C
  have hK := hK0.1
  have hS : va_S A s.heap s.heap [] := va_S.rf
  have hl : lv_has ls 5 [(0, .ref (B 9 0)), (1, .int v1), (2, .int v2), (3, .ref o)] := hl
  refine lv_aload_n hx hb dL_sell_0 rfl (lv_at hl 3 rfl) ?_
  refine lv_iconst (v := 0) hx hb dL_sell_1 (by decide) ?_
  refine lv_aload_n hx hb dL_sell_2 rfl (lv_at hl 0 rfl) ?_
  refine lv_iload_n hx hb dL_sell_3 rfl (lv_at hl 1 rfl) ?_
  refine lv_iload_n hx hb dL_sell_4 rfl (lv_at hl 2 rfl) ?_
  refine jVx C dL_sell_5 (k_X8_sell l hl0 D G B ks va N S v1 v2 r hV) jy_X8_sell jq_31_15 jq_31_16 jq_31_17 ⟨Nat.le_of_ble_eq_true rfl, Nat.le_of_ble_eq_true rfl⟩ ⟨Nat.le_of_ble_eq_true rfl, Nat.le_of_ble_eq_true rfl⟩ hZ (jMidP (pre := []) (mid := wTS B G S) (post := [((o, .inl (G 3, 1, .inr (.inl f))) : Nat × va_E)]) hP) (jMidD (pre := []) (mid := wTS B G S) (post := [((o, .inl (G 3, 1, .inr (.inl f))) : Nat × va_E)]) hD) hA hS (ci := 10) (iw := 0) rfl rfl rfl hl (As := [.int v1, .int v2]) (rest := [.int 0, .ref o]) rfl (Nat.le_of_ble_eq_true rfl) (fun H1 locs hQ hz hkp hS => ?_)
  have hP : va_P D vwCl (wTS B G r.2.2 ++ [((o, .inl (G 3, 1, .inr (.inl f))) : Nat × va_E)]) H1 := jMidJoin (pre := ([] : va_W)) (mid := wTS B G S) (mid' := wTS B G r.2.2) (post := [((o, .inl (G 3, 1, .inr (.inl f))) : Nat × va_E)]) hP hD hkp hQ
  have hD := jDT r.2.2 hD
  clear hQ hz hkp
  refine ⟨fun hk0 => ?_, fun hkn ce q hce hcv hcl => ?_⟩
  · have ek : hk_sell r.1 = 0 := by rw [hk0]; rfl
    have eo : (hO r.1 f r.2.1) = vp_updL f (0 : Int32).toNatClampNeg r.2.1.toInt64 := if_pos hk0
    rw [ek, eo]
    refine lv_i2l hx hb dL_sell_8 rfl ?_
    refine va_last (D := D) (n := 1) (f := f) hx hb hK hP hD hS (wTS B G r.2.2).length 3 (jLast _ _) rfl (inb_of (by decide)) dL_sell_9 (fun H2 locs hP hD hS => ?_)
    rw [jSetLast] at hP hD
    refine lv_goto (tgt := 25) hx hb dL_sell_10 (by decide) ?_
    refine lv_iconst (v := 0) hx hb dL_sell_25 (by decide) ?_
    exact hRet C dL_sell_26 (Nat.le_of_ble_eq_true rfl) (Nat.le_of_ble_eq_true rfl) hP hS
  · have eo : (hO r.1 f r.2.1) = f := if_neg hkn
    rw [eo]
    rcases hk with hk | hk | hk | hk
    · exact absurd hk hkn
    · have ek : hk_sell r.1 = 1 := by rw [hk]; rfl
      rw [ek]
      rw [hk] at hcl
      have hcl : s.vm.findClass "java/lang/IndexOutOfBoundsException" = some ce.cls := hcl
      refine vx_catch (own := RL) (name := "java/lang/IndexOutOfBoundsException") (E := "java/lang/IndexOutOfBoundsException") hown [] (⟨0, 10, 13, 13⟩ : ExceptionTableEntry) [(⟨0, 10, 17, 15⟩ : ExceptionTableEntry), (⟨0, 10, 21, 17⟩ : ExceptionTableEntry)] (htab.trans rfl) ?_ rfl (by decide : (13 : Nat) ≠ 0) (hts _ jq_6_9) (va_Nw.use rfl (hK0.2 _ jn_57)) hce hcv hcl ?_
      · intro z hz
        exact absurd hz List.not_mem_nil
      · refine lv_astore (lv' := [(4, .ref q), (0, .ref (B 9 0)), (1, .int v1), (2, .int v2), (3, .ref o)]) hx hb dL_sell_13 hl (by decide) rfl (fun ls hl => ?_)
        refine lv_iconst (v := 1) hx hb dL_sell_15 (by decide) ?_
        exact hRet C dL_sell_16 (Nat.le_of_ble_eq_true rfl) (Nat.le_of_ble_eq_true rfl) hP hS
    · have ek : hk_sell r.1 = 2 := by rw [hk]; rfl
      rw [ek]
      rw [hk] at hcl
      have hcl : s.vm.findClass "java/lang/IllegalArgumentException" = some ce.cls := hcl
      refine vx_catch (own := RL) (name := "java/lang/IllegalArgumentException") (E := "java/lang/IllegalArgumentException") hown [(⟨0, 10, 13, 13⟩ : ExceptionTableEntry)] (⟨0, 10, 17, 15⟩ : ExceptionTableEntry) [(⟨0, 10, 21, 17⟩ : ExceptionTableEntry)] (htab.trans rfl) ?_ rfl (by decide : (15 : Nat) ≠ 0) (hts _ jq_6_10) (va_Nw.use rfl (hK0.2 _ jn_58)) hce hcv hcl ?_
      · intro z hz
        rcases List.mem_cons.mp hz with rfl | hz
        · exact Or.inr ⟨(by decide : (13 : Nat) ≠ 0), "java/lang/IndexOutOfBoundsException", hts _ jq_6_9, hC 2 1 (by decide) (by decide) (by decide) (by decide) (by decide)⟩
        exact absurd hz List.not_mem_nil
      · refine lv_astore (lv' := [(4, .ref q), (0, .ref (B 9 0)), (1, .int v1), (2, .int v2), (3, .ref o)]) hx hb dL_sell_17 hl (by decide) rfl (fun ls hl => ?_)
        refine lv_iconst (v := 2) hx hb dL_sell_19 (by decide) ?_
        exact hRet C dL_sell_20 (Nat.le_of_ble_eq_true rfl) (Nat.le_of_ble_eq_true rfl) hP hS
    · have ek : hk_sell r.1 = 3 := by rw [hk]; rfl
      rw [ek]
      rw [hk] at hcl
      have hcl : s.vm.findClass "java/lang/UnsupportedOperationException" = some ce.cls := hcl
      refine vx_catch (own := RL) (name := "java/lang/UnsupportedOperationException") (E := "java/lang/UnsupportedOperationException") hown [(⟨0, 10, 13, 13⟩ : ExceptionTableEntry), (⟨0, 10, 17, 15⟩ : ExceptionTableEntry)] (⟨0, 10, 21, 17⟩ : ExceptionTableEntry) [] (htab.trans rfl) ?_ rfl (by decide : (17 : Nat) ≠ 0) (hts _ jq_6_11) (va_Nw.use rfl (hK0.2 _ jn_60)) hce hcv hcl ?_
      · intro z hz
        rcases List.mem_cons.mp hz with rfl | hz
        · exact Or.inr ⟨(by decide : (13 : Nat) ≠ 0), "java/lang/IndexOutOfBoundsException", hts _ jq_6_9, hC 4 1 (by decide) (by decide) (by decide) (by decide) (by decide)⟩
        rcases List.mem_cons.mp hz with rfl | hz
        · exact Or.inr ⟨(by decide : (15 : Nat) ≠ 0), "java/lang/IllegalArgumentException", hts _ jq_6_10, hC 4 2 (by decide) (by decide) (by decide) (by decide) (by decide)⟩
        exact absurd hz List.not_mem_nil
      · refine lv_astore (lv' := [(4, .ref q), (0, .ref (B 9 0)), (1, .int v1), (2, .int v2), (3, .ref o)]) hx hb dL_sell_21 hl (by decide) rfl (fun ls hl => ?_)
        refine lv_iconst (v := 3) hx hb dL_sell_23 (by decide) ?_
        exact hRet C dL_sell_24 (Nat.le_of_ble_eq_true rfl) (Nat.le_of_ble_eq_true rfl) hP hS
def hk_refund (k : Int32) : Int32 := if k = 1 then 1 else if k = 2 then 2 else if k = 4 then 3 else 0
set_option maxHeartbeats 4000000 in
set_option maxRecDepth 100000 in
theorem kh_refund (l : Launch) (hl0 : l.stackTraces = false) (D : va_G) (G : Nat → ClassId) (B : Nat → Nat → Nat) (ks va : Nat → Nat) (o : Nat) (f : Nat → Int64) (N : Nat) (S : Nat → Nat → Nat → Int32) (v1 v2 : Int32) (r : Int32 × Int32 × (Nat → Nat → Nat → Int32)) (hV : F_X8_refund N S v1 v2 = some r) (hk : r.1 = 0 ∨ r.1 = 1 ∨ r.1 = 2 ∨ r.1 = 4) : hM l yL_refund (Cond.codeWith yL_refund cL_refund 5 (some .int) [(0, 10, 13, 13), (0, 10, 17, 15), (0, 10, 21, 17)] :: jw) ({ frames := 10, cells := 3, slots := 18, locals := 233 } : Room) [.ref (B 9 0), .int v1, .int v2, .ref o] D G ks va (wTS B G S ++ [((o, .inl (G 3, 1, .inr (.inl f))) : Nat × va_E)]) (wTS B G r.2.2 ++ [((o, .inl (G 3, 1, .inr (.inl (hO r.1 f r.2.1)))) : Nat × va_E)]) (hk_refund r.1) := by
  refine hM_of (by decide +kernel) (Nat.le_of_ble_eq_true rfl) (fun p e s m args below meth c ls A C htab hP hD hA hZ hC hl => ?_)
  have C : Cx p s m args meth c cL_refund 5 RL (some .int) D G := C
  obtain ⟨hx, hb, hr, hml, hts, hown, hlocks, hK0⟩ := id C
  have hK := hK0.1
  have hS : va_S A s.heap s.heap [] := va_S.rf
  have hl : lv_has ls 5 [(0, .ref (B 9 0)), (1, .int v1), (2, .int v2), (3, .ref o)] := hl
  refine lv_aload_n hx hb dL_refund_0 rfl (lv_at hl 3 rfl) ?_
  refine lv_iconst (v := 0) hx hb dL_refund_1 (by decide) ?_
  refine lv_aload_n hx hb dL_refund_2 rfl (lv_at hl 0 rfl) ?_
  refine lv_iload_n hx hb dL_refund_3 rfl (lv_at hl 1 rfl) ?_
  refine lv_iload_n hx hb dL_refund_4 rfl (lv_at hl 2 rfl) ?_
  refine jVx C dL_refund_5 (k_X8_refund l hl0 D G B ks va N S v1 v2 r hV) jy_X8_refund jq_32_10 jq_32_11 jq_32_12 ⟨Nat.le_of_ble_eq_true rfl, Nat.le_of_ble_eq_true rfl⟩ ⟨Nat.le_of_ble_eq_true rfl, Nat.le_of_ble_eq_true rfl⟩ hZ (jMidP (pre := []) (mid := wTS B G S) (post := [((o, .inl (G 3, 1, .inr (.inl f))) : Nat × va_E)]) hP) (jMidD (pre := []) (mid := wTS B G S) (post := [((o, .inl (G 3, 1, .inr (.inl f))) : Nat × va_E)]) hD) hA hS (ci := 10) (iw := 0) rfl rfl rfl hl (As := [.int v1, .int v2]) (rest := [.int 0, .ref o]) rfl (Nat.le_of_ble_eq_true rfl) (fun H1 locs hQ hz hkp hS => ?_)
  have hP : va_P D vwCl (wTS B G r.2.2 ++ [((o, .inl (G 3, 1, .inr (.inl f))) : Nat × va_E)]) H1 := jMidJoin (pre := ([] : va_W)) (mid := wTS B G S) (mid' := wTS B G r.2.2) (post := [((o, .inl (G 3, 1, .inr (.inl f))) : Nat × va_E)]) hP hD hkp hQ
  have hD := jDT r.2.2 hD
  clear hQ hz hkp
  refine ⟨fun hk0 => ?_, fun hkn ce q hce hcv hcl => ?_⟩
  · have ek : hk_refund r.1 = 0 := by rw [hk0]; rfl
    have eo : (hO r.1 f r.2.1) = vp_updL f (0 : Int32).toNatClampNeg r.2.1.toInt64 := if_pos hk0
    rw [ek, eo]
    refine lv_i2l hx hb dL_refund_8 rfl ?_
    refine va_last (D := D) (n := 1) (f := f) hx hb hK hP hD hS (wTS B G r.2.2).length 3 (jLast _ _) rfl (inb_of (by decide)) dL_refund_9 (fun H2 locs hP hD hS => ?_)
    rw [jSetLast] at hP hD
    refine lv_goto (tgt := 25) hx hb dL_refund_10 (by decide) ?_
    refine lv_iconst (v := 0) hx hb dL_refund_25 (by decide) ?_
    exact hRet C dL_refund_26 (Nat.le_of_ble_eq_true rfl) (Nat.le_of_ble_eq_true rfl) hP hS
  · have eo : (hO r.1 f r.2.1) = f := if_neg hkn
    rw [eo]
    rcases hk with hk | hk | hk | hk
    · exact absurd hk hkn
    · have ek : hk_refund r.1 = 1 := by rw [hk]; rfl
      rw [ek]
      rw [hk] at hcl
      have hcl : s.vm.findClass "java/lang/IndexOutOfBoundsException" = some ce.cls := hcl
      refine vx_catch (own := RL) (name := "java/lang/IndexOutOfBoundsException") (E := "java/lang/IndexOutOfBoundsException") hown [] (⟨0, 10, 13, 13⟩ : ExceptionTableEntry) [(⟨0, 10, 17, 15⟩ : ExceptionTableEntry), (⟨0, 10, 21, 17⟩ : ExceptionTableEntry)] (htab.trans rfl) ?_ rfl (by decide : (13 : Nat) ≠ 0) (hts _ jq_6_9) (va_Nw.use rfl (hK0.2 _ jn_57)) hce hcv hcl ?_
      · intro z hz
        exact absurd hz List.not_mem_nil
      · refine lv_astore (lv' := [(4, .ref q), (0, .ref (B 9 0)), (1, .int v1), (2, .int v2), (3, .ref o)]) hx hb dL_refund_13 hl (by decide) rfl (fun ls hl => ?_)
        refine lv_iconst (v := 1) hx hb dL_refund_15 (by decide) ?_
        exact hRet C dL_refund_16 (Nat.le_of_ble_eq_true rfl) (Nat.le_of_ble_eq_true rfl) hP hS
    · have ek : hk_refund r.1 = 2 := by rw [hk]; rfl
      rw [ek]
      rw [hk] at hcl
      have hcl : s.vm.findClass "java/lang/IllegalArgumentException" = some ce.cls := hcl
      refine vx_catch (own := RL) (name := "java/lang/IllegalArgumentException") (E := "java/lang/IllegalArgumentException") hown [(⟨0, 10, 13, 13⟩ : ExceptionTableEntry)] (⟨0, 10, 17, 15⟩ : ExceptionTableEntry) [(⟨0, 10, 21, 17⟩ : ExceptionTableEntry)] (htab.trans rfl) ?_ rfl (by decide : (15 : Nat) ≠ 0) (hts _ jq_6_10) (va_Nw.use rfl (hK0.2 _ jn_58)) hce hcv hcl ?_
      · intro z hz
        rcases List.mem_cons.mp hz with rfl | hz
        · exact Or.inr ⟨(by decide : (13 : Nat) ≠ 0), "java/lang/IndexOutOfBoundsException", hts _ jq_6_9, hC 2 1 (by decide) (by decide) (by decide) (by decide) (by decide)⟩
        exact absurd hz List.not_mem_nil
      · refine lv_astore (lv' := [(4, .ref q), (0, .ref (B 9 0)), (1, .int v1), (2, .int v2), (3, .ref o)]) hx hb dL_refund_17 hl (by decide) rfl (fun ls hl => ?_)
        refine lv_iconst (v := 2) hx hb dL_refund_19 (by decide) ?_
        exact hRet C dL_refund_20 (Nat.le_of_ble_eq_true rfl) (Nat.le_of_ble_eq_true rfl) hP hS
    · have ek : hk_refund r.1 = 3 := by rw [hk]; rfl
      rw [ek]
      rw [hk] at hcl
      have hcl : s.vm.findClass "java/lang/UnsupportedOperationException" = some ce.cls := hcl
      refine vx_catch (own := RL) (name := "java/lang/UnsupportedOperationException") (E := "java/lang/UnsupportedOperationException") hown [(⟨0, 10, 13, 13⟩ : ExceptionTableEntry), (⟨0, 10, 17, 15⟩ : ExceptionTableEntry)] (⟨0, 10, 21, 17⟩ : ExceptionTableEntry) [] (htab.trans rfl) ?_ rfl (by decide : (17 : Nat) ≠ 0) (hts _ jq_6_11) (va_Nw.use rfl (hK0.2 _ jn_60)) hce hcv hcl ?_
      · intro z hz
        rcases List.mem_cons.mp hz with rfl | hz
        · exact Or.inr ⟨(by decide : (13 : Nat) ≠ 0), "java/lang/IndexOutOfBoundsException", hts _ jq_6_9, hC 4 1 (by decide) (by decide) (by decide) (by decide) (by decide)⟩
        rcases List.mem_cons.mp hz with rfl | hz
        · exact Or.inr ⟨(by decide : (15 : Nat) ≠ 0), "java/lang/IllegalArgumentException", hts _ jq_6_10, hC 4 2 (by decide) (by decide) (by decide) (by decide) (by decide)⟩
        exact absurd hz List.not_mem_nil
      · refine lv_astore (lv' := [(4, .ref q), (0, .ref (B 9 0)), (1, .int v1), (2, .int v2), (3, .ref o)]) hx hb dL_refund_21 hl (by decide) rfl (fun ls hl => ?_)
        refine lv_iconst (v := 3) hx hb dL_refund_23 (by decide) ?_
        exact hRet C dL_refund_24 (Nat.le_of_ble_eq_true rfl) (Nat.le_of_ble_eq_true rfl) hP hS
def hk_request (k : Int32) : Int32 := if k = 1 then 1 else if k = 2 then 2 else if k = 4 then 3 else 0
set_option maxHeartbeats 4000000 in
set_option maxRecDepth 100000 in
theorem kh_request (l : Launch) (hl0 : l.stackTraces = false) (D : va_G) (G : Nat → ClassId) (B : Nat → Nat → Nat) (ks va : Nat → Nat) (o : Nat) (f : Nat → Int64) (N : Nat) (S : Nat → Nat → Nat → Int32) (v1 v2 v3 : Int32) (r : Int32 × Int32 × (Nat → Nat → Nat → Int32)) (hV : F_X8_request N S v1 v2 v3 = some r) (hk : r.1 = 0 ∨ r.1 = 1 ∨ r.1 = 2 ∨ r.1 = 4) : hM l yL_request (Cond.codeWith yL_request cL_request 6 (some .int) [(0, 12, 15, 13), (0, 12, 19, 15), (0, 12, 23, 17)] :: jw) ({ frames := 10, cells := 3, slots := 18, locals := 234 } : Room) [.ref (B 9 0), .int v1, .int v2, .int v3, .ref o] D G ks va (wTS B G S ++ [((o, .inl (G 3, 1, .inr (.inl f))) : Nat × va_E)]) (wTS B G r.2.2 ++ [((o, .inl (G 3, 1, .inr (.inl (hO r.1 f r.2.1)))) : Nat × va_E)]) (hk_request r.1) := by
  refine hM_of (by decide +kernel) (Nat.le_of_ble_eq_true rfl) (fun p e s m args below meth c ls A C htab hP hD hA hZ hC hl => ?_)
  have C : Cx p s m args meth c cL_request 6 RL (some .int) D G := C
  obtain ⟨hx, hb, hr, hml, hts, hown, hlocks, hK0⟩ := id C
  have hK := hK0.1
  have hS : va_S A s.heap s.heap [] := va_S.rf
  have hl : lv_has ls 6 [(0, .ref (B 9 0)), (1, .int v1), (2, .int v2), (3, .int v3), (4, .ref o)] := hl
  refine lv_aload hx hb dL_request_0 (lv_at hl 4 rfl) ?_
  refine lv_iconst (v := 0) hx hb dL_request_2 (by decide) ?_
  refine lv_aload_n hx hb dL_request_3 rfl (lv_at hl 0 rfl) ?_
  refine lv_iload_n hx hb dL_request_4 rfl (lv_at hl 1 rfl) ?_
  refine lv_iload_n hx hb dL_request_5 rfl (lv_at hl 2 rfl) ?_
  refine lv_iload_n hx hb dL_request_6 rfl (lv_at hl 3 rfl) ?_
  refine jVx C dL_request_7 (k_X8_request l hl0 D G B ks va N S v1 v2 v3 r hV) jy_X8_request jq_33_5 jq_33_6 jq_33_7 ⟨Nat.le_of_ble_eq_true rfl, Nat.le_of_ble_eq_true rfl⟩ ⟨Nat.le_of_ble_eq_true rfl, Nat.le_of_ble_eq_true rfl⟩ hZ (jMidP (pre := []) (mid := wTS B G S) (post := [((o, .inl (G 3, 1, .inr (.inl f))) : Nat × va_E)]) hP) (jMidD (pre := []) (mid := wTS B G S) (post := [((o, .inl (G 3, 1, .inr (.inl f))) : Nat × va_E)]) hD) hA hS (ci := 10) (iw := 0) rfl rfl rfl hl (As := [.int v1, .int v2, .int v3]) (rest := [.int 0, .ref o]) rfl (Nat.le_of_ble_eq_true rfl) (fun H1 locs hQ hz hkp hS => ?_)
  have hP : va_P D vwCl (wTS B G r.2.2 ++ [((o, .inl (G 3, 1, .inr (.inl f))) : Nat × va_E)]) H1 := jMidJoin (pre := ([] : va_W)) (mid := wTS B G S) (mid' := wTS B G r.2.2) (post := [((o, .inl (G 3, 1, .inr (.inl f))) : Nat × va_E)]) hP hD hkp hQ
  have hD := jDT r.2.2 hD
  clear hQ hz hkp
  refine ⟨fun hk0 => ?_, fun hkn ce q hce hcv hcl => ?_⟩
  · have ek : hk_request r.1 = 0 := by rw [hk0]; rfl
    have eo : (hO r.1 f r.2.1) = vp_updL f (0 : Int32).toNatClampNeg r.2.1.toInt64 := if_pos hk0
    rw [ek, eo]
    refine lv_i2l hx hb dL_request_10 rfl ?_
    refine va_last (D := D) (n := 1) (f := f) hx hb hK hP hD hS (wTS B G r.2.2).length 3 (jLast _ _) rfl (inb_of (by decide)) dL_request_11 (fun H2 locs hP hD hS => ?_)
    rw [jSetLast] at hP hD
    refine lv_goto (tgt := 27) hx hb dL_request_12 (by decide) ?_
    refine lv_iconst (v := 0) hx hb dL_request_27 (by decide) ?_
    exact hRet C dL_request_28 (Nat.le_of_ble_eq_true rfl) (Nat.le_of_ble_eq_true rfl) hP hS
  · have eo : (hO r.1 f r.2.1) = f := if_neg hkn
    rw [eo]
    rcases hk with hk | hk | hk | hk
    · exact absurd hk hkn
    · have ek : hk_request r.1 = 1 := by rw [hk]; rfl
      rw [ek]
      rw [hk] at hcl
      have hcl : s.vm.findClass "java/lang/IndexOutOfBoundsException" = some ce.cls := hcl
      refine vx_catch (own := RL) (name := "java/lang/IndexOutOfBoundsException") (E := "java/lang/IndexOutOfBoundsException") hown [] (⟨0, 12, 15, 13⟩ : ExceptionTableEntry) [(⟨0, 12, 19, 15⟩ : ExceptionTableEntry), (⟨0, 12, 23, 17⟩ : ExceptionTableEntry)] (htab.trans rfl) ?_ rfl (by decide : (13 : Nat) ≠ 0) (hts _ jq_6_9) (va_Nw.use rfl (hK0.2 _ jn_57)) hce hcv hcl ?_
      · intro z hz
        exact absurd hz List.not_mem_nil
      · refine lv_astore (lv' := [(5, .ref q), (0, .ref (B 9 0)), (1, .int v1), (2, .int v2), (3, .int v3), (4, .ref o)]) hx hb dL_request_15 hl (by decide) rfl (fun ls hl => ?_)
        refine lv_iconst (v := 1) hx hb dL_request_17 (by decide) ?_
        exact hRet C dL_request_18 (Nat.le_of_ble_eq_true rfl) (Nat.le_of_ble_eq_true rfl) hP hS
    · have ek : hk_request r.1 = 2 := by rw [hk]; rfl
      rw [ek]
      rw [hk] at hcl
      have hcl : s.vm.findClass "java/lang/IllegalArgumentException" = some ce.cls := hcl
      refine vx_catch (own := RL) (name := "java/lang/IllegalArgumentException") (E := "java/lang/IllegalArgumentException") hown [(⟨0, 12, 15, 13⟩ : ExceptionTableEntry)] (⟨0, 12, 19, 15⟩ : ExceptionTableEntry) [(⟨0, 12, 23, 17⟩ : ExceptionTableEntry)] (htab.trans rfl) ?_ rfl (by decide : (15 : Nat) ≠ 0) (hts _ jq_6_10) (va_Nw.use rfl (hK0.2 _ jn_58)) hce hcv hcl ?_
      · intro z hz
        rcases List.mem_cons.mp hz with rfl | hz
        · exact Or.inr ⟨(by decide : (13 : Nat) ≠ 0), "java/lang/IndexOutOfBoundsException", hts _ jq_6_9, hC 2 1 (by decide) (by decide) (by decide) (by decide) (by decide)⟩
        exact absurd hz List.not_mem_nil
      · refine lv_astore (lv' := [(5, .ref q), (0, .ref (B 9 0)), (1, .int v1), (2, .int v2), (3, .int v3), (4, .ref o)]) hx hb dL_request_19 hl (by decide) rfl (fun ls hl => ?_)
        refine lv_iconst (v := 2) hx hb dL_request_21 (by decide) ?_
        exact hRet C dL_request_22 (Nat.le_of_ble_eq_true rfl) (Nat.le_of_ble_eq_true rfl) hP hS
    · have ek : hk_request r.1 = 3 := by rw [hk]; rfl
      rw [ek]
      rw [hk] at hcl
      have hcl : s.vm.findClass "java/lang/UnsupportedOperationException" = some ce.cls := hcl
      refine vx_catch (own := RL) (name := "java/lang/UnsupportedOperationException") (E := "java/lang/UnsupportedOperationException") hown [(⟨0, 12, 15, 13⟩ : ExceptionTableEntry), (⟨0, 12, 19, 15⟩ : ExceptionTableEntry)] (⟨0, 12, 23, 17⟩ : ExceptionTableEntry) [] (htab.trans rfl) ?_ rfl (by decide : (17 : Nat) ≠ 0) (hts _ jq_6_11) (va_Nw.use rfl (hK0.2 _ jn_60)) hce hcv hcl ?_
      · intro z hz
        rcases List.mem_cons.mp hz with rfl | hz
        · exact Or.inr ⟨(by decide : (13 : Nat) ≠ 0), "java/lang/IndexOutOfBoundsException", hts _ jq_6_9, hC 4 1 (by decide) (by decide) (by decide) (by decide) (by decide)⟩
        rcases List.mem_cons.mp hz with rfl | hz
        · exact Or.inr ⟨(by decide : (15 : Nat) ≠ 0), "java/lang/IllegalArgumentException", hts _ jq_6_10, hC 4 2 (by decide) (by decide) (by decide) (by decide) (by decide)⟩
        exact absurd hz List.not_mem_nil
      · refine lv_astore (lv' := [(5, .ref q), (0, .ref (B 9 0)), (1, .int v1), (2, .int v2), (3, .int v3), (4, .ref o)]) hx hb dL_request_23 hl (by decide) rfl (fun ls hl => ?_)
        refine lv_iconst (v := 3) hx hb dL_request_25 (by decide) ?_
        exact hRet C dL_request_26 (Nat.le_of_ble_eq_true rfl) (Nat.le_of_ble_eq_true rfl) hP hS
def hk_waiting (k : Int32) : Int32 := if k = 1 then 1 else if k = 5 then 2 else 0
set_option maxHeartbeats 4000000 in
set_option maxRecDepth 100000 in
theorem kh_waiting (l : Launch) (hl0 : l.stackTraces = false) (D : va_G) (G : Nat → ClassId) (B : Nat → Nat → Nat) (ks va : Nat → Nat) (o : Nat) (f : Nat → Int64) (N : Nat) (S : Nat → Nat → Nat → Int32) (v1 v2 v3 : Int32) (r : Int32 × Int32 × (Nat → Nat → Nat → Int32)) (hV : F_X8_waiting N S v1 v2 v3 = some r) (hk : r.1 = 0 ∨ r.1 = 1 ∨ r.1 = 5) : hM l yL_waiting (Cond.codeWith yL_waiting cL_waiting 6 (some .int) [(0, 12, 15, 13), (0, 12, 19, 51)] :: jw) ({ frames := 9, cells := 2, slots := 12, locals := 144 } : Room) [.ref (B 9 0), .int v1, .int v2, .int v3, .ref o] D G ks va (wTS B G S ++ [((o, .inl (G 3, 1, .inr (.inl f))) : Nat × va_E)]) (wTS B G r.2.2 ++ [((o, .inl (G 3, 1, .inr (.inl (hO r.1 f r.2.1)))) : Nat × va_E)]) (hk_waiting r.1) := by
  refine hM_of (by decide +kernel) (Nat.le_of_ble_eq_true rfl) (fun p e s m args below meth c ls A C htab hP hD hA hZ hC hl => ?_)
  have C : Cx p s m args meth c cL_waiting 6 RL (some .int) D G := C
  obtain ⟨hx, hb, hr, hml, hts, hown, hlocks, hK0⟩ := id C
  have hK := hK0.1
  have hS : va_S A s.heap s.heap [] := va_S.rf
  have hl : lv_has ls 6 [(0, .ref (B 9 0)), (1, .int v1), (2, .int v2), (3, .int v3), (4, .ref o)] := hl
  refine lv_aload hx hb dL_waiting_0 (lv_at hl 4 rfl) ?_
  refine lv_iconst (v := 0) hx hb dL_waiting_2 (by decide) ?_
  refine lv_aload_n hx hb dL_waiting_3 rfl (lv_at hl 0 rfl) ?_
  refine lv_iload_n hx hb dL_waiting_4 rfl (lv_at hl 1 rfl) ?_
  refine lv_iload_n hx hb dL_waiting_5 rfl (lv_at hl 2 rfl) ?_
  refine lv_iload_n hx hb dL_waiting_6 rfl (lv_at hl 3 rfl) ?_
  refine jVx C dL_waiting_7 (k_X8_waiting l hl0 D G B ks va N S v1 v2 v3 r hV) jy_X8_waiting jq_34_8 jq_34_9 jq_34_10 ⟨Nat.le_of_ble_eq_true rfl, Nat.le_of_ble_eq_true rfl⟩ ⟨Nat.le_of_ble_eq_true rfl, Nat.le_of_ble_eq_true rfl⟩ hZ (jMidP (pre := []) (mid := wTS B G S) (post := [((o, .inl (G 3, 1, .inr (.inl f))) : Nat × va_E)]) hP) (jMidD (pre := []) (mid := wTS B G S) (post := [((o, .inl (G 3, 1, .inr (.inl f))) : Nat × va_E)]) hD) hA hS (ci := 10) (iw := 0) rfl rfl rfl hl (As := [.int v1, .int v2, .int v3]) (rest := [.int 0, .ref o]) rfl (Nat.le_of_ble_eq_true rfl) (fun H1 locs hQ hz hkp hS => ?_)
  have hP : va_P D vwCl (wTS B G r.2.2 ++ [((o, .inl (G 3, 1, .inr (.inl f))) : Nat × va_E)]) H1 := jMidJoin (pre := ([] : va_W)) (mid := wTS B G S) (mid' := wTS B G r.2.2) (post := [((o, .inl (G 3, 1, .inr (.inl f))) : Nat × va_E)]) hP hD hkp hQ
  have hD := jDT r.2.2 hD
  clear hQ hz hkp
  refine ⟨fun hk0 => ?_, fun hkn ce q hce hcv hcl => ?_⟩
  · have ek : hk_waiting r.1 = 0 := by rw [hk0]; rfl
    have eo : (hO r.1 f r.2.1) = vp_updL f (0 : Int32).toNatClampNeg r.2.1.toInt64 := if_pos hk0
    rw [ek, eo]
    refine lv_i2l hx hb dL_waiting_10 rfl ?_
    refine va_last (D := D) (n := 1) (f := f) hx hb hK hP hD hS (wTS B G r.2.2).length 3 (jLast _ _) rfl (inb_of (by decide)) dL_waiting_11 (fun H2 locs hP hD hS => ?_)
    rw [jSetLast] at hP hD
    refine lv_goto (tgt := 23) hx hb dL_waiting_12 (by decide) ?_
    refine lv_iconst (v := 0) hx hb dL_waiting_23 (by decide) ?_
    exact hRet C dL_waiting_24 (Nat.le_of_ble_eq_true rfl) (Nat.le_of_ble_eq_true rfl) hP hS
  · have eo : (hO r.1 f r.2.1) = f := if_neg hkn
    rw [eo]
    rcases hk with hk | hk | hk
    · exact absurd hk hkn
    · have ek : hk_waiting r.1 = 1 := by rw [hk]; rfl
      rw [ek]
      rw [hk] at hcl
      have hcl : s.vm.findClass "java/lang/IndexOutOfBoundsException" = some ce.cls := hcl
      refine vx_catch (own := RL) (name := "java/lang/IndexOutOfBoundsException") (E := "java/lang/IndexOutOfBoundsException") hown [] (⟨0, 12, 15, 13⟩ : ExceptionTableEntry) [(⟨0, 12, 19, 51⟩ : ExceptionTableEntry)] (htab.trans rfl) ?_ rfl (by decide : (13 : Nat) ≠ 0) (hts _ jq_6_9) (va_Nw.use rfl (hK0.2 _ jn_57)) hce hcv hcl ?_
      · intro z hz
        exact absurd hz List.not_mem_nil
      · refine lv_astore (lv' := [(5, .ref q), (0, .ref (B 9 0)), (1, .int v1), (2, .int v2), (3, .int v3), (4, .ref o)]) hx hb dL_waiting_15 hl (by decide) rfl (fun ls hl => ?_)
        refine lv_iconst (v := 1) hx hb dL_waiting_17 (by decide) ?_
        exact hRet C dL_waiting_18 (Nat.le_of_ble_eq_true rfl) (Nat.le_of_ble_eq_true rfl) hP hS
    · have ek : hk_waiting r.1 = 2 := by rw [hk]; rfl
      rw [ek]
      rw [hk] at hcl
      have hcl : s.vm.findClass "java/util/NoSuchElementException" = some ce.cls := hcl
      refine vx_catch (own := RL) (name := "java/util/NoSuchElementException") (E := "java/util/NoSuchElementException") hown [(⟨0, 12, 15, 13⟩ : ExceptionTableEntry)] (⟨0, 12, 19, 51⟩ : ExceptionTableEntry) [] (htab.trans rfl) ?_ rfl (by decide : (51 : Nat) ≠ 0) (hts _ jq_28_4) (va_Nw.use rfl (hK0.2 _ jn_61)) hce hcv hcl ?_
      · intro z hz
        rcases List.mem_cons.mp hz with rfl | hz
        · exact Or.inr ⟨(by decide : (13 : Nat) ≠ 0), "java/lang/IndexOutOfBoundsException", hts _ jq_6_9, hC 5 1 (by decide) (by decide) (by decide) (by decide) (by decide)⟩
        exact absurd hz List.not_mem_nil
      · refine lv_astore (lv' := [(5, .ref q), (0, .ref (B 9 0)), (1, .int v1), (2, .int v2), (3, .int v3), (4, .ref o)]) hx hb dL_waiting_19 hl (by decide) rfl (fun ls hl => ?_)
        refine lv_iconst (v := 2) hx hb dL_waiting_21 (by decide) ?_
        exact hRet C dL_waiting_22 (Nat.le_of_ble_eq_true rfl) (Nat.le_of_ble_eq_true rfl) hP hS
def hk_seats (k : Int32) : Int32 := if k = 2 then 1 else 0
set_option maxHeartbeats 4000000 in
set_option maxRecDepth 100000 in
theorem kh_seats (l : Launch) (hl0 : l.stackTraces = false) (D : va_G) (G : Nat → ClassId) (B : Nat → Nat → Nat) (ks va : Nat → Nat) (o : Nat) (f : Nat → Int64) (N : Nat) (S : Nat → Nat → Nat → Int32) (v1 v2 : Int32) (r : Int32 × Int32 × (Nat → Nat → Nat → Int32)) (hV : F_X8_seats N S v1 v2 = some r) (hk : r.1 = 0 ∨ r.1 = 2) : hM l yL_seats (Cond.codeWith yL_seats cL_seats 5 (some .int) [(0, 10, 13, 15)] :: jw) ({ frames := 9, cells := 1, slots := 6, locals := 144 } : Room) [.ref (B 9 0), .int v1, .int v2, .ref o] D G ks va (wTS B G S ++ [((o, .inl (G 3, 1, .inr (.inl f))) : Nat × va_E)]) (wTS B G r.2.2 ++ [((o, .inl (G 3, 1, .inr (.inl (hO r.1 f r.2.1)))) : Nat × va_E)]) (hk_seats r.1) := by
  refine hM_of (by decide +kernel) (Nat.le_of_ble_eq_true rfl) (fun p e s m args below meth c ls A C htab hP hD hA hZ hC hl => ?_)
  have C : Cx p s m args meth c cL_seats 5 RL (some .int) D G := C
  obtain ⟨hx, hb, hr, hml, hts, hown, hlocks, hK0⟩ := id C
  have hK := hK0.1
  have hS : va_S A s.heap s.heap [] := va_S.rf
  have hl : lv_has ls 5 [(0, .ref (B 9 0)), (1, .int v1), (2, .int v2), (3, .ref o)] := hl
  refine lv_aload_n hx hb dL_seats_0 rfl (lv_at hl 3 rfl) ?_
  refine lv_iconst (v := 0) hx hb dL_seats_1 (by decide) ?_
  refine lv_aload_n hx hb dL_seats_2 rfl (lv_at hl 0 rfl) ?_
  refine lv_iload_n hx hb dL_seats_3 rfl (lv_at hl 1 rfl) ?_
  refine lv_iload_n hx hb dL_seats_4 rfl (lv_at hl 2 rfl) ?_
  refine jVx C dL_seats_5 (k_X8_seats l hl0 D G B ks va N S v1 v2 r hV) jy_X8_seats jq_34_20 jq_34_21 jq_34_22 ⟨Nat.le_of_ble_eq_true rfl, Nat.le_of_ble_eq_true rfl⟩ ⟨Nat.le_of_ble_eq_true rfl, Nat.le_of_ble_eq_true rfl⟩ hZ (jMidP (pre := []) (mid := wTS B G S) (post := [((o, .inl (G 3, 1, .inr (.inl f))) : Nat × va_E)]) hP) (jMidD (pre := []) (mid := wTS B G S) (post := [((o, .inl (G 3, 1, .inr (.inl f))) : Nat × va_E)]) hD) hA hS (ci := 10) (iw := 0) rfl rfl rfl hl (As := [.int v1, .int v2]) (rest := [.int 0, .ref o]) rfl (Nat.le_of_ble_eq_true rfl) (fun H1 locs hQ hz hkp hS => ?_)
  have hP : va_P D vwCl (wTS B G r.2.2 ++ [((o, .inl (G 3, 1, .inr (.inl f))) : Nat × va_E)]) H1 := jMidJoin (pre := ([] : va_W)) (mid := wTS B G S) (mid' := wTS B G r.2.2) (post := [((o, .inl (G 3, 1, .inr (.inl f))) : Nat × va_E)]) hP hD hkp hQ
  have hD := jDT r.2.2 hD
  clear hQ hz hkp
  refine ⟨fun hk0 => ?_, fun hkn ce q hce hcv hcl => ?_⟩
  · have ek : hk_seats r.1 = 0 := by rw [hk0]; rfl
    have eo : (hO r.1 f r.2.1) = vp_updL f (0 : Int32).toNatClampNeg r.2.1.toInt64 := if_pos hk0
    rw [ek, eo]
    refine lv_i2l hx hb dL_seats_8 rfl ?_
    refine va_last (D := D) (n := 1) (f := f) hx hb hK hP hD hS (wTS B G r.2.2).length 3 (jLast _ _) rfl (inb_of (by decide)) dL_seats_9 (fun H2 locs hP hD hS => ?_)
    rw [jSetLast] at hP hD
    refine lv_goto (tgt := 17) hx hb dL_seats_10 (by decide) ?_
    refine lv_iconst (v := 0) hx hb dL_seats_17 (by decide) ?_
    exact hRet C dL_seats_18 (Nat.le_of_ble_eq_true rfl) (Nat.le_of_ble_eq_true rfl) hP hS
  · have eo : (hO r.1 f r.2.1) = f := if_neg hkn
    rw [eo]
    rcases hk with hk | hk
    · exact absurd hk hkn
    · have ek : hk_seats r.1 = 1 := by rw [hk]; rfl
      rw [ek]
      rw [hk] at hcl
      have hcl : s.vm.findClass "java/lang/IllegalArgumentException" = some ce.cls := hcl
      refine vx_catch (own := RL) (name := "java/lang/IllegalArgumentException") (E := "java/lang/IllegalArgumentException") hown [] (⟨0, 10, 13, 15⟩ : ExceptionTableEntry) [] (htab.trans rfl) ?_ rfl (by decide : (15 : Nat) ≠ 0) (hts _ jq_6_10) (va_Nw.use rfl (hK0.2 _ jn_58)) hce hcv hcl ?_
      · intro z hz
        exact absurd hz List.not_mem_nil
      · refine lv_astore (lv' := [(4, .ref q), (0, .ref (B 9 0)), (1, .int v1), (2, .int v2), (3, .ref o)]) hx hb dL_seats_13 hl (by decide) rfl (fun ls hl => ?_)
        refine lv_iconst (v := 1) hx hb dL_seats_15 (by decide) ?_
        exact hRet C dL_seats_16 (Nat.le_of_ble_eq_true rfl) (Nat.le_of_ble_eq_true rfl) hP hS
def hk_seatsAgain (k : Int32) : Int32 := if k = 2 then 1 else 0
set_option maxHeartbeats 4000000 in
set_option maxRecDepth 100000 in
theorem kh_seatsAgain (l : Launch) (hl0 : l.stackTraces = false) (D : va_G) (G : Nat → ClassId) (B : Nat → Nat → Nat) (ks va : Nat → Nat) (o : Nat) (f : Nat → Int64) (N : Nat) (S : Nat → Nat → Nat → Int32) (v1 v2 : Int32) (r : Int32 × Int32 × (Nat → Nat → Nat → Int32)) (hV : F_X8_seatsAgain N S v1 v2 = some r) (hk : r.1 = 0 ∨ r.1 = 2) : hM l yL_seatsAgain (Cond.codeWith yL_seatsAgain cL_seatsAgain 5 (some .int) [(0, 10, 13, 15)] :: jw) ({ frames := 9, cells := 1, slots := 6, locals := 144 } : Room) [.ref (B 9 0), .int v1, .int v2, .ref o] D G ks va (wTS B G S ++ [((o, .inl (G 3, 1, .inr (.inl f))) : Nat × va_E)]) (wTS B G r.2.2 ++ [((o, .inl (G 3, 1, .inr (.inl (hO r.1 f r.2.1)))) : Nat × va_E)]) (hk_seatsAgain r.1) := by
  refine hM_of (by decide +kernel) (Nat.le_of_ble_eq_true rfl) (fun p e s m args below meth c ls A C htab hP hD hA hZ hC hl => ?_)
  have C : Cx p s m args meth c cL_seatsAgain 5 RL (some .int) D G := C
  obtain ⟨hx, hb, hr, hml, hts, hown, hlocks, hK0⟩ := id C
  have hK := hK0.1
  have hS : va_S A s.heap s.heap [] := va_S.rf
  have hl : lv_has ls 5 [(0, .ref (B 9 0)), (1, .int v1), (2, .int v2), (3, .ref o)] := hl
  refine lv_aload_n hx hb dL_seatsAgain_0 rfl (lv_at hl 3 rfl) ?_
  refine lv_iconst (v := 0) hx hb dL_seatsAgain_1 (by decide) ?_
  refine lv_aload_n hx hb dL_seatsAgain_2 rfl (lv_at hl 0 rfl) ?_
  refine lv_iload_n hx hb dL_seatsAgain_3 rfl (lv_at hl 1 rfl) ?_
  refine lv_iload_n hx hb dL_seatsAgain_4 rfl (lv_at hl 2 rfl) ?_
  refine jVx C dL_seatsAgain_5 (k_X8_seatsAgain l hl0 D G B ks va N S v1 v2 r hV) jy_X8_seatsAgain jq_35_14 jq_35_15 jq_35_16 ⟨Nat.le_of_ble_eq_true rfl, Nat.le_of_ble_eq_true rfl⟩ ⟨Nat.le_of_ble_eq_true rfl, Nat.le_of_ble_eq_true rfl⟩ hZ (jMidP (pre := []) (mid := wTS B G S) (post := [((o, .inl (G 3, 1, .inr (.inl f))) : Nat × va_E)]) hP) (jMidD (pre := []) (mid := wTS B G S) (post := [((o, .inl (G 3, 1, .inr (.inl f))) : Nat × va_E)]) hD) hA hS (ci := 10) (iw := 0) rfl rfl rfl hl (As := [.int v1, .int v2]) (rest := [.int 0, .ref o]) rfl (Nat.le_of_ble_eq_true rfl) (fun H1 locs hQ hz hkp hS => ?_)
  have hP : va_P D vwCl (wTS B G r.2.2 ++ [((o, .inl (G 3, 1, .inr (.inl f))) : Nat × va_E)]) H1 := jMidJoin (pre := ([] : va_W)) (mid := wTS B G S) (mid' := wTS B G r.2.2) (post := [((o, .inl (G 3, 1, .inr (.inl f))) : Nat × va_E)]) hP hD hkp hQ
  have hD := jDT r.2.2 hD
  clear hQ hz hkp
  refine ⟨fun hk0 => ?_, fun hkn ce q hce hcv hcl => ?_⟩
  · have ek : hk_seatsAgain r.1 = 0 := by rw [hk0]; rfl
    have eo : (hO r.1 f r.2.1) = vp_updL f (0 : Int32).toNatClampNeg r.2.1.toInt64 := if_pos hk0
    rw [ek, eo]
    refine lv_i2l hx hb dL_seatsAgain_8 rfl ?_
    refine va_last (D := D) (n := 1) (f := f) hx hb hK hP hD hS (wTS B G r.2.2).length 3 (jLast _ _) rfl (inb_of (by decide)) dL_seatsAgain_9 (fun H2 locs hP hD hS => ?_)
    rw [jSetLast] at hP hD
    refine lv_goto (tgt := 17) hx hb dL_seatsAgain_10 (by decide) ?_
    refine lv_iconst (v := 0) hx hb dL_seatsAgain_17 (by decide) ?_
    exact hRet C dL_seatsAgain_18 (Nat.le_of_ble_eq_true rfl) (Nat.le_of_ble_eq_true rfl) hP hS
  · have eo : (hO r.1 f r.2.1) = f := if_neg hkn
    rw [eo]
    rcases hk with hk | hk
    · exact absurd hk hkn
    · have ek : hk_seatsAgain r.1 = 1 := by rw [hk]; rfl
      rw [ek]
      rw [hk] at hcl
      have hcl : s.vm.findClass "java/lang/IllegalArgumentException" = some ce.cls := hcl
      refine vx_catch (own := RL) (name := "java/lang/IllegalArgumentException") (E := "java/lang/IllegalArgumentException") hown [] (⟨0, 10, 13, 15⟩ : ExceptionTableEntry) [] (htab.trans rfl) ?_ rfl (by decide : (15 : Nat) ≠ 0) (hts _ jq_6_10) (va_Nw.use rfl (hK0.2 _ jn_58)) hce hcv hcl ?_
      · intro z hz
        exact absurd hz List.not_mem_nil
      · refine lv_astore (lv' := [(4, .ref q), (0, .ref (B 9 0)), (1, .int v1), (2, .int v2), (3, .ref o)]) hx hb dL_seatsAgain_13 hl (by decide) rfl (fun ls hl => ?_)
        refine lv_iconst (v := 1) hx hb dL_seatsAgain_15 (by decide) ?_
        exact hRet C dL_seatsAgain_16 (Nat.le_of_ble_eq_true rfl) (Nat.le_of_ble_eq_true rfl) hP hS
def hk_subscribe (k : Int32) : Int32 := if k = 2 then 1 else if k = 3 then 2 else 0
set_option maxHeartbeats 4000000 in
set_option maxRecDepth 100000 in
theorem kh_subscribe (l : Launch) (hl0 : l.stackTraces = false) (D : va_G) (G : Nat → ClassId) (B : Nat → Nat → Nat) (ks va : Nat → Nat) (o : Nat) (f : Nat → Int64) (N : Nat) (S : Nat → Nat → Nat → Int32) (v1 : Int32) (r : Int32 × Int32 × (Nat → Nat → Nat → Int32)) (hV : F_X8_subscribe N S v1 = some r) (hk : r.1 = 0 ∨ r.1 = 2 ∨ r.1 = 3) : hM l yL_subscribe (Cond.codeWith yL_subscribe cL_subscribe 4 (some .int) [(0, 9, 12, 15), (0, 9, 15, 30)] :: jw) ({ frames := 10, cells := 3, slots := 18, locals := 232 } : Room) [.ref (B 9 0), .int v1, .ref o] D G ks va (wTS B G S ++ [((o, .inl (G 3, 1, .inr (.inl f))) : Nat × va_E)]) (wTS B G r.2.2 ++ [((o, .inl (G 3, 1, .inr (.inl (hO r.1 f r.2.1)))) : Nat × va_E)]) (hk_subscribe r.1) := by
  refine hM_of (by decide +kernel) (Nat.le_of_ble_eq_true rfl) (fun p e s m args below meth c ls A C htab hP hD hA hZ hC hl => ?_)
  have C : Cx p s m args meth c cL_subscribe 4 RL (some .int) D G := C
  obtain ⟨hx, hb, hr, hml, hts, hown, hlocks, hK0⟩ := id C
  have hK := hK0.1
  have hS : va_S A s.heap s.heap [] := va_S.rf
  have hl : lv_has ls 4 [(0, .ref (B 9 0)), (1, .int v1), (2, .ref o)] := hl
  refine lv_aload_n hx hb dL_subscribe_0 rfl (lv_at hl 2 rfl) ?_
  refine lv_iconst (v := 0) hx hb dL_subscribe_1 (by decide) ?_
  refine lv_aload_n hx hb dL_subscribe_2 rfl (lv_at hl 0 rfl) ?_
  refine lv_iload_n hx hb dL_subscribe_3 rfl (lv_at hl 1 rfl) ?_
  refine jVx C dL_subscribe_4 (k_X8_subscribe l hl0 D G B ks va N S v1 r hV) jy_X8_subscribe jq_36_11 jq_36_12 jq_36_13 ⟨Nat.le_of_ble_eq_true rfl, Nat.le_of_ble_eq_true rfl⟩ ⟨Nat.le_of_ble_eq_true rfl, Nat.le_of_ble_eq_true rfl⟩ hZ (jMidP (pre := []) (mid := wTS B G S) (post := [((o, .inl (G 3, 1, .inr (.inl f))) : Nat × va_E)]) hP) (jMidD (pre := []) (mid := wTS B G S) (post := [((o, .inl (G 3, 1, .inr (.inl f))) : Nat × va_E)]) hD) hA hS (ci := 10) (iw := 0) rfl rfl rfl hl (As := [.int v1]) (rest := [.int 0, .ref o]) rfl (Nat.le_of_ble_eq_true rfl) (fun H1 locs hQ hz hkp hS => ?_)
  have hP : va_P D vwCl (wTS B G r.2.2 ++ [((o, .inl (G 3, 1, .inr (.inl f))) : Nat × va_E)]) H1 := jMidJoin (pre := ([] : va_W)) (mid := wTS B G S) (mid' := wTS B G r.2.2) (post := [((o, .inl (G 3, 1, .inr (.inl f))) : Nat × va_E)]) hP hD hkp hQ
  have hD := jDT r.2.2 hD
  clear hQ hz hkp
  refine ⟨fun hk0 => ?_, fun hkn ce q hce hcv hcl => ?_⟩
  · have ek : hk_subscribe r.1 = 0 := by rw [hk0]; rfl
    have eo : (hO r.1 f r.2.1) = vp_updL f (0 : Int32).toNatClampNeg r.2.1.toInt64 := if_pos hk0
    rw [ek, eo]
    refine lv_i2l hx hb dL_subscribe_7 rfl ?_
    refine va_last (D := D) (n := 1) (f := f) hx hb hK hP hD hS (wTS B G r.2.2).length 3 (jLast _ _) rfl (inb_of (by decide)) dL_subscribe_8 (fun H2 locs hP hD hS => ?_)
    rw [jSetLast] at hP hD
    refine lv_goto (tgt := 18) hx hb dL_subscribe_9 (by decide) ?_
    refine lv_iconst (v := 0) hx hb dL_subscribe_18 (by decide) ?_
    exact hRet C dL_subscribe_19 (Nat.le_of_ble_eq_true rfl) (Nat.le_of_ble_eq_true rfl) hP hS
  · have eo : (hO r.1 f r.2.1) = f := if_neg hkn
    rw [eo]
    rcases hk with hk | hk | hk
    · exact absurd hk hkn
    · have ek : hk_subscribe r.1 = 1 := by rw [hk]; rfl
      rw [ek]
      rw [hk] at hcl
      have hcl : s.vm.findClass "java/lang/IllegalArgumentException" = some ce.cls := hcl
      refine vx_catch (own := RL) (name := "java/lang/IllegalArgumentException") (E := "java/lang/IllegalArgumentException") hown [] (⟨0, 9, 12, 15⟩ : ExceptionTableEntry) [(⟨0, 9, 15, 30⟩ : ExceptionTableEntry)] (htab.trans rfl) ?_ rfl (by decide : (15 : Nat) ≠ 0) (hts _ jq_6_10) (va_Nw.use rfl (hK0.2 _ jn_58)) hce hcv hcl ?_
      · intro z hz
        exact absurd hz List.not_mem_nil
      · refine lv_astore_n (lv' := [(3, .ref q), (0, .ref (B 9 0)), (1, .int v1), (2, .ref o)]) hx hb dL_subscribe_12 rfl hl (by decide) rfl (fun ls hl => ?_)
        refine lv_iconst (v := 1) hx hb dL_subscribe_13 (by decide) ?_
        exact hRet C dL_subscribe_14 (Nat.le_of_ble_eq_true rfl) (Nat.le_of_ble_eq_true rfl) hP hS
    · have ek : hk_subscribe r.1 = 2 := by rw [hk]; rfl
      rw [ek]
      rw [hk] at hcl
      have hcl : s.vm.findClass "java/lang/IllegalStateException" = some ce.cls := hcl
      refine vx_catch (own := RL) (name := "java/lang/IllegalStateException") (E := "java/lang/IllegalStateException") hown [(⟨0, 9, 12, 15⟩ : ExceptionTableEntry)] (⟨0, 9, 15, 30⟩ : ExceptionTableEntry) [] (htab.trans rfl) ?_ rfl (by decide : (30 : Nat) ≠ 0) (hts _ jq_19_17) (va_Nw.use rfl (hK0.2 _ jn_59)) hce hcv hcl ?_
      · intro z hz
        rcases List.mem_cons.mp hz with rfl | hz
        · exact Or.inr ⟨(by decide : (15 : Nat) ≠ 0), "java/lang/IllegalArgumentException", hts _ jq_6_10, hC 3 2 (by decide) (by decide) (by decide) (by decide) (by decide)⟩
        exact absurd hz List.not_mem_nil
      · refine lv_astore_n (lv' := [(3, .ref q), (0, .ref (B 9 0)), (1, .int v1), (2, .ref o)]) hx hb dL_subscribe_15 rfl hl (by decide) rfl (fun ls hl => ?_)
        refine lv_iconst (v := 2) hx hb dL_subscribe_16 (by decide) ?_
        exact hRet C dL_subscribe_17 (Nat.le_of_ble_eq_true rfl) (Nat.le_of_ble_eq_true rfl) hP hS
def hk_hold (k : Int32) : Int32 := if k = 1 then 1 else if k = 4 then 2 else 0
set_option maxHeartbeats 4000000 in
set_option maxRecDepth 100000 in
theorem kh_hold (l : Launch) (hl0 : l.stackTraces = false) (D : va_G) (G : Nat → ClassId) (B : Nat → Nat → Nat) (ks va : Nat → Nat) (o : Nat) (f : Nat → Int64) (N : Nat) (S : Nat → Nat → Nat → Int32) (v1 v2 : Int32) (r : Int32 × Int32 × (Nat → Nat → Nat → Int32)) (hV : F_X8_hold N S v1 v2 = some r) (hk : r.1 = 0 ∨ r.1 = 1 ∨ r.1 = 4) : hM l yL_hold (Cond.codeWith yL_hold cL_hold 5 (some .int) [(0, 10, 13, 13), (0, 10, 17, 17)] :: jw) ({ frames := 10, cells := 3, slots := 18, locals := 233 } : Room) [.ref (B 9 0), .int v1, .int v2, .ref o] D G ks va (wTS B G S ++ [((o, .inl (G 3, 1, .inr (.inl f))) : Nat × va_E)]) (wTS B G r.2.2 ++ [((o, .inl (G 3, 1, .inr (.inl (hO r.1 f r.2.1)))) : Nat × va_E)]) (hk_hold r.1) := by
  refine hM_of (by decide +kernel) (Nat.le_of_ble_eq_true rfl) (fun p e s m args below meth c ls A C htab hP hD hA hZ hC hl => ?_)
  have C : Cx p s m args meth c cL_hold 5 RL (some .int) D G := C
  obtain ⟨hx, hb, hr, hml, hts, hown, hlocks, hK0⟩ := id C
  have hK := hK0.1
  have hS : va_S A s.heap s.heap [] := va_S.rf
  have hl : lv_has ls 5 [(0, .ref (B 9 0)), (1, .int v1), (2, .int v2), (3, .ref o)] := hl
  refine lv_aload_n hx hb dL_hold_0 rfl (lv_at hl 3 rfl) ?_
  refine lv_iconst (v := 0) hx hb dL_hold_1 (by decide) ?_
  refine lv_aload_n hx hb dL_hold_2 rfl (lv_at hl 0 rfl) ?_
  refine lv_iload_n hx hb dL_hold_3 rfl (lv_at hl 1 rfl) ?_
  refine lv_iload_n hx hb dL_hold_4 rfl (lv_at hl 2 rfl) ?_
  refine jVx C dL_hold_5 (k_X8_hold l hl0 D G B ks va N S v1 v2 r hV) jy_X8_hold jq_37_11 jq_37_12 jq_37_13 ⟨Nat.le_of_ble_eq_true rfl, Nat.le_of_ble_eq_true rfl⟩ ⟨Nat.le_of_ble_eq_true rfl, Nat.le_of_ble_eq_true rfl⟩ hZ (jMidP (pre := []) (mid := wTS B G S) (post := [((o, .inl (G 3, 1, .inr (.inl f))) : Nat × va_E)]) hP) (jMidD (pre := []) (mid := wTS B G S) (post := [((o, .inl (G 3, 1, .inr (.inl f))) : Nat × va_E)]) hD) hA hS (ci := 10) (iw := 0) rfl rfl rfl hl (As := [.int v1, .int v2]) (rest := [.int 0, .ref o]) rfl (Nat.le_of_ble_eq_true rfl) (fun H1 locs hQ hz hkp hS => ?_)
  have hP : va_P D vwCl (wTS B G r.2.2 ++ [((o, .inl (G 3, 1, .inr (.inl f))) : Nat × va_E)]) H1 := jMidJoin (pre := ([] : va_W)) (mid := wTS B G S) (mid' := wTS B G r.2.2) (post := [((o, .inl (G 3, 1, .inr (.inl f))) : Nat × va_E)]) hP hD hkp hQ
  have hD := jDT r.2.2 hD
  clear hQ hz hkp
  refine ⟨fun hk0 => ?_, fun hkn ce q hce hcv hcl => ?_⟩
  · have ek : hk_hold r.1 = 0 := by rw [hk0]; rfl
    have eo : (hO r.1 f r.2.1) = vp_updL f (0 : Int32).toNatClampNeg r.2.1.toInt64 := if_pos hk0
    rw [ek, eo]
    refine lv_i2l hx hb dL_hold_8 rfl ?_
    refine va_last (D := D) (n := 1) (f := f) hx hb hK hP hD hS (wTS B G r.2.2).length 3 (jLast _ _) rfl (inb_of (by decide)) dL_hold_9 (fun H2 locs hP hD hS => ?_)
    rw [jSetLast] at hP hD
    refine lv_goto (tgt := 21) hx hb dL_hold_10 (by decide) ?_
    refine lv_iconst (v := 0) hx hb dL_hold_21 (by decide) ?_
    exact hRet C dL_hold_22 (Nat.le_of_ble_eq_true rfl) (Nat.le_of_ble_eq_true rfl) hP hS
  · have eo : (hO r.1 f r.2.1) = f := if_neg hkn
    rw [eo]
    rcases hk with hk | hk | hk
    · exact absurd hk hkn
    · have ek : hk_hold r.1 = 1 := by rw [hk]; rfl
      rw [ek]
      rw [hk] at hcl
      have hcl : s.vm.findClass "java/lang/IndexOutOfBoundsException" = some ce.cls := hcl
      refine vx_catch (own := RL) (name := "java/lang/IndexOutOfBoundsException") (E := "java/lang/IndexOutOfBoundsException") hown [] (⟨0, 10, 13, 13⟩ : ExceptionTableEntry) [(⟨0, 10, 17, 17⟩ : ExceptionTableEntry)] (htab.trans rfl) ?_ rfl (by decide : (13 : Nat) ≠ 0) (hts _ jq_6_9) (va_Nw.use rfl (hK0.2 _ jn_57)) hce hcv hcl ?_
      · intro z hz
        exact absurd hz List.not_mem_nil
      · refine lv_astore (lv' := [(4, .ref q), (0, .ref (B 9 0)), (1, .int v1), (2, .int v2), (3, .ref o)]) hx hb dL_hold_13 hl (by decide) rfl (fun ls hl => ?_)
        refine lv_iconst (v := 1) hx hb dL_hold_15 (by decide) ?_
        exact hRet C dL_hold_16 (Nat.le_of_ble_eq_true rfl) (Nat.le_of_ble_eq_true rfl) hP hS
    · have ek : hk_hold r.1 = 2 := by rw [hk]; rfl
      rw [ek]
      rw [hk] at hcl
      have hcl : s.vm.findClass "java/lang/UnsupportedOperationException" = some ce.cls := hcl
      refine vx_catch (own := RL) (name := "java/lang/UnsupportedOperationException") (E := "java/lang/UnsupportedOperationException") hown [(⟨0, 10, 13, 13⟩ : ExceptionTableEntry)] (⟨0, 10, 17, 17⟩ : ExceptionTableEntry) [] (htab.trans rfl) ?_ rfl (by decide : (17 : Nat) ≠ 0) (hts _ jq_6_11) (va_Nw.use rfl (hK0.2 _ jn_60)) hce hcv hcl ?_
      · intro z hz
        rcases List.mem_cons.mp hz with rfl | hz
        · exact Or.inr ⟨(by decide : (13 : Nat) ≠ 0), "java/lang/IndexOutOfBoundsException", hts _ jq_6_9, hC 4 1 (by decide) (by decide) (by decide) (by decide) (by decide)⟩
        exact absurd hz List.not_mem_nil
      · refine lv_astore (lv' := [(4, .ref q), (0, .ref (B 9 0)), (1, .int v1), (2, .int v2), (3, .ref o)]) hx hb dL_hold_17 hl (by decide) rfl (fun ls hl => ?_)
        refine lv_iconst (v := 2) hx hb dL_hold_19 (by decide) ?_
        exact hRet C dL_hold_20 (Nat.le_of_ble_eq_true rfl) (Nat.le_of_ble_eq_true rfl) hP hS
def hk_release (k : Int32) : Int32 := if k = 1 then 1 else if k = 4 then 2 else 0
set_option maxHeartbeats 4000000 in
set_option maxRecDepth 100000 in
theorem kh_release (l : Launch) (hl0 : l.stackTraces = false) (D : va_G) (G : Nat → ClassId) (B : Nat → Nat → Nat) (ks va : Nat → Nat) (o : Nat) (f : Nat → Int64) (N : Nat) (S : Nat → Nat → Nat → Int32) (v1 v2 : Int32) (r : Int32 × Int32 × (Nat → Nat → Nat → Int32)) (hV : F_X8_release N S v1 v2 = some r) (hk : r.1 = 0 ∨ r.1 = 1 ∨ r.1 = 4) : hM l yL_release (Cond.codeWith yL_release cL_release 5 (some .int) [(0, 10, 13, 13), (0, 10, 17, 17)] :: jw) ({ frames := 10, cells := 3, slots := 18, locals := 233 } : Room) [.ref (B 9 0), .int v1, .int v2, .ref o] D G ks va (wTS B G S ++ [((o, .inl (G 3, 1, .inr (.inl f))) : Nat × va_E)]) (wTS B G r.2.2 ++ [((o, .inl (G 3, 1, .inr (.inl (hO r.1 f r.2.1)))) : Nat × va_E)]) (hk_release r.1) := by
  refine hM_of (by decide +kernel) (Nat.le_of_ble_eq_true rfl) (fun p e s m args below meth c ls A C htab hP hD hA hZ hC hl => ?_)
  have C : Cx p s m args meth c cL_release 5 RL (some .int) D G := C
  obtain ⟨hx, hb, hr, hml, hts, hown, hlocks, hK0⟩ := id C
  have hK := hK0.1
  have hS : va_S A s.heap s.heap [] := va_S.rf
  have hl : lv_has ls 5 [(0, .ref (B 9 0)), (1, .int v1), (2, .int v2), (3, .ref o)] := hl
  refine lv_aload_n hx hb dL_release_0 rfl (lv_at hl 3 rfl) ?_
  refine lv_iconst (v := 0) hx hb dL_release_1 (by decide) ?_
  refine lv_aload_n hx hb dL_release_2 rfl (lv_at hl 0 rfl) ?_
  refine lv_iload_n hx hb dL_release_3 rfl (lv_at hl 1 rfl) ?_
  refine lv_iload_n hx hb dL_release_4 rfl (lv_at hl 2 rfl) ?_
  refine jVx C dL_release_5 (k_X8_release l hl0 D G B ks va N S v1 v2 r hV) jy_X8_release jq_39_5 jq_39_6 jq_39_7 ⟨Nat.le_of_ble_eq_true rfl, Nat.le_of_ble_eq_true rfl⟩ ⟨Nat.le_of_ble_eq_true rfl, Nat.le_of_ble_eq_true rfl⟩ hZ (jMidP (pre := []) (mid := wTS B G S) (post := [((o, .inl (G 3, 1, .inr (.inl f))) : Nat × va_E)]) hP) (jMidD (pre := []) (mid := wTS B G S) (post := [((o, .inl (G 3, 1, .inr (.inl f))) : Nat × va_E)]) hD) hA hS (ci := 10) (iw := 0) rfl rfl rfl hl (As := [.int v1, .int v2]) (rest := [.int 0, .ref o]) rfl (Nat.le_of_ble_eq_true rfl) (fun H1 locs hQ hz hkp hS => ?_)
  have hP : va_P D vwCl (wTS B G r.2.2 ++ [((o, .inl (G 3, 1, .inr (.inl f))) : Nat × va_E)]) H1 := jMidJoin (pre := ([] : va_W)) (mid := wTS B G S) (mid' := wTS B G r.2.2) (post := [((o, .inl (G 3, 1, .inr (.inl f))) : Nat × va_E)]) hP hD hkp hQ
  have hD := jDT r.2.2 hD
  clear hQ hz hkp
  refine ⟨fun hk0 => ?_, fun hkn ce q hce hcv hcl => ?_⟩
  · have ek : hk_release r.1 = 0 := by rw [hk0]; rfl
    have eo : (hO r.1 f r.2.1) = vp_updL f (0 : Int32).toNatClampNeg r.2.1.toInt64 := if_pos hk0
    rw [ek, eo]
    refine lv_i2l hx hb dL_release_8 rfl ?_
    refine va_last (D := D) (n := 1) (f := f) hx hb hK hP hD hS (wTS B G r.2.2).length 3 (jLast _ _) rfl (inb_of (by decide)) dL_release_9 (fun H2 locs hP hD hS => ?_)
    rw [jSetLast] at hP hD
    refine lv_goto (tgt := 21) hx hb dL_release_10 (by decide) ?_
    refine lv_iconst (v := 0) hx hb dL_release_21 (by decide) ?_
    exact hRet C dL_release_22 (Nat.le_of_ble_eq_true rfl) (Nat.le_of_ble_eq_true rfl) hP hS
  · have eo : (hO r.1 f r.2.1) = f := if_neg hkn
    rw [eo]
    rcases hk with hk | hk | hk
    · exact absurd hk hkn
    · have ek : hk_release r.1 = 1 := by rw [hk]; rfl
      rw [ek]
      rw [hk] at hcl
      have hcl : s.vm.findClass "java/lang/IndexOutOfBoundsException" = some ce.cls := hcl
      refine vx_catch (own := RL) (name := "java/lang/IndexOutOfBoundsException") (E := "java/lang/IndexOutOfBoundsException") hown [] (⟨0, 10, 13, 13⟩ : ExceptionTableEntry) [(⟨0, 10, 17, 17⟩ : ExceptionTableEntry)] (htab.trans rfl) ?_ rfl (by decide : (13 : Nat) ≠ 0) (hts _ jq_6_9) (va_Nw.use rfl (hK0.2 _ jn_57)) hce hcv hcl ?_
      · intro z hz
        exact absurd hz List.not_mem_nil
      · refine lv_astore (lv' := [(4, .ref q), (0, .ref (B 9 0)), (1, .int v1), (2, .int v2), (3, .ref o)]) hx hb dL_release_13 hl (by decide) rfl (fun ls hl => ?_)
        refine lv_iconst (v := 1) hx hb dL_release_15 (by decide) ?_
        exact hRet C dL_release_16 (Nat.le_of_ble_eq_true rfl) (Nat.le_of_ble_eq_true rfl) hP hS
    · have ek : hk_release r.1 = 2 := by rw [hk]; rfl
      rw [ek]
      rw [hk] at hcl
      have hcl : s.vm.findClass "java/lang/UnsupportedOperationException" = some ce.cls := hcl
      refine vx_catch (own := RL) (name := "java/lang/UnsupportedOperationException") (E := "java/lang/UnsupportedOperationException") hown [(⟨0, 10, 13, 13⟩ : ExceptionTableEntry)] (⟨0, 10, 17, 17⟩ : ExceptionTableEntry) [] (htab.trans rfl) ?_ rfl (by decide : (17 : Nat) ≠ 0) (hts _ jq_6_11) (va_Nw.use rfl (hK0.2 _ jn_60)) hce hcv hcl ?_
      · intro z hz
        rcases List.mem_cons.mp hz with rfl | hz
        · exact Or.inr ⟨(by decide : (13 : Nat) ≠ 0), "java/lang/IndexOutOfBoundsException", hts _ jq_6_9, hC 4 1 (by decide) (by decide) (by decide) (by decide) (by decide)⟩
        exact absurd hz List.not_mem_nil
      · refine lv_astore (lv' := [(4, .ref q), (0, .ref (B 9 0)), (1, .int v1), (2, .int v2), (3, .ref o)]) hx hb dL_release_17 hl (by decide) rfl (fun ls hl => ?_)
        refine lv_iconst (v := 2) hx hb dL_release_19 (by decide) ?_
        exact hRet C dL_release_20 (Nat.le_of_ble_eq_true rfl) (Nat.le_of_ble_eq_true rfl) hP hS
def hk_exchange (k : Int32) : Int32 := if k = 1 then 1 else if k = 4 then 2 else 0
set_option maxHeartbeats 4000000 in
set_option maxRecDepth 100000 in
theorem kh_exchange (l : Launch) (hl0 : l.stackTraces = false) (D : va_G) (G : Nat → ClassId) (B : Nat → Nat → Nat) (ks va : Nat → Nat) (o : Nat) (f : Nat → Int64) (N : Nat) (S : Nat → Nat → Nat → Int32) (v1 v2 v3 : Int32) (r : Int32 × Int32 × (Nat → Nat → Nat → Int32)) (hV : F_X8_exchange N S v1 v2 v3 = some r) (hk : r.1 = 0 ∨ r.1 = 1 ∨ r.1 = 4) : hM l yL_exchange (Cond.codeWith yL_exchange cL_exchange 6 (some .int) [(0, 12, 15, 13), (0, 12, 19, 17)] :: jw) ({ frames := 10, cells := 3, slots := 18, locals := 234 } : Room) [.ref (B 9 0), .int v1, .int v2, .int v3, .ref o] D G ks va (wTS B G S ++ [((o, .inl (G 3, 1, .inr (.inl f))) : Nat × va_E)]) (wTS B G r.2.2 ++ [((o, .inl (G 3, 1, .inr (.inl (hO r.1 f r.2.1)))) : Nat × va_E)]) (hk_exchange r.1) := by
  refine hM_of (by decide +kernel) (Nat.le_of_ble_eq_true rfl) (fun p e s m args below meth c ls A C htab hP hD hA hZ hC hl => ?_)
  have C : Cx p s m args meth c cL_exchange 6 RL (some .int) D G := C
  obtain ⟨hx, hb, hr, hml, hts, hown, hlocks, hK0⟩ := id C
  have hK := hK0.1
  have hS : va_S A s.heap s.heap [] := va_S.rf
  have hl : lv_has ls 6 [(0, .ref (B 9 0)), (1, .int v1), (2, .int v2), (3, .int v3), (4, .ref o)] := hl
  refine lv_aload hx hb dL_exchange_0 (lv_at hl 4 rfl) ?_
  refine lv_iconst (v := 0) hx hb dL_exchange_2 (by decide) ?_
  refine lv_aload_n hx hb dL_exchange_3 rfl (lv_at hl 0 rfl) ?_
  refine lv_iload_n hx hb dL_exchange_4 rfl (lv_at hl 1 rfl) ?_
  refine lv_iload_n hx hb dL_exchange_5 rfl (lv_at hl 2 rfl) ?_
  refine lv_iload_n hx hb dL_exchange_6 rfl (lv_at hl 3 rfl) ?_
  refine jVx C dL_exchange_7 (k_X8_exchange l hl0 D G B ks va N S v1 v2 v3 r hV) jy_X8_exchange jq_40_4 jq_40_5 jq_40_6 ⟨Nat.le_of_ble_eq_true rfl, Nat.le_of_ble_eq_true rfl⟩ ⟨Nat.le_of_ble_eq_true rfl, Nat.le_of_ble_eq_true rfl⟩ hZ (jMidP (pre := []) (mid := wTS B G S) (post := [((o, .inl (G 3, 1, .inr (.inl f))) : Nat × va_E)]) hP) (jMidD (pre := []) (mid := wTS B G S) (post := [((o, .inl (G 3, 1, .inr (.inl f))) : Nat × va_E)]) hD) hA hS (ci := 10) (iw := 0) rfl rfl rfl hl (As := [.int v1, .int v2, .int v3]) (rest := [.int 0, .ref o]) rfl (Nat.le_of_ble_eq_true rfl) (fun H1 locs hQ hz hkp hS => ?_)
  have hP : va_P D vwCl (wTS B G r.2.2 ++ [((o, .inl (G 3, 1, .inr (.inl f))) : Nat × va_E)]) H1 := jMidJoin (pre := ([] : va_W)) (mid := wTS B G S) (mid' := wTS B G r.2.2) (post := [((o, .inl (G 3, 1, .inr (.inl f))) : Nat × va_E)]) hP hD hkp hQ
  have hD := jDT r.2.2 hD
  clear hQ hz hkp
  refine ⟨fun hk0 => ?_, fun hkn ce q hce hcv hcl => ?_⟩
  · have ek : hk_exchange r.1 = 0 := by rw [hk0]; rfl
    have eo : (hO r.1 f r.2.1) = vp_updL f (0 : Int32).toNatClampNeg r.2.1.toInt64 := if_pos hk0
    rw [ek, eo]
    refine lv_i2l hx hb dL_exchange_10 rfl ?_
    refine va_last (D := D) (n := 1) (f := f) hx hb hK hP hD hS (wTS B G r.2.2).length 3 (jLast _ _) rfl (inb_of (by decide)) dL_exchange_11 (fun H2 locs hP hD hS => ?_)
    rw [jSetLast] at hP hD
    refine lv_goto (tgt := 23) hx hb dL_exchange_12 (by decide) ?_
    refine lv_iconst (v := 0) hx hb dL_exchange_23 (by decide) ?_
    exact hRet C dL_exchange_24 (Nat.le_of_ble_eq_true rfl) (Nat.le_of_ble_eq_true rfl) hP hS
  · have eo : (hO r.1 f r.2.1) = f := if_neg hkn
    rw [eo]
    rcases hk with hk | hk | hk
    · exact absurd hk hkn
    · have ek : hk_exchange r.1 = 1 := by rw [hk]; rfl
      rw [ek]
      rw [hk] at hcl
      have hcl : s.vm.findClass "java/lang/IndexOutOfBoundsException" = some ce.cls := hcl
      refine vx_catch (own := RL) (name := "java/lang/IndexOutOfBoundsException") (E := "java/lang/IndexOutOfBoundsException") hown [] (⟨0, 12, 15, 13⟩ : ExceptionTableEntry) [(⟨0, 12, 19, 17⟩ : ExceptionTableEntry)] (htab.trans rfl) ?_ rfl (by decide : (13 : Nat) ≠ 0) (hts _ jq_6_9) (va_Nw.use rfl (hK0.2 _ jn_57)) hce hcv hcl ?_
      · intro z hz
        exact absurd hz List.not_mem_nil
      · refine lv_astore (lv' := [(5, .ref q), (0, .ref (B 9 0)), (1, .int v1), (2, .int v2), (3, .int v3), (4, .ref o)]) hx hb dL_exchange_15 hl (by decide) rfl (fun ls hl => ?_)
        refine lv_iconst (v := 1) hx hb dL_exchange_17 (by decide) ?_
        exact hRet C dL_exchange_18 (Nat.le_of_ble_eq_true rfl) (Nat.le_of_ble_eq_true rfl) hP hS
    · have ek : hk_exchange r.1 = 2 := by rw [hk]; rfl
      rw [ek]
      rw [hk] at hcl
      have hcl : s.vm.findClass "java/lang/UnsupportedOperationException" = some ce.cls := hcl
      refine vx_catch (own := RL) (name := "java/lang/UnsupportedOperationException") (E := "java/lang/UnsupportedOperationException") hown [(⟨0, 12, 15, 13⟩ : ExceptionTableEntry)] (⟨0, 12, 19, 17⟩ : ExceptionTableEntry) [] (htab.trans rfl) ?_ rfl (by decide : (17 : Nat) ≠ 0) (hts _ jq_6_11) (va_Nw.use rfl (hK0.2 _ jn_60)) hce hcv hcl ?_
      · intro z hz
        rcases List.mem_cons.mp hz with rfl | hz
        · exact Or.inr ⟨(by decide : (13 : Nat) ≠ 0), "java/lang/IndexOutOfBoundsException", hts _ jq_6_9, hC 4 1 (by decide) (by decide) (by decide) (by decide) (by decide)⟩
        exact absurd hz List.not_mem_nil
      · refine lv_astore (lv' := [(5, .ref q), (0, .ref (B 9 0)), (1, .int v1), (2, .int v2), (3, .int v3), (4, .ref o)]) hx hb dL_exchange_19 hl (by decide) rfl (fun ls hl => ?_)
        refine lv_iconst (v := 2) hx hb dL_exchange_21 (by decide) ?_
        exact hRet C dL_exchange_22 (Nat.le_of_ble_eq_true rfl) (Nat.le_of_ble_eq_true rfl) hP hS
def hk_subscription (k : Int32) : Int32 := if k = 1 then 1 else if k = 2 then 2 else 0
set_option maxHeartbeats 4000000 in
set_option maxRecDepth 100000 in
theorem kh_subscription (l : Launch) (hl0 : l.stackTraces = false) (D : va_G) (G : Nat → ClassId) (B : Nat → Nat → Nat) (ks va : Nat → Nat) (o : Nat) (f : Nat → Int64) (N : Nat) (S : Nat → Nat → Nat → Int32) (v1 v2 : Int32) (r : Int32 × Int32 × (Nat → Nat → Nat → Int32)) (hV : F_X8_subscription N S v1 v2 = some r) (hk : r.1 = 0 ∨ r.1 = 1 ∨ r.1 = 2) : hM l yL_subscription (Cond.codeWith yL_subscription cL_subscription 5 (some .int) [(0, 10, 13, 13), (0, 10, 17, 15)] :: jw) ({ frames := 9, cells := 2, slots := 12, locals := 143 } : Room) [.ref (B 9 0), .int v1, .int v2, .ref o] D G ks va (wTS B G S ++ [((o, .inl (G 3, 1, .inr (.inl f))) : Nat × va_E)]) (wTS B G r.2.2 ++ [((o, .inl (G 3, 1, .inr (.inl (hO r.1 f r.2.1)))) : Nat × va_E)]) (hk_subscription r.1) := by
  refine hM_of (by decide +kernel) (Nat.le_of_ble_eq_true rfl) (fun p e s m args below meth c ls A C htab hP hD hA hZ hC hl => ?_)
  have C : Cx p s m args meth c cL_subscription 5 RL (some .int) D G := C
  obtain ⟨hx, hb, hr, hml, hts, hown, hlocks, hK0⟩ := id C
  have hK := hK0.1
  have hS : va_S A s.heap s.heap [] := va_S.rf
  have hl : lv_has ls 5 [(0, .ref (B 9 0)), (1, .int v1), (2, .int v2), (3, .ref o)] := hl
  refine lv_aload_n hx hb dL_subscription_0 rfl (lv_at hl 3 rfl) ?_
  refine lv_iconst (v := 0) hx hb dL_subscription_1 (by decide) ?_
  refine lv_aload_n hx hb dL_subscription_2 rfl (lv_at hl 0 rfl) ?_
  refine lv_iload_n hx hb dL_subscription_3 rfl (lv_at hl 1 rfl) ?_
  refine lv_iload_n hx hb dL_subscription_4 rfl (lv_at hl 2 rfl) ?_
  refine jVx C dL_subscription_5 (k_X8_subscription l hl0 D G B ks va N S v1 v2 r hV) jy_X8_subscription jq_41_3 jq_41_4 jq_41_5 ⟨Nat.le_of_ble_eq_true rfl, Nat.le_of_ble_eq_true rfl⟩ ⟨Nat.le_of_ble_eq_true rfl, Nat.le_of_ble_eq_true rfl⟩ hZ (jMidP (pre := []) (mid := wTS B G S) (post := [((o, .inl (G 3, 1, .inr (.inl f))) : Nat × va_E)]) hP) (jMidD (pre := []) (mid := wTS B G S) (post := [((o, .inl (G 3, 1, .inr (.inl f))) : Nat × va_E)]) hD) hA hS (ci := 10) (iw := 0) rfl rfl rfl hl (As := [.int v1, .int v2]) (rest := [.int 0, .ref o]) rfl (Nat.le_of_ble_eq_true rfl) (fun H1 locs hQ hz hkp hS => ?_)
  have hP : va_P D vwCl (wTS B G r.2.2 ++ [((o, .inl (G 3, 1, .inr (.inl f))) : Nat × va_E)]) H1 := jMidJoin (pre := ([] : va_W)) (mid := wTS B G S) (mid' := wTS B G r.2.2) (post := [((o, .inl (G 3, 1, .inr (.inl f))) : Nat × va_E)]) hP hD hkp hQ
  have hD := jDT r.2.2 hD
  clear hQ hz hkp
  refine ⟨fun hk0 => ?_, fun hkn ce q hce hcv hcl => ?_⟩
  · have ek : hk_subscription r.1 = 0 := by rw [hk0]; rfl
    have eo : (hO r.1 f r.2.1) = vp_updL f (0 : Int32).toNatClampNeg r.2.1.toInt64 := if_pos hk0
    rw [ek, eo]
    refine lv_i2l hx hb dL_subscription_8 rfl ?_
    refine va_last (D := D) (n := 1) (f := f) hx hb hK hP hD hS (wTS B G r.2.2).length 3 (jLast _ _) rfl (inb_of (by decide)) dL_subscription_9 (fun H2 locs hP hD hS => ?_)
    rw [jSetLast] at hP hD
    refine lv_goto (tgt := 21) hx hb dL_subscription_10 (by decide) ?_
    refine lv_iconst (v := 0) hx hb dL_subscription_21 (by decide) ?_
    exact hRet C dL_subscription_22 (Nat.le_of_ble_eq_true rfl) (Nat.le_of_ble_eq_true rfl) hP hS
  · have eo : (hO r.1 f r.2.1) = f := if_neg hkn
    rw [eo]
    rcases hk with hk | hk | hk
    · exact absurd hk hkn
    · have ek : hk_subscription r.1 = 1 := by rw [hk]; rfl
      rw [ek]
      rw [hk] at hcl
      have hcl : s.vm.findClass "java/lang/IndexOutOfBoundsException" = some ce.cls := hcl
      refine vx_catch (own := RL) (name := "java/lang/IndexOutOfBoundsException") (E := "java/lang/IndexOutOfBoundsException") hown [] (⟨0, 10, 13, 13⟩ : ExceptionTableEntry) [(⟨0, 10, 17, 15⟩ : ExceptionTableEntry)] (htab.trans rfl) ?_ rfl (by decide : (13 : Nat) ≠ 0) (hts _ jq_6_9) (va_Nw.use rfl (hK0.2 _ jn_57)) hce hcv hcl ?_
      · intro z hz
        exact absurd hz List.not_mem_nil
      · refine lv_astore (lv' := [(4, .ref q), (0, .ref (B 9 0)), (1, .int v1), (2, .int v2), (3, .ref o)]) hx hb dL_subscription_13 hl (by decide) rfl (fun ls hl => ?_)
        refine lv_iconst (v := 1) hx hb dL_subscription_15 (by decide) ?_
        exact hRet C dL_subscription_16 (Nat.le_of_ble_eq_true rfl) (Nat.le_of_ble_eq_true rfl) hP hS
    · have ek : hk_subscription r.1 = 2 := by rw [hk]; rfl
      rw [ek]
      rw [hk] at hcl
      have hcl : s.vm.findClass "java/lang/IllegalArgumentException" = some ce.cls := hcl
      refine vx_catch (own := RL) (name := "java/lang/IllegalArgumentException") (E := "java/lang/IllegalArgumentException") hown [(⟨0, 10, 13, 13⟩ : ExceptionTableEntry)] (⟨0, 10, 17, 15⟩ : ExceptionTableEntry) [] (htab.trans rfl) ?_ rfl (by decide : (15 : Nat) ≠ 0) (hts _ jq_6_10) (va_Nw.use rfl (hK0.2 _ jn_58)) hce hcv hcl ?_
      · intro z hz
        rcases List.mem_cons.mp hz with rfl | hz
        · exact Or.inr ⟨(by decide : (13 : Nat) ≠ 0), "java/lang/IndexOutOfBoundsException", hts _ jq_6_9, hC 2 1 (by decide) (by decide) (by decide) (by decide) (by decide)⟩
        exact absurd hz List.not_mem_nil
      · refine lv_astore (lv' := [(4, .ref q), (0, .ref (B 9 0)), (1, .int v1), (2, .int v2), (3, .ref o)]) hx hb dL_subscription_17 hl (by decide) rfl (fun ls hl => ?_)
        refine lv_iconst (v := 2) hx hb dL_subscription_19 (by decide) ?_
        exact hRet C dL_subscription_20 (Nat.le_of_ble_eq_true rfl) (Nat.le_of_ble_eq_true rfl) hP hS
def hk_partner (k : Int32) : Int32 := if k = 1 then 1 else 0
set_option maxHeartbeats 4000000 in
set_option maxRecDepth 100000 in
theorem kh_partner (l : Launch) (hl0 : l.stackTraces = false) (D : va_G) (G : Nat → ClassId) (B : Nat → Nat → Nat) (ks va : Nat → Nat) (o : Nat) (f : Nat → UInt64) (N : Nat) (S : Nat → Nat → Nat → Int32) (v1 : Int32) (r : Int32 × UInt32 × (Nat → Nat → Nat → Int32)) (hV : F_X8_partner N S v1 = some r) (hk : r.1 = 0 ∨ r.1 = 1) (hfin : r.1 = 0 → vf_n64 (FP.f2d r.2.1)) : hM l yL_partner (Cond.codeWith yL_partner cL_partner 4 (some .int) [(0, 9, 12, 13)] :: jw) ({ frames := 9, cells := 1, slots := 6, locals := 142 } : Room) [.ref (B 9 0), .int v1, .ref o] D G ks va (wTS B G S ++ [((o, .inl (G 4, 1, .inr (.inr (.inr (.inl f))))) : Nat × va_E)]) (wTS B G r.2.2 ++ [((o, .inl (G 4, 1, .inr (.inr (.inr (.inl (hOd r.1 f (FP.f2d r.2.1))))))) : Nat × va_E)]) (hk_partner r.1) := by
  refine hM_of (by decide +kernel) (Nat.le_of_ble_eq_true rfl) (fun p e s m args below meth c ls A C htab hP hD hA hZ hC hl => ?_)
  have C : Cx p s m args meth c cL_partner 4 RL (some .int) D G := C
  obtain ⟨hx, hb, hr, hml, hts, hown, hlocks, hK0⟩ := id C
  have hK := hK0.1
  have hS : va_S A s.heap s.heap [] := va_S.rf
  have hl : lv_has ls 4 [(0, .ref (B 9 0)), (1, .int v1), (2, .ref o)] := hl
  refine lv_aload_n hx hb dL_partner_0 rfl (lv_at hl 2 rfl) ?_
  refine lv_iconst (v := 0) hx hb dL_partner_1 (by decide) ?_
  refine lv_aload_n hx hb dL_partner_2 rfl (lv_at hl 0 rfl) ?_
  refine lv_iload_n hx hb dL_partner_3 rfl (lv_at hl 1 rfl) ?_
  refine jVx C dL_partner_4 (k_X8_partner l hl0 D G B ks va N S v1 r hV) jy_X8_partner jq_41_16 jq_41_17 jq_41_18 ⟨Nat.le_of_ble_eq_true rfl, Nat.le_of_ble_eq_true rfl⟩ ⟨Nat.le_of_ble_eq_true rfl, Nat.le_of_ble_eq_true rfl⟩ hZ (jMidP (pre := []) (mid := wTS B G S) (post := [((o, .inl (G 4, 1, .inr (.inr (.inr (.inl f))))) : Nat × va_E)]) hP) (jMidD (pre := []) (mid := wTS B G S) (post := [((o, .inl (G 4, 1, .inr (.inr (.inr (.inl f))))) : Nat × va_E)]) hD) hA hS (ci := 10) (iw := 0) rfl rfl rfl hl (As := [.int v1]) (rest := [.int 0, .ref o]) rfl (Nat.le_of_ble_eq_true rfl) (fun H1 locs hQ hz hkp hS => ?_)
  have hP : va_P D vwCl (wTS B G r.2.2 ++ [((o, .inl (G 4, 1, .inr (.inr (.inr (.inl f))))) : Nat × va_E)]) H1 := jMidJoin (pre := ([] : va_W)) (mid := wTS B G S) (mid' := wTS B G r.2.2) (post := [((o, .inl (G 4, 1, .inr (.inr (.inr (.inl f))))) : Nat × va_E)]) hP hD hkp hQ
  have hD := jDT r.2.2 hD
  clear hQ hz hkp
  refine ⟨fun hk0 => ?_, fun hkn ce q hce hcv hcl => ?_⟩
  · have ek : hk_partner r.1 = 0 := by rw [hk0]; rfl
    have eo : (hOd r.1 f (FP.f2d r.2.1)) = vf_upd f (0 : Int32).toNatClampNeg (FP.f2d r.2.1) := if_pos hk0
    rw [ek, eo]
    refine lv_f2d hx hb dL_partner_7 (hfin hk0) ?_
    refine va_dast (D := D) (n := 1) (f := f) hx hb hK hP hD hS (wTS B G r.2.2).length 4 (jLast _ _) rfl (inb_of (by decide)) dL_partner_8 (fun H2 locs hP hD hS => ?_)
    rw [jSetLast] at hP hD
    refine lv_goto (tgt := 15) hx hb dL_partner_9 (by decide) ?_
    refine lv_iconst (v := 0) hx hb dL_partner_15 (by decide) ?_
    exact hRet C dL_partner_16 (Nat.le_of_ble_eq_true rfl) (Nat.le_of_ble_eq_true rfl) hP hS
  · have eo : (hOd r.1 f (FP.f2d r.2.1)) = f := if_neg hkn
    rw [eo]
    rcases hk with hk | hk
    · exact absurd hk hkn
    · have ek : hk_partner r.1 = 1 := by rw [hk]; rfl
      rw [ek]
      rw [hk] at hcl
      have hcl : s.vm.findClass "java/lang/IndexOutOfBoundsException" = some ce.cls := hcl
      refine vx_catch (own := RL) (name := "java/lang/IndexOutOfBoundsException") (E := "java/lang/IndexOutOfBoundsException") hown [] (⟨0, 9, 12, 13⟩ : ExceptionTableEntry) [] (htab.trans rfl) ?_ rfl (by decide : (13 : Nat) ≠ 0) (hts _ jq_6_9) (va_Nw.use rfl (hK0.2 _ jn_57)) hce hcv hcl ?_
      · intro z hz
        exact absurd hz List.not_mem_nil
      · refine lv_astore_n (lv' := [(3, .ref q), (0, .ref (B 9 0)), (1, .int v1), (2, .ref o)]) hx hb dL_partner_12 rfl hl (by decide) rfl (fun ls hl => ?_)
        refine lv_iconst (v := 1) hx hb dL_partner_13 (by decide) ?_
        exact hRet C dL_partner_14 (Nat.le_of_ble_eq_true rfl) (Nat.le_of_ble_eq_true rfl) hP hS
def hk_fullness (k : Int32) : Int32 := if k = 1 then 1 else if k = 6 then 2 else 0
set_option maxHeartbeats 4000000 in
set_option maxRecDepth 100000 in
theorem kh_fullness (l : Launch) (hl0 : l.stackTraces = false) (D : va_G) (G : Nat → ClassId) (B : Nat → Nat → Nat) (ks va : Nat → Nat) (o : Nat) (f : Nat → UInt64) (N : Nat) (S : Nat → Nat → Nat → Int32) (v1 : Int32) (r : Int32 × UInt64 × (Nat → Nat → Nat → Int32)) (hV : F_X8_fullness N S v1 = some r) (hk : r.1 = 0 ∨ r.1 = 1 ∨ r.1 = 6) : hM l yL_fullness (Cond.codeWith yL_fullness cL_fullness 4 (some .int) [(0, 8, 11, 13), (0, 8, 14, 104)] :: jw) ({ frames := 9, cells := 2, slots := 12, locals := 142 } : Room) [.ref (B 9 0), .int v1, .ref o] D G ks va (wTS B G S ++ [((o, .inl (G 4, 1, .inr (.inr (.inr (.inl f))))) : Nat × va_E)]) (wTS B G r.2.2 ++ [((o, .inl (G 4, 1, .inr (.inr (.inr (.inl (hOd r.1 f r.2.1)))))) : Nat × va_E)]) (hk_fullness r.1) := by
  refine hM_of (by decide +kernel) (Nat.le_of_ble_eq_true rfl) (fun p e s m args below meth c ls A C htab hP hD hA hZ hC hl => ?_)
  have C : Cx p s m args meth c cL_fullness 4 RL (some .int) D G := C
  obtain ⟨hx, hb, hr, hml, hts, hown, hlocks, hK0⟩ := id C
  have hK := hK0.1
  have hS : va_S A s.heap s.heap [] := va_S.rf
  have hl : lv_has ls 4 [(0, .ref (B 9 0)), (1, .int v1), (2, .ref o)] := hl
  refine lv_aload_n hx hb dL_fullness_0 rfl (lv_at hl 2 rfl) ?_
  refine lv_iconst (v := 0) hx hb dL_fullness_1 (by decide) ?_
  refine lv_aload_n hx hb dL_fullness_2 rfl (lv_at hl 0 rfl) ?_
  refine lv_iload_n hx hb dL_fullness_3 rfl (lv_at hl 1 rfl) ?_
  refine jVx C dL_fullness_4 (k_X8_fullness l hl0 D G B ks va N S v1 r hV) jy_X8_fullness jq_42_6 jq_42_7 jq_42_8 ⟨Nat.le_of_ble_eq_true rfl, Nat.le_of_ble_eq_true rfl⟩ ⟨Nat.le_of_ble_eq_true rfl, Nat.le_of_ble_eq_true rfl⟩ hZ (jMidP (pre := []) (mid := wTS B G S) (post := [((o, .inl (G 4, 1, .inr (.inr (.inr (.inl f))))) : Nat × va_E)]) hP) (jMidD (pre := []) (mid := wTS B G S) (post := [((o, .inl (G 4, 1, .inr (.inr (.inr (.inl f))))) : Nat × va_E)]) hD) hA hS (ci := 10) (iw := 0) rfl rfl rfl hl (As := [.int v1]) (rest := [.int 0, .ref o]) rfl (Nat.le_of_ble_eq_true rfl) (fun H1 locs hQ hz hkp hS => ?_)
  have hP : va_P D vwCl (wTS B G r.2.2 ++ [((o, .inl (G 4, 1, .inr (.inr (.inr (.inl f))))) : Nat × va_E)]) H1 := jMidJoin (pre := ([] : va_W)) (mid := wTS B G S) (mid' := wTS B G r.2.2) (post := [((o, .inl (G 4, 1, .inr (.inr (.inr (.inl f))))) : Nat × va_E)]) hP hD hkp hQ
  have hD := jDT r.2.2 hD
  clear hQ hz hkp
  refine ⟨fun hk0 => ?_, fun hkn ce q hce hcv hcl => ?_⟩
  · have ek : hk_fullness r.1 = 0 := by rw [hk0]; rfl
    have eo : (hOd r.1 f r.2.1) = vf_upd f (0 : Int32).toNatClampNeg r.2.1 := if_pos hk0
    rw [ek, eo]
    refine va_dast (D := D) (n := 1) (f := f) hx hb hK hP hD hS (wTS B G r.2.2).length 4 (jLast _ _) rfl (inb_of (by decide)) dL_fullness_7 (fun H2 locs hP hD hS => ?_)
    rw [jSetLast] at hP hD
    refine lv_goto (tgt := 17) hx hb dL_fullness_8 (by decide) ?_
    refine lv_iconst (v := 0) hx hb dL_fullness_17 (by decide) ?_
    exact hRet C dL_fullness_18 (Nat.le_of_ble_eq_true rfl) (Nat.le_of_ble_eq_true rfl) hP hS
  · have eo : (hOd r.1 f r.2.1) = f := if_neg hkn
    rw [eo]
    rcases hk with hk | hk | hk
    · exact absurd hk hkn
    · have ek : hk_fullness r.1 = 1 := by rw [hk]; rfl
      rw [ek]
      rw [hk] at hcl
      have hcl : s.vm.findClass "java/lang/IndexOutOfBoundsException" = some ce.cls := hcl
      refine vx_catch (own := RL) (name := "java/lang/IndexOutOfBoundsException") (E := "java/lang/IndexOutOfBoundsException") hown [] (⟨0, 8, 11, 13⟩ : ExceptionTableEntry) [(⟨0, 8, 14, 104⟩ : ExceptionTableEntry)] (htab.trans rfl) ?_ rfl (by decide : (13 : Nat) ≠ 0) (hts _ jq_6_9) (va_Nw.use rfl (hK0.2 _ jn_57)) hce hcv hcl ?_
      · intro z hz
        exact absurd hz List.not_mem_nil
      · refine lv_astore_n (lv' := [(3, .ref q), (0, .ref (B 9 0)), (1, .int v1), (2, .ref o)]) hx hb dL_fullness_11 rfl hl (by decide) rfl (fun ls hl => ?_)
        refine lv_iconst (v := 1) hx hb dL_fullness_12 (by decide) ?_
        exact hRet C dL_fullness_13 (Nat.le_of_ble_eq_true rfl) (Nat.le_of_ble_eq_true rfl) hP hS
    · have ek : hk_fullness r.1 = 2 := by rw [hk]; rfl
      rw [ek]
      rw [hk] at hcl
      have hcl : s.vm.findClass "java/lang/ArithmeticException" = some ce.cls := hcl
      refine vx_catch (own := RL) (name := "java/lang/ArithmeticException") (E := "java/lang/ArithmeticException") hown [(⟨0, 8, 11, 13⟩ : ExceptionTableEntry)] (⟨0, 8, 14, 104⟩ : ExceptionTableEntry) [] (htab.trans rfl) ?_ rfl (by decide : (104 : Nat) ≠ 0) (hts _ jq_42_5) (va_Nw.use rfl (hK0.2 _ jn_62)) hce hcv hcl ?_
      · intro z hz
        rcases List.mem_cons.mp hz with rfl | hz
        · exact Or.inr ⟨(by decide : (13 : Nat) ≠ 0), "java/lang/IndexOutOfBoundsException", hts _ jq_6_9, hC 6 1 (by decide) (by decide) (by decide) (by decide) (by decide)⟩
        exact absurd hz List.not_mem_nil
      · refine lv_astore_n (lv' := [(3, .ref q), (0, .ref (B 9 0)), (1, .int v1), (2, .ref o)]) hx hb dL_fullness_14 rfl hl (by decide) rfl (fun ls hl => ?_)
        refine lv_iconst (v := 2) hx hb dL_fullness_15 (by decide) ?_
        exact hRet C dL_fullness_16 (Nat.le_of_ble_eq_true rfl) (Nat.le_of_ble_eq_true rfl) hP hS
def hk_reason (k : Int32) : Int32 := if k = 5 then 1 else 0
set_option maxHeartbeats 4000000 in
set_option maxRecDepth 100000 in
theorem kh_reason (l : Launch) (hl0 : l.stackTraces = false) (D : va_G) (G : Nat → ClassId) (B : Nat → Nat → Nat) (ks va : Nat → Nat) (o : Nat) (f : Nat → Int64) (N : Nat) (S : Nat → Nat → Nat → Int32) (v1 : Int32) (r : Int32 × Int32 × (Nat → Nat → Nat → Int32)) (hV : F_X8_reason N S v1 = some r) (hk : r.1 = 0 ∨ r.1 = 5) : hM l yL_reason (Cond.codeWith yL_reason cL_reason 4 (some .int) [(0, 9, 12, 51)] :: jw) ({ frames := 8, cells := 1, slots := 6, locals := 121 } : Room) [.ref (B 9 0), .int v1, .ref o] D G ks va (wTS B G S ++ [((o, .inl (G 3, 1, .inr (.inl f))) : Nat × va_E)]) (wTS B G r.2.2 ++ [((o, .inl (G 3, 1, .inr (.inl (hO r.1 f r.2.1)))) : Nat × va_E)]) (hk_reason r.1) := by
  refine hM_of (by decide +kernel) (Nat.le_of_ble_eq_true rfl) (fun p e s m args below meth c ls A C htab hP hD hA hZ hC hl => ?_)
  have C : Cx p s m args meth c cL_reason 4 RL (some .int) D G := C
  obtain ⟨hx, hb, hr, hml, hts, hown, hlocks, hK0⟩ := id C
  have hK := hK0.1
  have hS : va_S A s.heap s.heap [] := va_S.rf
  have hl : lv_has ls 4 [(0, .ref (B 9 0)), (1, .int v1), (2, .ref o)] := hl
  refine lv_aload_n hx hb dL_reason_0 rfl (lv_at hl 2 rfl) ?_
  refine lv_iconst (v := 0) hx hb dL_reason_1 (by decide) ?_
  refine lv_aload_n hx hb dL_reason_2 rfl (lv_at hl 0 rfl) ?_
  refine lv_iload_n hx hb dL_reason_3 rfl (lv_at hl 1 rfl) ?_
  refine jVx C dL_reason_4 (k_X8_reason l hl0 D G B ks va N S v1 r hV) jy_X8_reason jq_42_23 jq_43_0 jq_43_1 ⟨Nat.le_of_ble_eq_true rfl, Nat.le_of_ble_eq_true rfl⟩ ⟨Nat.le_of_ble_eq_true rfl, Nat.le_of_ble_eq_true rfl⟩ hZ (jMidP (pre := []) (mid := wTS B G S) (post := [((o, .inl (G 3, 1, .inr (.inl f))) : Nat × va_E)]) hP) (jMidD (pre := []) (mid := wTS B G S) (post := [((o, .inl (G 3, 1, .inr (.inl f))) : Nat × va_E)]) hD) hA hS (ci := 10) (iw := 0) rfl rfl rfl hl (As := [.int v1]) (rest := [.int 0, .ref o]) rfl (Nat.le_of_ble_eq_true rfl) (fun H1 locs hQ hz hkp hS => ?_)
  have hP : va_P D vwCl (wTS B G r.2.2 ++ [((o, .inl (G 3, 1, .inr (.inl f))) : Nat × va_E)]) H1 := jMidJoin (pre := ([] : va_W)) (mid := wTS B G S) (mid' := wTS B G r.2.2) (post := [((o, .inl (G 3, 1, .inr (.inl f))) : Nat × va_E)]) hP hD hkp hQ
  have hD := jDT r.2.2 hD
  clear hQ hz hkp
  refine ⟨fun hk0 => ?_, fun hkn ce q hce hcv hcl => ?_⟩
  · have ek : hk_reason r.1 = 0 := by rw [hk0]; rfl
    have eo : (hO r.1 f r.2.1) = vp_updL f (0 : Int32).toNatClampNeg r.2.1.toInt64 := if_pos hk0
    rw [ek, eo]
    refine lv_i2l hx hb dL_reason_7 rfl ?_
    refine va_last (D := D) (n := 1) (f := f) hx hb hK hP hD hS (wTS B G r.2.2).length 3 (jLast _ _) rfl (inb_of (by decide)) dL_reason_8 (fun H2 locs hP hD hS => ?_)
    rw [jSetLast] at hP hD
    refine lv_goto (tgt := 15) hx hb dL_reason_9 (by decide) ?_
    refine lv_iconst (v := 0) hx hb dL_reason_15 (by decide) ?_
    exact hRet C dL_reason_16 (Nat.le_of_ble_eq_true rfl) (Nat.le_of_ble_eq_true rfl) hP hS
  · have eo : (hO r.1 f r.2.1) = f := if_neg hkn
    rw [eo]
    rcases hk with hk | hk
    · exact absurd hk hkn
    · have ek : hk_reason r.1 = 1 := by rw [hk]; rfl
      rw [ek]
      rw [hk] at hcl
      have hcl : s.vm.findClass "java/util/NoSuchElementException" = some ce.cls := hcl
      refine vx_catch (own := RL) (name := "java/util/NoSuchElementException") (E := "java/util/NoSuchElementException") hown [] (⟨0, 9, 12, 51⟩ : ExceptionTableEntry) [] (htab.trans rfl) ?_ rfl (by decide : (51 : Nat) ≠ 0) (hts _ jq_28_4) (va_Nw.use rfl (hK0.2 _ jn_61)) hce hcv hcl ?_
      · intro z hz
        exact absurd hz List.not_mem_nil
      · refine lv_astore_n (lv' := [(3, .ref q), (0, .ref (B 9 0)), (1, .int v1), (2, .ref o)]) hx hb dL_reason_12 rfl hl (by decide) rfl (fun ls hl => ?_)
        refine lv_iconst (v := 1) hx hb dL_reason_13 (by decide) ?_
        exact hRet C dL_reason_14 (Nat.le_of_ble_eq_true rfl) (Nat.le_of_ble_eq_true rfl) hP hS
def hk_account (k : Int32) : Int32 := if k = 2 then 1 else 0
set_option maxHeartbeats 4000000 in
set_option maxRecDepth 100000 in
theorem kh_account (l : Launch) (hl0 : l.stackTraces = false) (D : va_G) (G : Nat → ClassId) (B : Nat → Nat → Nat) (ks va : Nat → Nat) (o : Nat) (f : Nat → Int64) (N : Nat) (S : Nat → Nat → Nat → Int32) (v1 : Int32) (r : Int32 × Int32 × (Nat → Nat → Nat → Int32)) (hV : F_X8_account N S v1 = some r) (hk : r.1 = 0 ∨ r.1 = 2) : hM l yL_account (Cond.codeWith yL_account cL_account 4 (some .int) [(0, 9, 12, 15)] :: jw) ({ frames := 8, cells := 1, slots := 6, locals := 121 } : Room) [.ref (B 9 0), .int v1, .ref o] D G ks va (wTS B G S ++ [((o, .inl (G 3, 1, .inr (.inl f))) : Nat × va_E)]) (wTS B G r.2.2 ++ [((o, .inl (G 3, 1, .inr (.inl (hO r.1 f r.2.1)))) : Nat × va_E)]) (hk_account r.1) := by
  refine hM_of (by decide +kernel) (Nat.le_of_ble_eq_true rfl) (fun p e s m args below meth c ls A C htab hP hD hA hZ hC hl => ?_)
  have C : Cx p s m args meth c cL_account 4 RL (some .int) D G := C
  obtain ⟨hx, hb, hr, hml, hts, hown, hlocks, hK0⟩ := id C
  have hK := hK0.1
  have hS : va_S A s.heap s.heap [] := va_S.rf
  have hl : lv_has ls 4 [(0, .ref (B 9 0)), (1, .int v1), (2, .ref o)] := hl
  refine lv_aload_n hx hb dL_account_0 rfl (lv_at hl 2 rfl) ?_
  refine lv_iconst (v := 0) hx hb dL_account_1 (by decide) ?_
  refine lv_aload_n hx hb dL_account_2 rfl (lv_at hl 0 rfl) ?_
  refine lv_iload_n hx hb dL_account_3 rfl (lv_at hl 1 rfl) ?_
  refine jVx C dL_account_4 (k_X8_account l hl0 D G B ks va N S v1 r hV) jy_X8_account jq_43_10 jq_43_11 jq_43_12 ⟨Nat.le_of_ble_eq_true rfl, Nat.le_of_ble_eq_true rfl⟩ ⟨Nat.le_of_ble_eq_true rfl, Nat.le_of_ble_eq_true rfl⟩ hZ (jMidP (pre := []) (mid := wTS B G S) (post := [((o, .inl (G 3, 1, .inr (.inl f))) : Nat × va_E)]) hP) (jMidD (pre := []) (mid := wTS B G S) (post := [((o, .inl (G 3, 1, .inr (.inl f))) : Nat × va_E)]) hD) hA hS (ci := 10) (iw := 0) rfl rfl rfl hl (As := [.int v1]) (rest := [.int 0, .ref o]) rfl (Nat.le_of_ble_eq_true rfl) (fun H1 locs hQ hz hkp hS => ?_)
  have hP : va_P D vwCl (wTS B G r.2.2 ++ [((o, .inl (G 3, 1, .inr (.inl f))) : Nat × va_E)]) H1 := jMidJoin (pre := ([] : va_W)) (mid := wTS B G S) (mid' := wTS B G r.2.2) (post := [((o, .inl (G 3, 1, .inr (.inl f))) : Nat × va_E)]) hP hD hkp hQ
  have hD := jDT r.2.2 hD
  clear hQ hz hkp
  refine ⟨fun hk0 => ?_, fun hkn ce q hce hcv hcl => ?_⟩
  · have ek : hk_account r.1 = 0 := by rw [hk0]; rfl
    have eo : (hO r.1 f r.2.1) = vp_updL f (0 : Int32).toNatClampNeg r.2.1.toInt64 := if_pos hk0
    rw [ek, eo]
    refine lv_i2l hx hb dL_account_7 rfl ?_
    refine va_last (D := D) (n := 1) (f := f) hx hb hK hP hD hS (wTS B G r.2.2).length 3 (jLast _ _) rfl (inb_of (by decide)) dL_account_8 (fun H2 locs hP hD hS => ?_)
    rw [jSetLast] at hP hD
    refine lv_goto (tgt := 15) hx hb dL_account_9 (by decide) ?_
    refine lv_iconst (v := 0) hx hb dL_account_15 (by decide) ?_
    exact hRet C dL_account_16 (Nat.le_of_ble_eq_true rfl) (Nat.le_of_ble_eq_true rfl) hP hS
  · have eo : (hO r.1 f r.2.1) = f := if_neg hkn
    rw [eo]
    rcases hk with hk | hk
    · exact absurd hk hkn
    · have ek : hk_account r.1 = 1 := by rw [hk]; rfl
      rw [ek]
      rw [hk] at hcl
      have hcl : s.vm.findClass "java/lang/IllegalArgumentException" = some ce.cls := hcl
      refine vx_catch (own := RL) (name := "java/lang/IllegalArgumentException") (E := "java/lang/IllegalArgumentException") hown [] (⟨0, 9, 12, 15⟩ : ExceptionTableEntry) [] (htab.trans rfl) ?_ rfl (by decide : (15 : Nat) ≠ 0) (hts _ jq_6_10) (va_Nw.use rfl (hK0.2 _ jn_58)) hce hcv hcl ?_
      · intro z hz
        exact absurd hz List.not_mem_nil
      · refine lv_astore_n (lv' := [(3, .ref q), (0, .ref (B 9 0)), (1, .int v1), (2, .ref o)]) hx hb dL_account_12 rfl hl (by decide) rfl (fun ls hl => ?_)
        refine lv_iconst (v := 1) hx hb dL_account_13 (by decide) ?_
        exact hRet C dL_account_14 (Nat.le_of_ble_eq_true rfl) (Nat.le_of_ble_eq_true rfl) hP hS
def hk_append (k : Int32) : Int32 := if k = 2 then 1 else if k = 3 then 2 else 0
set_option maxHeartbeats 4000000 in
set_option maxRecDepth 100000 in
theorem kh_append (l : Launch) (hl0 : l.stackTraces = false) (D : va_G) (G : Nat → ClassId) (B : Nat → Nat → Nat) (ks va : Nat → Nat) (o : Nat) (f : Nat → Int64) (N : Nat) (S : Nat → Nat → Nat → Int32) (v1 : Int32) (r : Int32 × Int32 × (Nat → Nat → Nat → Int32)) (hV : F_X8_append N S v1 = some r) (hk : r.1 = 0 ∨ r.1 = 2 ∨ r.1 = 3) : hM l yL_append (Cond.codeWith yL_append cL_append 4 (some .int) [(0, 9, 12, 15), (0, 9, 15, 30)] :: jw) ({ frames := 9, cells := 2, slots := 12, locals := 141 } : Room) [.ref (B 9 0), .int v1, .ref o] D G ks va (wTS B G S ++ [((o, .inl (G 3, 1, .inr (.inl f))) : Nat × va_E)]) (wTS B G r.2.2 ++ [((o, .inl (G 3, 1, .inr (.inl (hO r.1 f r.2.1)))) : Nat × va_E)]) (hk_append r.1) := by
  refine hM_of (by decide +kernel) (Nat.le_of_ble_eq_true rfl) (fun p e s m args below meth c ls A C htab hP hD hA hZ hC hl => ?_)
  have C : Cx p s m args meth c cL_append 4 RL (some .int) D G := C
  obtain ⟨hx, hb, hr, hml, hts, hown, hlocks, hK0⟩ := id C
  have hK := hK0.1
  have hS : va_S A s.heap s.heap [] := va_S.rf
  have hl : lv_has ls 4 [(0, .ref (B 9 0)), (1, .int v1), (2, .ref o)] := hl
  refine lv_aload_n hx hb dL_append_0 rfl (lv_at hl 2 rfl) ?_
  refine lv_iconst (v := 0) hx hb dL_append_1 (by decide) ?_
  refine lv_aload_n hx hb dL_append_2 rfl (lv_at hl 0 rfl) ?_
  refine lv_iload_n hx hb dL_append_3 rfl (lv_at hl 1 rfl) ?_
  refine jVx C dL_append_4 (k_X8_append l hl0 D G B ks va N S v1 r hV) jy_X8_append jq_44_7 jq_44_8 jq_44_9 ⟨Nat.le_of_ble_eq_true rfl, Nat.le_of_ble_eq_true rfl⟩ ⟨Nat.le_of_ble_eq_true rfl, Nat.le_of_ble_eq_true rfl⟩ hZ (jMidP (pre := []) (mid := wTS B G S) (post := [((o, .inl (G 3, 1, .inr (.inl f))) : Nat × va_E)]) hP) (jMidD (pre := []) (mid := wTS B G S) (post := [((o, .inl (G 3, 1, .inr (.inl f))) : Nat × va_E)]) hD) hA hS (ci := 10) (iw := 0) rfl rfl rfl hl (As := [.int v1]) (rest := [.int 0, .ref o]) rfl (Nat.le_of_ble_eq_true rfl) (fun H1 locs hQ hz hkp hS => ?_)
  have hP : va_P D vwCl (wTS B G r.2.2 ++ [((o, .inl (G 3, 1, .inr (.inl f))) : Nat × va_E)]) H1 := jMidJoin (pre := ([] : va_W)) (mid := wTS B G S) (mid' := wTS B G r.2.2) (post := [((o, .inl (G 3, 1, .inr (.inl f))) : Nat × va_E)]) hP hD hkp hQ
  have hD := jDT r.2.2 hD
  clear hQ hz hkp
  refine ⟨fun hk0 => ?_, fun hkn ce q hce hcv hcl => ?_⟩
  · have ek : hk_append r.1 = 0 := by rw [hk0]; rfl
    have eo : (hO r.1 f r.2.1) = vp_updL f (0 : Int32).toNatClampNeg r.2.1.toInt64 := if_pos hk0
    rw [ek, eo]
    refine lv_i2l hx hb dL_append_7 rfl ?_
    refine va_last (D := D) (n := 1) (f := f) hx hb hK hP hD hS (wTS B G r.2.2).length 3 (jLast _ _) rfl (inb_of (by decide)) dL_append_8 (fun H2 locs hP hD hS => ?_)
    rw [jSetLast] at hP hD
    refine lv_goto (tgt := 18) hx hb dL_append_9 (by decide) ?_
    refine lv_iconst (v := 0) hx hb dL_append_18 (by decide) ?_
    exact hRet C dL_append_19 (Nat.le_of_ble_eq_true rfl) (Nat.le_of_ble_eq_true rfl) hP hS
  · have eo : (hO r.1 f r.2.1) = f := if_neg hkn
    rw [eo]
    rcases hk with hk | hk | hk
    · exact absurd hk hkn
    · have ek : hk_append r.1 = 1 := by rw [hk]; rfl
      rw [ek]
      rw [hk] at hcl
      have hcl : s.vm.findClass "java/lang/IllegalArgumentException" = some ce.cls := hcl
      refine vx_catch (own := RL) (name := "java/lang/IllegalArgumentException") (E := "java/lang/IllegalArgumentException") hown [] (⟨0, 9, 12, 15⟩ : ExceptionTableEntry) [(⟨0, 9, 15, 30⟩ : ExceptionTableEntry)] (htab.trans rfl) ?_ rfl (by decide : (15 : Nat) ≠ 0) (hts _ jq_6_10) (va_Nw.use rfl (hK0.2 _ jn_58)) hce hcv hcl ?_
      · intro z hz
        exact absurd hz List.not_mem_nil
      · refine lv_astore_n (lv' := [(3, .ref q), (0, .ref (B 9 0)), (1, .int v1), (2, .ref o)]) hx hb dL_append_12 rfl hl (by decide) rfl (fun ls hl => ?_)
        refine lv_iconst (v := 1) hx hb dL_append_13 (by decide) ?_
        exact hRet C dL_append_14 (Nat.le_of_ble_eq_true rfl) (Nat.le_of_ble_eq_true rfl) hP hS
    · have ek : hk_append r.1 = 2 := by rw [hk]; rfl
      rw [ek]
      rw [hk] at hcl
      have hcl : s.vm.findClass "java/lang/IllegalStateException" = some ce.cls := hcl
      refine vx_catch (own := RL) (name := "java/lang/IllegalStateException") (E := "java/lang/IllegalStateException") hown [(⟨0, 9, 12, 15⟩ : ExceptionTableEntry)] (⟨0, 9, 15, 30⟩ : ExceptionTableEntry) [] (htab.trans rfl) ?_ rfl (by decide : (30 : Nat) ≠ 0) (hts _ jq_19_17) (va_Nw.use rfl (hK0.2 _ jn_59)) hce hcv hcl ?_
      · intro z hz
        rcases List.mem_cons.mp hz with rfl | hz
        · exact Or.inr ⟨(by decide : (15 : Nat) ≠ 0), "java/lang/IllegalArgumentException", hts _ jq_6_10, hC 3 2 (by decide) (by decide) (by decide) (by decide) (by decide)⟩
        exact absurd hz List.not_mem_nil
      · refine lv_astore_n (lv' := [(3, .ref q), (0, .ref (B 9 0)), (1, .int v1), (2, .ref o)]) hx hb dL_append_15 rfl hl (by decide) rfl (fun ls hl => ?_)
        refine lv_iconst (v := 2) hx hb dL_append_16 (by decide) ?_
        exact hRet C dL_append_17 (Nat.le_of_ble_eq_true rfl) (Nat.le_of_ble_eq_true rfl) hP hS
def hk_read (k : Int32) : Int32 := if k = 2 then 1 else if k = 3 then 2 else 0
set_option maxHeartbeats 4000000 in
set_option maxRecDepth 100000 in
theorem kh_read (l : Launch) (hl0 : l.stackTraces = false) (D : va_G) (G : Nat → ClassId) (B : Nat → Nat → Nat) (ks va : Nat → Nat) (o : Nat) (f : Nat → Int64) (N : Nat) (S : Nat → Nat → Nat → Int32) (r : Int32 × Int32 × (Nat → Nat → Nat → Int32)) (hV : F_X8_read N S  = some r) (hk : r.1 = 0 ∨ r.1 = 2 ∨ r.1 = 3) : hM l yL_read (Cond.codeWith yL_read cL_read 3 (some .int) [(0, 8, 11, 15), (0, 8, 14, 30)] :: jw) ({ frames := 8, cells := 1, slots := 6, locals := 233 } : Room) [.ref (B 9 0), .ref o] D G ks va (wTS B G S ++ [((o, .inl (G 3, 1, .inr (.inl f))) : Nat × va_E)]) (wTS B G r.2.2 ++ [((o, .inl (G 3, 1, .inr (.inl (hO r.1 f r.2.1)))) : Nat × va_E)]) (hk_read r.1) := by
  refine hM_of (by decide +kernel) (Nat.le_of_ble_eq_true rfl) (fun p e s m args below meth c ls A C htab hP hD hA hZ hC hl => ?_)
  have C : Cx p s m args meth c cL_read 3 RL (some .int) D G := C
  obtain ⟨hx, hb, hr, hml, hts, hown, hlocks, hK0⟩ := id C
  have hK := hK0.1
  have hS : va_S A s.heap s.heap [] := va_S.rf
  have hl : lv_has ls 3 [(0, .ref (B 9 0)), (1, .ref o)] := hl
  refine lv_aload_n hx hb dL_read_0 rfl (lv_at hl 1 rfl) ?_
  refine lv_iconst (v := 0) hx hb dL_read_1 (by decide) ?_
  refine lv_aload_n hx hb dL_read_2 rfl (lv_at hl 0 rfl) ?_
  refine jVx C dL_read_3 (k_X8_read l hl0 D G B ks va N S  r hV) jy_X8_read jq_44_23 jq_45_0 jq_45_1 ⟨Nat.le_of_ble_eq_true rfl, Nat.le_of_ble_eq_true rfl⟩ ⟨Nat.le_of_ble_eq_true rfl, Nat.le_of_ble_eq_true rfl⟩ hZ (jMidP (pre := []) (mid := wTS B G S) (post := [((o, .inl (G 3, 1, .inr (.inl f))) : Nat × va_E)]) hP) (jMidD (pre := []) (mid := wTS B G S) (post := [((o, .inl (G 3, 1, .inr (.inl f))) : Nat × va_E)]) hD) hA hS (ci := 10) (iw := 0) rfl rfl rfl hl (As := []) (rest := [.int 0, .ref o]) rfl (Nat.le_of_ble_eq_true rfl) (fun H1 locs hQ hz hkp hS => ?_)
  have hP : va_P D vwCl (wTS B G r.2.2 ++ [((o, .inl (G 3, 1, .inr (.inl f))) : Nat × va_E)]) H1 := jMidJoin (pre := ([] : va_W)) (mid := wTS B G S) (mid' := wTS B G r.2.2) (post := [((o, .inl (G 3, 1, .inr (.inl f))) : Nat × va_E)]) hP hD hkp hQ
  have hD := jDT r.2.2 hD
  clear hQ hz hkp
  refine ⟨fun hk0 => ?_, fun hkn ce q hce hcv hcl => ?_⟩
  · have ek : hk_read r.1 = 0 := by rw [hk0]; rfl
    have eo : (hO r.1 f r.2.1) = vp_updL f (0 : Int32).toNatClampNeg r.2.1.toInt64 := if_pos hk0
    rw [ek, eo]
    refine lv_i2l hx hb dL_read_6 rfl ?_
    refine va_last (D := D) (n := 1) (f := f) hx hb hK hP hD hS (wTS B G r.2.2).length 3 (jLast _ _) rfl (inb_of (by decide)) dL_read_7 (fun H2 locs hP hD hS => ?_)
    rw [jSetLast] at hP hD
    refine lv_goto (tgt := 17) hx hb dL_read_8 (by decide) ?_
    refine lv_iconst (v := 0) hx hb dL_read_17 (by decide) ?_
    exact hRet C dL_read_18 (Nat.le_of_ble_eq_true rfl) (Nat.le_of_ble_eq_true rfl) hP hS
  · have eo : (hO r.1 f r.2.1) = f := if_neg hkn
    rw [eo]
    rcases hk with hk | hk | hk
    · exact absurd hk hkn
    · have ek : hk_read r.1 = 1 := by rw [hk]; rfl
      rw [ek]
      rw [hk] at hcl
      have hcl : s.vm.findClass "java/lang/IllegalArgumentException" = some ce.cls := hcl
      refine vx_catch (own := RL) (name := "java/lang/IllegalArgumentException") (E := "java/lang/IllegalArgumentException") hown [] (⟨0, 8, 11, 15⟩ : ExceptionTableEntry) [(⟨0, 8, 14, 30⟩ : ExceptionTableEntry)] (htab.trans rfl) ?_ rfl (by decide : (15 : Nat) ≠ 0) (hts _ jq_6_10) (va_Nw.use rfl (hK0.2 _ jn_58)) hce hcv hcl ?_
      · intro z hz
        exact absurd hz List.not_mem_nil
      · refine lv_astore_n (lv' := [(2, .ref q), (0, .ref (B 9 0)), (1, .ref o)]) hx hb dL_read_11 rfl hl (by decide) rfl (fun ls hl => ?_)
        refine lv_iconst (v := 1) hx hb dL_read_12 (by decide) ?_
        exact hRet C dL_read_13 (Nat.le_of_ble_eq_true rfl) (Nat.le_of_ble_eq_true rfl) hP hS
    · have ek : hk_read r.1 = 2 := by rw [hk]; rfl
      rw [ek]
      rw [hk] at hcl
      have hcl : s.vm.findClass "java/lang/IllegalStateException" = some ce.cls := hcl
      refine vx_catch (own := RL) (name := "java/lang/IllegalStateException") (E := "java/lang/IllegalStateException") hown [(⟨0, 8, 11, 15⟩ : ExceptionTableEntry)] (⟨0, 8, 14, 30⟩ : ExceptionTableEntry) [] (htab.trans rfl) ?_ rfl (by decide : (30 : Nat) ≠ 0) (hts _ jq_19_17) (va_Nw.use rfl (hK0.2 _ jn_59)) hce hcv hcl ?_
      · intro z hz
        rcases List.mem_cons.mp hz with rfl | hz
        · exact Or.inr ⟨(by decide : (15 : Nat) ≠ 0), "java/lang/IllegalArgumentException", hts _ jq_6_10, hC 3 2 (by decide) (by decide) (by decide) (by decide) (by decide)⟩
        exact absurd hz List.not_mem_nil
      · refine lv_astore_n (lv' := [(2, .ref q), (0, .ref (B 9 0)), (1, .ref o)]) hx hb dL_read_14 rfl hl (by decide) rfl (fun ls hl => ?_)
        refine lv_iconst (v := 2) hx hb dL_read_15 (by decide) ?_
        exact hRet C dL_read_16 (Nat.le_of_ble_eq_true rfl) (Nat.le_of_ble_eq_true rfl) hP hS
def hk_errorPosition (k : Int32) : Int32 := if k = 5 then 1 else 0
set_option maxHeartbeats 4000000 in
set_option maxRecDepth 100000 in
theorem kh_errorPosition (l : Launch) (hl0 : l.stackTraces = false) (D : va_G) (G : Nat → ClassId) (B : Nat → Nat → Nat) (ks va : Nat → Nat) (o : Nat) (f : Nat → Int64) (N : Nat) (S : Nat → Nat → Nat → Int32) (r : Int32 × Int32 × (Nat → Nat → Nat → Int32)) (hV : F_X8_errorPosition N S  = some r) (hk : r.1 = 0 ∨ r.1 = 5) : hM l yL_errorPosition (Cond.codeWith yL_errorPosition cL_errorPosition 3 (some .int) [(0, 8, 11, 51)] :: jw) ({ frames := 8, cells := 1, slots := 6, locals := 120 } : Room) [.ref (B 9 0), .ref o] D G ks va (wTS B G S ++ [((o, .inl (G 3, 1, .inr (.inl f))) : Nat × va_E)]) (wTS B G r.2.2 ++ [((o, .inl (G 3, 1, .inr (.inl (hO r.1 f r.2.1)))) : Nat × va_E)]) (hk_errorPosition r.1) := by
  refine hM_of (by decide +kernel) (Nat.le_of_ble_eq_true rfl) (fun p e s m args below meth c ls A C htab hP hD hA hZ hC hl => ?_)
  have C : Cx p s m args meth c cL_errorPosition 3 RL (some .int) D G := C
  obtain ⟨hx, hb, hr, hml, hts, hown, hlocks, hK0⟩ := id C
  have hK := hK0.1
  have hS : va_S A s.heap s.heap [] := va_S.rf
  have hl : lv_has ls 3 [(0, .ref (B 9 0)), (1, .ref o)] := hl
  refine lv_aload_n hx hb dL_errorPosition_0 rfl (lv_at hl 1 rfl) ?_
  refine lv_iconst (v := 0) hx hb dL_errorPosition_1 (by decide) ?_
  refine lv_aload_n hx hb dL_errorPosition_2 rfl (lv_at hl 0 rfl) ?_
  refine jVx C dL_errorPosition_3 (k_X8_errorPosition l hl0 D G B ks va N S  r hV) jy_X8_errorPosition jq_50_20 jq_50_21 jq_50_22 ⟨Nat.le_of_ble_eq_true rfl, Nat.le_of_ble_eq_true rfl⟩ ⟨Nat.le_of_ble_eq_true rfl, Nat.le_of_ble_eq_true rfl⟩ hZ (jMidP (pre := []) (mid := wTS B G S) (post := [((o, .inl (G 3, 1, .inr (.inl f))) : Nat × va_E)]) hP) (jMidD (pre := []) (mid := wTS B G S) (post := [((o, .inl (G 3, 1, .inr (.inl f))) : Nat × va_E)]) hD) hA hS (ci := 10) (iw := 0) rfl rfl rfl hl (As := []) (rest := [.int 0, .ref o]) rfl (Nat.le_of_ble_eq_true rfl) (fun H1 locs hQ hz hkp hS => ?_)
  have hP : va_P D vwCl (wTS B G r.2.2 ++ [((o, .inl (G 3, 1, .inr (.inl f))) : Nat × va_E)]) H1 := jMidJoin (pre := ([] : va_W)) (mid := wTS B G S) (mid' := wTS B G r.2.2) (post := [((o, .inl (G 3, 1, .inr (.inl f))) : Nat × va_E)]) hP hD hkp hQ
  have hD := jDT r.2.2 hD
  clear hQ hz hkp
  refine ⟨fun hk0 => ?_, fun hkn ce q hce hcv hcl => ?_⟩
  · have ek : hk_errorPosition r.1 = 0 := by rw [hk0]; rfl
    have eo : (hO r.1 f r.2.1) = vp_updL f (0 : Int32).toNatClampNeg r.2.1.toInt64 := if_pos hk0
    rw [ek, eo]
    refine lv_i2l hx hb dL_errorPosition_6 rfl ?_
    refine va_last (D := D) (n := 1) (f := f) hx hb hK hP hD hS (wTS B G r.2.2).length 3 (jLast _ _) rfl (inb_of (by decide)) dL_errorPosition_7 (fun H2 locs hP hD hS => ?_)
    rw [jSetLast] at hP hD
    refine lv_goto (tgt := 14) hx hb dL_errorPosition_8 (by decide) ?_
    refine lv_iconst (v := 0) hx hb dL_errorPosition_14 (by decide) ?_
    exact hRet C dL_errorPosition_15 (Nat.le_of_ble_eq_true rfl) (Nat.le_of_ble_eq_true rfl) hP hS
  · have eo : (hO r.1 f r.2.1) = f := if_neg hkn
    rw [eo]
    rcases hk with hk | hk
    · exact absurd hk hkn
    · have ek : hk_errorPosition r.1 = 1 := by rw [hk]; rfl
      rw [ek]
      rw [hk] at hcl
      have hcl : s.vm.findClass "java/util/NoSuchElementException" = some ce.cls := hcl
      refine vx_catch (own := RL) (name := "java/util/NoSuchElementException") (E := "java/util/NoSuchElementException") hown [] (⟨0, 8, 11, 51⟩ : ExceptionTableEntry) [] (htab.trans rfl) ?_ rfl (by decide : (51 : Nat) ≠ 0) (hts _ jq_28_4) (va_Nw.use rfl (hK0.2 _ jn_61)) hce hcv hcl ?_
      · intro z hz
        exact absurd hz List.not_mem_nil
      · refine lv_astore_n (lv' := [(2, .ref q), (0, .ref (B 9 0)), (1, .ref o)]) hx hb dL_errorPosition_11 rfl hl (by decide) rfl (fun ls hl => ?_)
        refine lv_iconst (v := 1) hx hb dL_errorPosition_12 (by decide) ?_
        exact hRet C dL_errorPosition_13 (Nat.le_of_ble_eq_true rfl) (Nat.le_of_ble_eq_true rfl) hP hS
def hk_undo (k : Int32) : Int32 := if k = 5 then 1 else 0
set_option maxHeartbeats 4000000 in
set_option maxRecDepth 100000 in
theorem kh_undo (l : Launch) (hl0 : l.stackTraces = false) (D : va_G) (G : Nat → ClassId) (B : Nat → Nat → Nat) (ks va : Nat → Nat) (o : Nat) (f : Nat → Int64) (N : Nat) (S : Nat → Nat → Nat → Int32) (r : Int32 × Int32 × (Nat → Nat → Nat → Int32)) (hV : F_X8_undo N S  = some r) (hk : r.1 = 0 ∨ r.1 = 5) : hM l yL_undo (Cond.codeWith yL_undo cL_undo 3 (some .int) [(0, 8, 11, 51)] :: jw) ({ frames := 8, cells := 1, slots := 6, locals := 231 } : Room) [.ref (B 9 0), .ref o] D G ks va (wTS B G S ++ [((o, .inl (G 3, 1, .inr (.inl f))) : Nat × va_E)]) (wTS B G r.2.2 ++ [((o, .inl (G 3, 1, .inr (.inl (hO r.1 f r.2.1)))) : Nat × va_E)]) (hk_undo r.1) := by
  refine hM_of (by decide +kernel) (Nat.le_of_ble_eq_true rfl) (fun p e s m args below meth c ls A C htab hP hD hA hZ hC hl => ?_)
  have C : Cx p s m args meth c cL_undo 3 RL (some .int) D G := C
  obtain ⟨hx, hb, hr, hml, hts, hown, hlocks, hK0⟩ := id C
  have hK := hK0.1
  have hS : va_S A s.heap s.heap [] := va_S.rf
  have hl : lv_has ls 3 [(0, .ref (B 9 0)), (1, .ref o)] := hl
  refine lv_aload_n hx hb dL_undo_0 rfl (lv_at hl 1 rfl) ?_
  refine lv_iconst (v := 0) hx hb dL_undo_1 (by decide) ?_
  refine lv_aload_n hx hb dL_undo_2 rfl (lv_at hl 0 rfl) ?_
  refine jVx C dL_undo_3 (k_X8_undo l hl0 D G B ks va N S  r hV) jy_X8_undo jq_51_7 jq_51_8 jq_51_9 ⟨Nat.le_of_ble_eq_true rfl, Nat.le_of_ble_eq_true rfl⟩ ⟨Nat.le_of_ble_eq_true rfl, Nat.le_of_ble_eq_true rfl⟩ hZ (jMidP (pre := []) (mid := wTS B G S) (post := [((o, .inl (G 3, 1, .inr (.inl f))) : Nat × va_E)]) hP) (jMidD (pre := []) (mid := wTS B G S) (post := [((o, .inl (G 3, 1, .inr (.inl f))) : Nat × va_E)]) hD) hA hS (ci := 10) (iw := 0) rfl rfl rfl hl (As := []) (rest := [.int 0, .ref o]) rfl (Nat.le_of_ble_eq_true rfl) (fun H1 locs hQ hz hkp hS => ?_)
  have hP : va_P D vwCl (wTS B G r.2.2 ++ [((o, .inl (G 3, 1, .inr (.inl f))) : Nat × va_E)]) H1 := jMidJoin (pre := ([] : va_W)) (mid := wTS B G S) (mid' := wTS B G r.2.2) (post := [((o, .inl (G 3, 1, .inr (.inl f))) : Nat × va_E)]) hP hD hkp hQ
  have hD := jDT r.2.2 hD
  clear hQ hz hkp
  refine ⟨fun hk0 => ?_, fun hkn ce q hce hcv hcl => ?_⟩
  · have ek : hk_undo r.1 = 0 := by rw [hk0]; rfl
    have eo : (hO r.1 f r.2.1) = vp_updL f (0 : Int32).toNatClampNeg r.2.1.toInt64 := if_pos hk0
    rw [ek, eo]
    refine lv_i2l hx hb dL_undo_6 rfl ?_
    refine va_last (D := D) (n := 1) (f := f) hx hb hK hP hD hS (wTS B G r.2.2).length 3 (jLast _ _) rfl (inb_of (by decide)) dL_undo_7 (fun H2 locs hP hD hS => ?_)
    rw [jSetLast] at hP hD
    refine lv_goto (tgt := 14) hx hb dL_undo_8 (by decide) ?_
    refine lv_iconst (v := 0) hx hb dL_undo_14 (by decide) ?_
    exact hRet C dL_undo_15 (Nat.le_of_ble_eq_true rfl) (Nat.le_of_ble_eq_true rfl) hP hS
  · have eo : (hO r.1 f r.2.1) = f := if_neg hkn
    rw [eo]
    rcases hk with hk | hk
    · exact absurd hk hkn
    · have ek : hk_undo r.1 = 1 := by rw [hk]; rfl
      rw [ek]
      rw [hk] at hcl
      have hcl : s.vm.findClass "java/util/NoSuchElementException" = some ce.cls := hcl
      refine vx_catch (own := RL) (name := "java/util/NoSuchElementException") (E := "java/util/NoSuchElementException") hown [] (⟨0, 8, 11, 51⟩ : ExceptionTableEntry) [] (htab.trans rfl) ?_ rfl (by decide : (51 : Nat) ≠ 0) (hts _ jq_28_4) (va_Nw.use rfl (hK0.2 _ jn_61)) hce hcv hcl ?_
      · intro z hz
        exact absurd hz List.not_mem_nil
      · refine lv_astore_n (lv' := [(2, .ref q), (0, .ref (B 9 0)), (1, .ref o)]) hx hb dL_undo_11 rfl hl (by decide) rfl (fun ls hl => ?_)
        refine lv_iconst (v := 1) hx hb dL_undo_12 (by decide) ?_
        exact hRet C dL_undo_13 (Nat.le_of_ble_eq_true rfl) (Nat.le_of_ble_eq_true rfl) hP hS
def hk_restore (k : Int32) : Int32 := if k = 3 then 1 else 0
set_option maxHeartbeats 4000000 in
set_option maxRecDepth 100000 in
theorem kh_restore (l : Launch) (hl0 : l.stackTraces = false) (D : va_G) (G : Nat → ClassId) (B : Nat → Nat → Nat) (ks va : Nat → Nat) (o : Nat) (f : Nat → Int64) (N : Nat) (S : Nat → Nat → Nat → Int32) (r : Int32 × Int32 × (Nat → Nat → Nat → Int32)) (hV : F_X8_restore N S  = some r) (hk : r.1 = 0 ∨ r.1 = 3) : hM l yL_restore (Cond.codeWith yL_restore cL_restore 3 (some .int) [(0, 8, 11, 30)] :: jw) ({ frames := 8, cells := 1, slots := 6, locals := 171 } : Room) [.ref (B 9 0), .ref o] D G ks va (wTS B G S ++ [((o, .inl (G 3, 1, .inr (.inl f))) : Nat × va_E)]) (wTS B G r.2.2 ++ [((o, .inl (G 3, 1, .inr (.inl (hO r.1 f r.2.1)))) : Nat × va_E)]) (hk_restore r.1) := by
  refine hM_of (by decide +kernel) (Nat.le_of_ble_eq_true rfl) (fun p e s m args below meth c ls A C htab hP hD hA hZ hC hl => ?_)
  have C : Cx p s m args meth c cL_restore 3 RL (some .int) D G := C
  obtain ⟨hx, hb, hr, hml, hts, hown, hlocks, hK0⟩ := id C
  have hK := hK0.1
  have hS : va_S A s.heap s.heap [] := va_S.rf
  have hl : lv_has ls 3 [(0, .ref (B 9 0)), (1, .ref o)] := hl
  refine lv_aload_n hx hb dL_restore_0 rfl (lv_at hl 1 rfl) ?_
  refine lv_iconst (v := 0) hx hb dL_restore_1 (by decide) ?_
  refine lv_aload_n hx hb dL_restore_2 rfl (lv_at hl 0 rfl) ?_
  refine jVx C dL_restore_3 (k_X8_restore l hl0 D G B ks va N S  r hV) jy_X8_restore jq_52_9 jq_52_10 jq_52_11 ⟨Nat.le_of_ble_eq_true rfl, Nat.le_of_ble_eq_true rfl⟩ ⟨Nat.le_of_ble_eq_true rfl, Nat.le_of_ble_eq_true rfl⟩ hZ (jMidP (pre := []) (mid := wTS B G S) (post := [((o, .inl (G 3, 1, .inr (.inl f))) : Nat × va_E)]) hP) (jMidD (pre := []) (mid := wTS B G S) (post := [((o, .inl (G 3, 1, .inr (.inl f))) : Nat × va_E)]) hD) hA hS (ci := 10) (iw := 0) rfl rfl rfl hl (As := []) (rest := [.int 0, .ref o]) rfl (Nat.le_of_ble_eq_true rfl) (fun H1 locs hQ hz hkp hS => ?_)
  have hP : va_P D vwCl (wTS B G r.2.2 ++ [((o, .inl (G 3, 1, .inr (.inl f))) : Nat × va_E)]) H1 := jMidJoin (pre := ([] : va_W)) (mid := wTS B G S) (mid' := wTS B G r.2.2) (post := [((o, .inl (G 3, 1, .inr (.inl f))) : Nat × va_E)]) hP hD hkp hQ
  have hD := jDT r.2.2 hD
  clear hQ hz hkp
  refine ⟨fun hk0 => ?_, fun hkn ce q hce hcv hcl => ?_⟩
  · have ek : hk_restore r.1 = 0 := by rw [hk0]; rfl
    have eo : (hO r.1 f r.2.1) = vp_updL f (0 : Int32).toNatClampNeg r.2.1.toInt64 := if_pos hk0
    rw [ek, eo]
    refine lv_i2l hx hb dL_restore_6 rfl ?_
    refine va_last (D := D) (n := 1) (f := f) hx hb hK hP hD hS (wTS B G r.2.2).length 3 (jLast _ _) rfl (inb_of (by decide)) dL_restore_7 (fun H2 locs hP hD hS => ?_)
    rw [jSetLast] at hP hD
    refine lv_goto (tgt := 14) hx hb dL_restore_8 (by decide) ?_
    refine lv_iconst (v := 0) hx hb dL_restore_14 (by decide) ?_
    exact hRet C dL_restore_15 (Nat.le_of_ble_eq_true rfl) (Nat.le_of_ble_eq_true rfl) hP hS
  · have eo : (hO r.1 f r.2.1) = f := if_neg hkn
    rw [eo]
    rcases hk with hk | hk
    · exact absurd hk hkn
    · have ek : hk_restore r.1 = 1 := by rw [hk]; rfl
      rw [ek]
      rw [hk] at hcl
      have hcl : s.vm.findClass "java/lang/IllegalStateException" = some ce.cls := hcl
      refine vx_catch (own := RL) (name := "java/lang/IllegalStateException") (E := "java/lang/IllegalStateException") hown [] (⟨0, 8, 11, 30⟩ : ExceptionTableEntry) [] (htab.trans rfl) ?_ rfl (by decide : (30 : Nat) ≠ 0) (hts _ jq_19_17) (va_Nw.use rfl (hK0.2 _ jn_59)) hce hcv hcl ?_
      · intro z hz
        exact absurd hz List.not_mem_nil
      · refine lv_astore_n (lv' := [(2, .ref q), (0, .ref (B 9 0)), (1, .ref o)]) hx hb dL_restore_11 rfl hl (by decide) rfl (fun ls hl => ?_)
        refine lv_iconst (v := 1) hx hb dL_restore_12 (by decide) ?_
        exact hRet C dL_restore_13 (Nat.le_of_ble_eq_true rfl) (Nat.le_of_ble_eq_true rfl) hP hS
