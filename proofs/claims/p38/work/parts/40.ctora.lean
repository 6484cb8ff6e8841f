/-! constructors: a contract whose world behind it is had by its addresses -/
abbrev iQ {S : Type} (D : va_G) (post : S → Prop) (w' : S → va_W) (A : Nat → Prop) : Array Value → State → Outcome → State → Prop := va_Qv post (fun u t => va_P D vwCl (w' u) t.heap ∧ va_D A (w' u)) A
def iM {S : Type} (l : Launch) (y : MethodName) (cc : ByteArray) (maxL : Nat) (rm : Room) (As : List Value) (D : va_G) (G : Nat → ClassId) (w : va_W) (post : S → Prop) (w' : S → va_W) (mc ms : Nat) : Prop :=
  ∀ sz : Nat, Met l y (jws y cc maxL none) rm (va_Pc As (fun U => U.heap.size = sz ∧ va_P D vwCl w U.heap ∧ jK D G U ∧ va_D (fun _ => True) w)) (iQ D post w' (va_A w sz)) mc ms (va_A w sz)
theorem iM_of {S : Type} {l : Launch} {y : MethodName} {cc : ByteArray} {maxL : Nat} {rm : Room} {As : List Value} {D : va_G} {G : Nat → ClassId} {w : va_W} {post : S → Prop} {w' : S → va_W} {mc ms : Nat} (hy : plainName y.cls = true) (hyn : y.name = "<init>") (hlen : (lg_sl As).length ≤ maxL)
    (body : ∀ (p : Program) (e : Env) (s : State) (m : MethodId) (args : Array Value) (below : List Frame) (meth : Method) (c : Code) (ls : Array Slot) (A : Nat → Prop), Cx p s m args meth c cc maxL y.cls none D G → meth.name = "<init>" → va_P D vwCl w s.heap → va_D A w → (∀ q : Nat, s.heap.size ≤ q → A q) → lv_has ls maxL (lv_args 0 As) → W p l e rm s m args below meth c s.heap [] 0 0 (MQ below (iQ D post w' A) args s mc ms A) (F0 m 0 ls [])) :
    iM l y cc maxL rm As D G w post w' mc ms := by
  intro sz
  refine Met.ofW (cc := cc) (maxL := maxL) (ret := none) hy rfl ?_
  intro p e s m args below meth c s₁ B hml hv
  obtain ⟨rfl, hsz, hP, hK, hD0⟩ := hv
  have hts := atoms_spec (ws := jws y cc maxL none) B.pre
  subst hsz
  rw [lg_entry_eq]
  exact body p e s m _ below meth c _ (va_A w s.heap.size) ⟨B.exec, B.bytes, B.returns, hml, fun w h => hts w (List.mem_cons_of_mem _ h), findClass_of_methodNamed B.named, B.notSynchronized, hK⟩ ((name_of_methodNamed B.named B.method).1.trans hyn) hP hD0.self (fun q h => Or.inr h) (lv_entry As hlen)
section JI
variable {p : Program} {l : Launch} {e : Env} {R : Room} {s : State} {m : MethodId} {args : Array Value} {below : List Frame} {meth : Method} {c : Code} {H : Heap} {locs : List Loc} {cells slots : Nat} {Q : State → Prop} {cc : ByteArray} {nL : Nat} {own : String} {ret : Option FieldType} {D : va_G} {G : Nat → ClassId} {pc : Nat} {ls : Array Slot} {A : Nat → Prop} {ws wc : va_W}
  {y : MethodName} {bytes : ByteArray} {maxL index : Nat} {rm : Room} {As rest st0 : List Value} {b : Nat}
/-- 'new C; dup' -/
theorem jNew (C : Cx p s m args meth c cc nL own ret D G) {Cn : String} {T : u_T} {N ci : Nat} (hin : ∀ w ∈ u_ws Cn T N, w ∈ jw) (ty : Nat → FieldType) (hty : ∀ k, k < N → parseFieldDescriptor (T k).2.2.1 = some (ty k)) (hcl : Cond.classLink own index Cn ∈ jw) (hinst : Cond.instantiable Cn N ∈ jw) (hini : Cond.initialized Cn ∈ jw)
    (hP : va_P D vwCl ws H) (hD : va_D A ws) (hS : va_S A s.heap H locs) (hA : ∀ q : Nat, s.heap.size ≤ q → A q) (hc : vwCl[ci]? = some (Cn, T, N)) {fs : List Value} (hfs : ∀ j, j < N → defaultValue (ty j) = vp_V fs j) (hcells : cells + 1 ≤ R.cells) (hslots : slots + N ≤ R.slots) (d0 : decode cc pc = .ok (.new index, 3)) (d3 : decode cc (pc + 3) = .ok (.dup, 1))
    (kk : ∀ (q : Nat) (H1 : Heap), va_P D vwCl (ws ++ [(q, .inr (ci, fs))]) H1 → va_D A (ws ++ [(q, .inr (ci, fs))]) → va_S A s.heap H1 locs → W p l e R s m args below meth c H1 locs (cells + 1) (slots + N) Q (F0 m (pc + 4) ls (.ref q :: .ref q :: rest))) : W p l e R s m args below meth c H locs cells slots Q (F0 m pc ls rest) := by
  obtain ⟨hx, hb, hr, hml, hts, hown, hlocks, hK⟩ := id C
  refine va_new (ci := ci) (fs := fs) (C := Cn) (T := T) (N := N) hx hb hts hin ty hty hown (hts _ hcl) (hts _ hinst) (hts _ hini) hK.1 hP hD hS hA hc hfs hcells hslots d0 (fun q H1 hP hD hS => ?_)
  exact lv_dup hx hb d3 rfl (kk q H1 hP hD hS)
theorem jJoinD {D' : va_G} {w1 : va_W} (hP : va_P D' vwCl (ws ++ wc) H) (hD : va_D A (ws ++ wc)) (h1 : va_D (va_A wc H.size) w1) (hF : ∀ q, va_A wc H.size q → A q) : va_D A (ws ++ w1) := by
  have hat : ∀ (k : Nat) (q : Nat × va_E), ws[k]? = some q → (ws ++ wc)[k]? = some q := fun k q hk => by
    rw [List.getElem?_append_left (List.getElem?_eq_some_iff.mp hk).1]; exact hk
  have hn : ∀ (k : Nat) (q : Nat × va_E), ws[k]? = some q → ¬ va_A wc H.size q.1 := by
    intro k q hk hq
    have hl := (List.getElem?_eq_some_iff.mp hk).1
    rcases hq with ⟨j, e, hj⟩ | hq
    · have hj2 : (ws ++ wc)[ws.length + j]? = some (q.1, e) := by
        rw [List.getElem?_append_right (by omega), Nat.add_sub_cancel_left]; exact hj
      have := hD.1 _ _ q (q.1, e) (hat k q hk) hj2 rfl
      omega
    · have := (hP k q (hat k q hk)).lt
      omega
  constructor
  · intro i j x y hi hj hxy
    by_cases h3 : i < ws.length
    · rw [List.getElem?_append_left h3] at hi
      by_cases h4 : j < ws.length
      · rw [List.getElem?_append_left h4] at hj
        exact hD.1 i j x y (hat i x hi) (hat j y hj) hxy
      · rw [List.getElem?_append_right (by omega)] at hj
        exact absurd (by rw [hxy]; exact h1.2 _ y hj) (hn i x hi)
    · rw [List.getElem?_append_right (by omega)] at hi
      by_cases h4 : j < ws.length
      · rw [List.getElem?_append_left h4] at hj
        exact absurd (by rw [← hxy]; exact h1.2 _ x hi) (hn j y hj)
      · rw [List.getElem?_append_right (by omega)] at hj
        have := h1.1 _ _ x y hi hj hxy
        omega
  · intro k q hk
    by_cases h3 : k < ws.length
    · rw [List.getElem?_append_left h3] at hk
      exact hD.2 k q (hat k q hk)
    · rw [List.getElem?_append_right (by omega)] at hk
      exact hF _ (h1.2 _ q hk)
/-- 'invokespecial <init>' of what was just made -/
theorem jIniG {S : Type} {post : S → Prop} {w' : S → va_W} {mc ms : Nat} (C : Cx p s m args meth c cc nL own ret D G)
    (hr : va_Run p l e R s m args below meth c H locs cells slots mc ms (F0 m pc ls st0) rest (iQ D post w' (va_A wc H.size) (Value.ref b :: As).toArray) (va_A wc H.size))
    (hP : va_P D vwCl (ws ++ wc) H) (hD : va_D A (ws ++ wc)) (hS : va_S A s.heap H locs) (hA : ∀ q : Nat, s.heap.size ≤ q → A q)
    (kk : ∀ (u : S) (H1 : Heap) (locs1 : List Loc), post u → va_P D vwCl (ws ++ w' u) H1 → va_D A (ws ++ w' u) → va_S A s.heap H1 locs1 → W p l e R s m args below meth c H1 locs1 (cells + mc) (slots + ms) Q (F0 m (pc + 3) ls rest)) : W p l e R s m args below meth c H locs cells slots Q (F0 m pc ls st0) := by
  have hPn : va_P D vwCl (ws ++ (wc ++ [])) H := by rw [List.append_nil]; exact hP
  have hDn : va_D A (ws ++ (wc ++ [])) := by rw [List.append_nil]; exact hD
  have hDc : va_D A wc := jMidD hDn
  have hF : ∀ q, va_A wc H.size q → A q := by
    intro q h
    rcases h with ⟨k, e, h⟩ | h
    · exact hDc.2 k _ h
    · exact hA q (Nat.le_trans hS.1 h)
  refine va_callv hr hS (fun q _ h => hF q h) hF (fun u t H1 locs1 ht hvm h5 hB hz hk hS => ?_)
  rw [ht] at hB
  have h3 := jMidJoin hPn hDn hk hB.1
  rw [List.append_nil] at h3
  exact kk u H1 locs1 h5 h3 (jJoinD hP hD hB.2 hF) hS
theorem jIni {S : Type} {post : S → Prop} {w' : S → va_W} {mc ms : Nat} (C : Cx p s m args meth c cc nL own ret D G) (hdg : decode cc pc = .ok (.invokespecial index, 3)) (hM : iM l y bytes maxL rm (.ref b :: As) D G wc post w' mc ms) (hY : jY y bytes maxL none As.length) (hyn : y.name = "<init>") (hl : Cond.methodLink own index y ∈ jw) (hi : Cond.instanceMethod y ∈ jw)
    (hR : rm.cells = mc ∧ rm.slots = ms ∧ rm.frames + 1 ≤ R.frames ∧ 8 + (maxL + 11) + rm.locals ≤ R.locals) (hcs : cells + mc ≤ R.cells ∧ slots + ms ≤ R.slots)
    (hP : va_P D vwCl (ws ++ wc) H) (hD : va_D A (ws ++ wc)) (hS : va_S A s.heap H locs) (hA : ∀ q : Nat, s.heap.size ≤ q → A q) {lv : List (Nat × Value)} (hlv : lv_has ls nL lv) (hst : st0 = As.reverse ++ .ref b :: rest) (hcat : (rest.map fun v => v.category).sum ≤ 8)
    (kk : ∀ (u : S) (H1 : Heap) (locs1 : List Loc), post u → va_P D vwCl (ws ++ w' u) H1 → va_D A (ws ++ w' u) → va_S A s.heap H1 locs1 → W p l e R s m args below meth c H1 locs1 (cells + mc) (slots + ms) Q (F0 m (pc + 3) ls rest)) : W p l e R s m args below meth c H locs cells slots Q (F0 m pc ls st0) := by
  have hPn : va_P D vwCl (ws ++ (wc ++ [])) H := by rw [List.append_nil]; exact hP
  have hDn : va_D A (ws ++ (wc ++ [])) := by rw [List.append_nil]; exact hD
  have hPc : va_P D vwCl wc H := jMidP hPn
  have hDc : va_D A wc := jMidD hDn
  exact jIniG C (va_runI (rest := rest) (As := As) (b := b) (jFix C) (hM H.size) ⟨callB_of As.length C.2.2.2.2.1 (jG hY.2.1) rfl hR.1 hR.2.1 (C.2.2.2.2.1 _ hY.2.2) (C.2.2.2.2.1 _ hl) hY.1 hR.2.2, hyn, C.2.2.2.2.1 _ hi⟩ ⟨fun a U g mk q => ⟨q.1, q.2.1, q.2.2.1, q.2.2.2.1.blind, q.2.2.2.2⟩, fun U hU hW => ⟨rfl, by rw [hU], by rw [hU]; exact hPc, C.2.2.2.2.2.2.2.warm hW, hDc.weaken (fun _ _ _ _ => trivial)⟩⟩ rfl rfl hlv.1 hst (lv_room hcat) hdg hcs) hP hD hS hA kk
theorem jIniN {S : Type} {post : S → Prop} {w' : S → va_W} {mc ms : Nat} {host : String} (C : Cx p s m args meth c cc nL own ret D G) (hdg : decode cc pc = .ok (.invokespecial index, 3)) (hM : iM l y bytes maxL rm (.ref b :: As) D G wc post w' mc ms) (hY : jY y bytes maxL none As.length) (hyn : y.name = "<init>") (hl : Cond.methodLinkNest own index y host ∈ jnw) (hi : Cond.instanceMethod y ∈ jw)
    (hR : rm.cells = mc ∧ rm.slots = ms ∧ rm.frames + 1 ≤ R.frames ∧ 8 + (maxL + 11) + rm.locals ≤ R.locals) (hcs : cells + mc ≤ R.cells ∧ slots + ms ≤ R.slots)
    (hP : va_P D vwCl (ws ++ wc) H) (hD : va_D A (ws ++ wc)) (hS : va_S A s.heap H locs) (hA : ∀ q : Nat, s.heap.size ≤ q → A q) {lv : List (Nat × Value)} (hlv : lv_has ls nL lv) (hst : st0 = As.reverse ++ .ref b :: rest) (hcat : (rest.map fun v => v.category).sum ≤ 8)
    (kk : ∀ (u : S) (H1 : Heap) (locs1 : List Loc), post u → va_P D vwCl (ws ++ w' u) H1 → va_D A (ws ++ w' u) → va_S A s.heap H1 locs1 → W p l e R s m args below meth c H1 locs1 (cells + mc) (slots + ms) Q (F0 m (pc + 3) ls rest)) : W p l e R s m args below meth c H locs cells slots Q (F0 m pc ls st0) := by
  have hPn : va_P D vwCl (ws ++ (wc ++ [])) H := by rw [List.append_nil]; exact hP
  have hDn : va_D A (ws ++ (wc ++ [])) := by rw [List.append_nil]; exact hD
  have hPc : va_P D vwCl wc H := jMidP hPn
  have hDc : va_D A wc := jMidD hDn
  exact jIniG C (va_runIN (rest := rest) (As := As) (b := b) (host := host) (jFix C) (hM H.size) ⟨va_cnB As.length C.2.2.2.2.1 (jG hY.2.1) rfl hR.1 hR.2.1 (C.2.2.2.2.2.2.2.2 _ hl) (C.2.2.2.2.1 _ hY.2.2) hY.1 hR.2.2, hyn, C.2.2.2.2.1 _ hi⟩ ⟨fun a U g mk q => ⟨q.1, q.2.1, q.2.2.1, q.2.2.2.1.blind, q.2.2.2.2⟩, fun U hU hW => ⟨rfl, by rw [hU], by rw [hU]; exact hPc, C.2.2.2.2.2.2.2.warm hW, hDc.weaken (fun _ _ _ _ => trivial)⟩⟩ rfl rfl hlv.1 hst (lv_room hcat) hdg hcs) hP hD hS hA kk
/-- the end -/
theorem iRet {S : Type} {post : S → Prop} {w' : S → va_W} {mc ms : Nat} (C : Cx p s m args meth c cc nL own none D G) (hdg : decode cc pc = .ok (.return_, 1)) (u : S) (hu : post u) (hP : va_P D vwCl (w' u) H) (hD : va_D A (w' u)) (hS : va_S A s.heap H locs) (hc : cells ≤ mc) (hs : slots ≤ ms) :
    W p l e R s m args below meth c H locs cells slots (MQ below (iQ D post w' A) args s mc ms A) (F0 m pc ls []) := by
  obtain ⟨hx, hb, hr, -, -, -, hlocks, -⟩ := C
  refine W.widen (k := mc) (n := ms) hc hs ?_
  exact W.vret hx hb hr (fun t ht _ => ⟨⟨u, rfl, hu, by rw [ht]; exact hP, hD⟩, hS.F ht⟩) hS.2.2 hdg hlocks
/-- an array of ints: its class is the one that is known -/
theorem jCls {ty : FieldType} {cA cB : ClassId} {tys : List (ClassId × FieldType)} {k : Nat} (hK : va_K D vwCl tys s) (hk : tys[k]? = some (cB, ty)) {tys2 : List (ClassId × FieldType)} (hK2 : va_K D vwCl (tys2 ++ [(cA, ty)]) s) (hp : (match ty with | .object _ => False | _ => True)) : cA = cB := by
  have h1 := (hK.2 k _ hk).2
  have h2 := (hK2.2 tys2.length (cA, ty) (by simp)).2
  cases ty <;> first | exact Option.some.inj (h2.symm.trans h1) | exact hp.elim
theorem jClsO {o : String} {cA cB : ClassId} {tys : List (ClassId × FieldType)} {k : Nat} (hK : va_K D vwCl tys s) (hk : tys[k]? = some (cB, .object o)) {tys2 : List (ClassId × FieldType)} (hK2 : va_K D vwCl (tys2 ++ [(cA, .object o)]) s) : cA = cB := by
  obtain ⟨_, _, -, -, -, h1⟩ := (hK.2 k _ hk).2
  obtain ⟨_, _, -, -, -, h2⟩ := (hK2.2 tys2.length (cA, .object o) (by simp)).2
  exact Option.some.inj (h2.symm.trans h1)
end JI
theorem jy_X5_init : jY yX5_init cX5_init 2 none 1 := ⟨by decide +kernel, jq_3_12, jq_2_14⟩
set_option maxHeartbeats 4000000 in
set_option maxRecDepth 100000 in
theorem kc_X5_init (l : Launch) (D : va_G) (G : Nat → ClassId) (q : Nat) (n : Int32) (z : Nat) (hn : ¬ n < 0) (hz : n.toNatClampNeg = z) (hz2 : z * 4 ≤ 536870912) : iM (S := Nat) l yX5_init cX5_init 2 ({ frames := 1, cells := 1, slots := z, locals := 20 } : Room) [.ref q, .int n] D G [(q, .inr (7, [.null]))] (fun _ => True) (fun b => wRow q b z G (fun _ => 0)) 1 z := by
  refine iM_of (by decide +kernel) rfl (Nat.le_of_ble_eq_true rfl) (fun p e s m args below meth c ls A C hin hP hD hA hl => ?_)
  have C : Cx p s m args meth c cX5_init 2 RX5 none D G := C
  obtain ⟨hx, hb, hr, hml, hts, hown, hlocks, hK0⟩ := id C
  have hK := hK0.1
  have hS : va_S A s.heap s.heap [] := va_S.rf
  have hl : lv_has ls 2 [(0, .ref q), (1, .int n)] := hl
  refine lv_aload_n hx hb dX5_init_0 rfl (lv_at hl 0 rfl) ?_
  refine W.objInit hx hb hown (hts _ jq_3_13) (hts _ jq_1_14) (hts _ jq_1_15) rfl (by rw [hml]; exact hl.1) rfl dX5_init_1 (Nat.le_of_ble_eq_true rfl) (Nat.le_of_ble_eq_true rfl) ?_
  refine W.eq (g2 := F0 m 4 ls []) rfl ?_
  refine lv_aload_n hx hb dX5_init_4 rfl (lv_at hl 0 rfl) ?_
  refine lv_iload_n hx hb dX5_init_5 rfl (lv_at hl 1 rfl) ?_
  refine lv_if_ge (tgt := 13) hx hb dX5_init_6 (by decide) (fun c1 => ?_) (fun c1 => absurd (Int32.not_lt.mp hn) c1)
  refine lv_iload_n hx hb dX5_init_13 rfl (lv_at hl 1 rfl) ?_
  refine va_newa (atype := .int) (N' := z) (a0 := (z, .inl (fun _ => 0))) hx hb (hts _ jq_1_4) rfl hK hP hD hS hA (fun _ => rfl) hn hz hz2 (Nat.le_of_ble_eq_true rfl) (by show 0 + z ≤ z; omega) dX5_init_14 (fun b cA H hK2 hP hD hS => ?_)
  obtain rfl : cA = G 0 := jCls hK (k := 0) rfl hK2 trivial
  have hP : va_P D vwCl ((q, .inr (7, [.null])) :: ([(b, .inl (G 0, z, .inl (fun _ => 0)))] : va_W)) H := hP
  have hD : va_D A ((q, .inr (7, [.null])) :: ([(b, .inl (G 0, z, .inl (fun _ => 0)))] : va_W)) := hD
  refine va_putF (D := D) (ci := 7) (v := .ref b) (ty := (.array .int)) (C := RX5) (T := TX5) (N := 1) hx hb hts ju_X5 tyX5 tyX5_ok nmX5 hown hK hP hD hS 0 rfl rfl 0 (by decide) (hts _ jq_3_14) (fun _ h9 => h9) rfl hin rfl (by decide +kernel) rfl rfl (Nat.le_of_ble_eq_true rfl) dX5_init_16 (fun H locs hP hD hS => ?_)
  have hP : va_P D vwCl ((q, .inr (7, [.ref b])) :: ([(b, .inl (G 0, z, .inl (fun _ => 0)))] : va_W)) H := hP
  have hD : va_D A ((q, .inr (7, [.ref b])) :: ([(b, .inl (G 0, z, .inl (fun _ => 0)))] : va_W)) := hD
  exact iRet C dX5_init_19 b trivial hP hD hS (Nat.le_of_ble_eq_true rfl) (by show 0 + z ≤ z; omega)
theorem jy_X3_init : jY yX3_init cX3_init 1 none 0 := ⟨by decide +kernel, jq_3_16, jq_2_20⟩
set_option maxHeartbeats 4000000 in
set_option maxRecDepth 100000 in
theorem kc_X3_init (l : Launch) (D : va_G) (G : Nat → ClassId) (q : Nat) : iM (S := Nat → Nat) l yX3_init cX3_init 1 ({ frames := 2, cells := 10, slots := 45, locals := 45 } : Room) [.ref q] D G [(q, .inr (5, [.int 0, .null, .null, .null, .null, .null]))] (fun a => a 36 = q) (fun a => wProd a G (fun _ _ => 0)) 10 45 := by
  refine iM_of (by decide +kernel) rfl (Nat.le_of_ble_eq_true rfl) (fun p e s m args below meth c ls A C hin hP hD hA hl => ?_)
  have C : Cx p s m args meth c cX3_init 1 RX3 none D G := C
  obtain ⟨hx, hb, hr, hml, hts, hown, hlocks, hK0⟩ := id C
  have hK := hK0.1
  have hS : va_S A s.heap s.heap [] := va_S.rf
  have hl : lv_has ls 1 [(0, .ref q)] := hl
  refine lv_aload_n hx hb dX3_init_0 rfl (lv_at hl 0 rfl) ?_
  refine W.objInit hx hb hown (hts _ jq_3_17) (hts _ jq_1_14) (hts _ jq_1_15) rfl (by rw [hml]; exact hl.1) rfl dX3_init_1 (Nat.le_of_ble_eq_true rfl) (Nat.le_of_ble_eq_true rfl) ?_
  refine W.eq (g2 := F0 m 4 ls []) rfl ?_
  refine lv_aload_n hx hb dX3_init_4 rfl (lv_at hl 0 rfl) ?_
  refine jNew (ci := 7) (fs := [.null]) (Cn := RX5) (T := TX5) (N := 1) C ju_X5 tyX5 tyX5_ok jq_3_18 jq_2_13 jq_2_14 hP hD hS hA rfl (fun j hj => match j, hj with | 0, _ => rfl | k + 1, h => absurd h (by omega)) (Nat.le_of_ble_eq_true rfl) (Nat.le_of_ble_eq_true rfl) dX3_init_5 dX3_init_8 (fun q0 H hP hD hS => ?_)
  refine lv_bipush (v := 8) hx hb dX3_init_9 (by decide) ?_
  refine jIni (ws := (q, .inr (5, [.int 0, .null, .null, .null, .null, .null])) :: ([] : va_W)) C dX3_init_11 (kc_X5_init l D G q0 8 8 (by decide) (by decide) (Nat.le_of_ble_eq_true rfl)) jy_X5_init rfl jq_4_0 jq_3_11 ⟨rfl, rfl, Nat.le_of_ble_eq_true rfl, Nat.le_of_ble_eq_true rfl⟩ ⟨Nat.le_of_ble_eq_true rfl, Nat.le_of_ble_eq_true rfl⟩ hP hD hS hA hl (As := [.int 8]) rfl (Nat.le_of_ble_eq_true rfl) (fun b0 H locs _ hP hD hS => ?_)
  have hP : va_P D vwCl ((q, .inr (5, [.int 0, .null, .null, .null, .null, .null])) :: (wRow q0 b0 8 G (fun _ => 0) : va_W)) H := hP
  have hD : va_D A ((q, .inr (5, [.int 0, .null, .null, .null, .null, .null])) :: (wRow q0 b0 8 G (fun _ => 0) : va_W)) := hD
  refine va_putF (D := D) (ci := 5) (v := .ref q0) (ty := (.object "TheatreSeasons$Row")) (C := RX3) (T := TX3) (N := 6) hx hb hts ju_X3 tyX3 tyX3_ok nmX3 hown hK hP hD hS 0 rfl rfl 1 (by decide) (hts _ jq_3_19) (fun _ h9 => h9) rfl hin rfl (by decide +kernel) rfl rfl (Nat.le_of_ble_eq_true rfl) dX3_init_14 (fun H locs hP hD hS => ?_)
  have hP : va_P D vwCl ((q, .inr (5, [.int 0, .ref q0, .null, .null, .null, .null])) :: (wRow q0 b0 8 G (fun _ => 0) : va_W)) H := hP
  have hD : va_D A ((q, .inr (5, [.int 0, .ref q0, .null, .null, .null, .null])) :: (wRow q0 b0 8 G (fun _ => 0) : va_W)) := hD
  refine lv_aload_n hx hb dX3_init_17 rfl (lv_at hl 0 rfl) ?_
  refine jNew (ci := 7) (fs := [.null]) (Cn := RX5) (T := TX5) (N := 1) C ju_X5 tyX5 tyX5_ok jq_3_18 jq_2_13 jq_2_14 hP hD hS hA rfl (fun j hj => match j, hj with | 0, _ => rfl | k + 1, h => absurd h (by omega)) (Nat.le_of_ble_eq_true rfl) (Nat.le_of_ble_eq_true rfl) dX3_init_18 dX3_init_21 (fun q1 H hP hD hS => ?_)
  refine lv_bipush (v := 8) hx hb dX3_init_22 (by decide) ?_
  refine jIni (ws := (q, .inr (5, [.int 0, .ref q0, .null, .null, .null, .null])) :: (wRow q0 b0 8 G (fun _ => 0) : va_W)) C dX3_init_24 (kc_X5_init l D G q1 8 8 (by decide) (by decide) (Nat.le_of_ble_eq_true rfl)) jy_X5_init rfl jq_4_0 jq_3_11 ⟨rfl, rfl, Nat.le_of_ble_eq_true rfl, Nat.le_of_ble_eq_true rfl⟩ ⟨Nat.le_of_ble_eq_true rfl, Nat.le_of_ble_eq_true rfl⟩ hP hD hS hA hl (As := [.int 8]) rfl (Nat.le_of_ble_eq_true rfl) (fun b1 H locs _ hP hD hS => ?_)
  have hP : va_P D vwCl ((q, .inr (5, [.int 0, .ref q0, .null, .null, .null, .null])) :: (wRow q0 b0 8 G (fun _ => 0) ++ wRow q1 b1 8 G (fun _ => 0) : va_W)) H := hP
  have hD : va_D A ((q, .inr (5, [.int 0, .ref q0, .null, .null, .null, .null])) :: (wRow q0 b0 8 G (fun _ => 0) ++ wRow q1 b1 8 G (fun _ => 0) : va_W)) := hD
  refine va_putF (D := D) (ci := 5) (v := .ref q1) (ty := (.object "TheatreSeasons$Row")) (C := RX3) (T := TX3) (N := 6) hx hb hts ju_X3 tyX3 tyX3_ok nmX3 hown hK hP hD hS 0 rfl rfl 2 (by decide) (hts _ jq_3_20) (fun _ h9 => h9) rfl hin rfl (by decide +kernel) rfl rfl (Nat.le_of_ble_eq_true rfl) dX3_init_27 (fun H locs hP hD hS => ?_)
  have hP : va_P D vwCl ((q, .inr (5, [.int 0, .ref q0, .ref q1, .null, .null, .null])) :: (wRow q0 b0 8 G (fun _ => 0) ++ wRow q1 b1 8 G (fun _ => 0) : va_W)) H := hP
  have hD : va_D A ((q, .inr (5, [.int 0, .ref q0, .ref q1, .null, .null, .null])) :: (wRow q0 b0 8 G (fun _ => 0) ++ wRow q1 b1 8 G (fun _ => 0) : va_W)) := hD
  refine lv_aload_n hx hb dX3_init_30 rfl (lv_at hl 0 rfl) ?_
  refine jNew (ci := 7) (fs := [.null]) (Cn := RX5) (T := TX5) (N := 1) C ju_X5 tyX5 tyX5_ok jq_3_18 jq_2_13 jq_2_14 hP hD hS hA rfl (fun j hj => match j, hj with | 0, _ => rfl | k + 1, h => absurd h (by omega)) (Nat.le_of_ble_eq_true rfl) (Nat.le_of_ble_eq_true rfl) dX3_init_31 dX3_init_34 (fun q2 H hP hD hS => ?_)
  refine lv_bipush (v := 8) hx hb dX3_init_35 (by decide) ?_
  refine jIni (ws := (q, .inr (5, [.int 0, .ref q0, .ref q1, .null, .null, .null])) :: (wRow q0 b0 8 G (fun _ => 0) ++ wRow q1 b1 8 G (fun _ => 0) : va_W)) C dX3_init_37 (kc_X5_init l D G q2 8 8 (by decide) (by decide) (Nat.le_of_ble_eq_true rfl)) jy_X5_init rfl jq_4_0 jq_3_11 ⟨rfl, rfl, Nat.le_of_ble_eq_true rfl, Nat.le_of_ble_eq_true rfl⟩ ⟨Nat.le_of_ble_eq_true rfl, Nat.le_of_ble_eq_true rfl⟩ hP hD hS hA hl (As := [.int 8]) rfl (Nat.le_of_ble_eq_true rfl) (fun b2 H locs _ hP hD hS => ?_)
  have hP : va_P D vwCl ((q, .inr (5, [.int 0, .ref q0, .ref q1, .null, .null, .null])) :: (wRow q0 b0 8 G (fun _ => 0) ++ wRow q1 b1 8 G (fun _ => 0) ++ wRow q2 b2 8 G (fun _ => 0) : va_W)) H := hP
  have hD : va_D A ((q, .inr (5, [.int 0, .ref q0, .ref q1, .null, .null, .null])) :: (wRow q0 b0 8 G (fun _ => 0) ++ wRow q1 b1 8 G (fun _ => 0) ++ wRow q2 b2 8 G (fun _ => 0) : va_W)) := hD
  refine va_putF (D := D) (ci := 5) (v := .ref q2) (ty := (.object "TheatreSeasons$Row")) (C := RX3) (T := TX3) (N := 6) hx hb hts ju_X3 tyX3 tyX3_ok nmX3 hown hK hP hD hS 0 rfl rfl 3 (by decide) (hts _ jq_3_21) (fun _ h9 => h9) rfl hin rfl (by decide +kernel) rfl rfl (Nat.le_of_ble_eq_true rfl) dX3_init_40 (fun H locs hP hD hS => ?_)
  have hP : va_P D vwCl ((q, .inr (5, [.int 0, .ref q0, .ref q1, .ref q2, .null, .null])) :: (wRow q0 b0 8 G (fun _ => 0) ++ wRow q1 b1 8 G (fun _ => 0) ++ wRow q2 b2 8 G (fun _ => 0) : va_W)) H := hP
  have hD : va_D A ((q, .inr (5, [.int 0, .ref q0, .ref q1, .ref q2, .null, .null])) :: (wRow q0 b0 8 G (fun _ => 0) ++ wRow q1 b1 8 G (fun _ => 0) ++ wRow q2 b2 8 G (fun _ => 0) : va_W)) := hD
  refine lv_aload_n hx hb dX3_init_43 rfl (lv_at hl 0 rfl) ?_
  refine jNew (ci := 7) (fs := [.null]) (Cn := RX5) (T := TX5) (N := 1) C ju_X5 tyX5 tyX5_ok jq_3_18 jq_2_13 jq_2_14 hP hD hS hA rfl (fun j hj => match j, hj with | 0, _ => rfl | k + 1, h => absurd h (by omega)) (Nat.le_of_ble_eq_true rfl) (Nat.le_of_ble_eq_true rfl) dX3_init_44 dX3_init_47 (fun q3 H hP hD hS => ?_)
  refine lv_bipush (v := 8) hx hb dX3_init_48 (by decide) ?_
  refine jIni (ws := (q, .inr (5, [.int 0, .ref q0, .ref q1, .ref q2, .null, .null])) :: (wRow q0 b0 8 G (fun _ => 0) ++ wRow q1 b1 8 G (fun _ => 0) ++ wRow q2 b2 8 G (fun _ => 0) : va_W)) C dX3_init_50 (kc_X5_init l D G q3 8 8 (by decide) (by decide) (Nat.le_of_ble_eq_true rfl)) jy_X5_init rfl jq_4_0 jq_3_11 ⟨rfl, rfl, Nat.le_of_ble_eq_true rfl, Nat.le_of_ble_eq_true rfl⟩ ⟨Nat.le_of_ble_eq_true rfl, Nat.le_of_ble_eq_true rfl⟩ hP hD hS hA hl (As := [.int 8]) rfl (Nat.le_of_ble_eq_true rfl) (fun b3 H locs _ hP hD hS => ?_)
  have hP : va_P D vwCl ((q, .inr (5, [.int 0, .ref q0, .ref q1, .ref q2, .null, .null])) :: (wRow q0 b0 8 G (fun _ => 0) ++ wRow q1 b1 8 G (fun _ => 0) ++ wRow q2 b2 8 G (fun _ => 0) ++ wRow q3 b3 8 G (fun _ => 0) : va_W)) H := hP
  have hD : va_D A ((q, .inr (5, [.int 0, .ref q0, .ref q1, .ref q2, .null, .null])) :: (wRow q0 b0 8 G (fun _ => 0) ++ wRow q1 b1 8 G (fun _ => 0) ++ wRow q2 b2 8 G (fun _ => 0) ++ wRow q3 b3 8 G (fun _ => 0) : va_W)) := hD
  refine va_putF (D := D) (ci := 5) (v := .ref q3) (ty := (.object "TheatreSeasons$Row")) (C := RX3) (T := TX3) (N := 6) hx hb hts ju_X3 tyX3 tyX3_ok nmX3 hown hK hP hD hS 0 rfl rfl 4 (by decide) (hts _ jq_3_22) (fun _ h9 => h9) rfl hin rfl (by decide +kernel) rfl rfl (Nat.le_of_ble_eq_true rfl) dX3_init_53 (fun H locs hP hD hS => ?_)
  have hP : va_P D vwCl ((q, .inr (5, [.int 0, .ref q0, .ref q1, .ref q2, .ref q3, .null])) :: (wRow q0 b0 8 G (fun _ => 0) ++ wRow q1 b1 8 G (fun _ => 0) ++ wRow q2 b2 8 G (fun _ => 0) ++ wRow q3 b3 8 G (fun _ => 0) : va_W)) H := hP
  have hD : va_D A ((q, .inr (5, [.int 0, .ref q0, .ref q1, .ref q2, .ref q3, .null])) :: (wRow q0 b0 8 G (fun _ => 0) ++ wRow q1 b1 8 G (fun _ => 0) ++ wRow q2 b2 8 G (fun _ => 0) ++ wRow q3 b3 8 G (fun _ => 0) : va_W)) := hD
  refine lv_aload_n hx hb dX3_init_56 rfl (lv_at hl 0 rfl) ?_
  refine jNew (ci := 7) (fs := [.null]) (Cn := RX5) (T := TX5) (N := 1) C ju_X5 tyX5 tyX5_ok jq_3_18 jq_2_13 jq_2_14 hP hD hS hA rfl (fun j hj => match j, hj with | 0, _ => rfl | k + 1, h => absurd h (by omega)) (Nat.le_of_ble_eq_true rfl) (Nat.le_of_ble_eq_true rfl) dX3_init_57 dX3_init_60 (fun q4 H hP hD hS => ?_)
  refine lv_bipush (v := 8) hx hb dX3_init_61 (by decide) ?_
  refine jIni (ws := (q, .inr (5, [.int 0, .ref q0, .ref q1, .ref q2, .ref q3, .null])) :: (wRow q0 b0 8 G (fun _ => 0) ++ wRow q1 b1 8 G (fun _ => 0) ++ wRow q2 b2 8 G (fun _ => 0) ++ wRow q3 b3 8 G (fun _ => 0) : va_W)) C dX3_init_63 (kc_X5_init l D G q4 8 8 (by decide) (by decide) (Nat.le_of_ble_eq_true rfl)) jy_X5_init rfl jq_4_0 jq_3_11 ⟨rfl, rfl, Nat.le_of_ble_eq_true rfl, Nat.le_of_ble_eq_true rfl⟩ ⟨Nat.le_of_ble_eq_true rfl, Nat.le_of_ble_eq_true rfl⟩ hP hD hS hA hl (As := [.int 8]) rfl (Nat.le_of_ble_eq_true rfl) (fun b4 H locs _ hP hD hS => ?_)
  have hP : va_P D vwCl ((q, .inr (5, [.int 0, .ref q0, .ref q1, .ref q2, .ref q3, .null])) :: (wRow q0 b0 8 G (fun _ => 0) ++ wRow q1 b1 8 G (fun _ => 0) ++ wRow q2 b2 8 G (fun _ => 0) ++ wRow q3 b3 8 G (fun _ => 0) ++ wRow q4 b4 8 G (fun _ => 0) : va_W)) H := hP
  have hD : va_D A ((q, .inr (5, [.int 0, .ref q0, .ref q1, .ref q2, .ref q3, .null])) :: (wRow q0 b0 8 G (fun _ => 0) ++ wRow q1 b1 8 G (fun _ => 0) ++ wRow q2 b2 8 G (fun _ => 0) ++ wRow q3 b3 8 G (fun _ => 0) ++ wRow q4 b4 8 G (fun _ => 0) : va_W)) := hD
  refine va_putF (D := D) (ci := 5) (v := .ref q4) (ty := (.object "TheatreSeasons$Row")) (C := RX3) (T := TX3) (N := 6) hx hb hts ju_X3 tyX3 tyX3_ok nmX3 hown hK hP hD hS 0 rfl rfl 5 (by decide) (hts _ jq_3_23) (fun _ h9 => h9) rfl hin rfl (by decide +kernel) rfl rfl (Nat.le_of_ble_eq_true rfl) dX3_init_66 (fun H locs hP hD hS => ?_)
  have hP : va_P D vwCl ((q, .inr (5, [.int 0, .ref q0, .ref q1, .ref q2, .ref q3, .ref q4])) :: (wRow q0 b0 8 G (fun _ => 0) ++ wRow q1 b1 8 G (fun _ => 0) ++ wRow q2 b2 8 G (fun _ => 0) ++ wRow q3 b3 8 G (fun _ => 0) ++ wRow q4 b4 8 G (fun _ => 0) : va_W)) H := hP
  have hD : va_D A ((q, .inr (5, [.int 0, .ref q0, .ref q1, .ref q2, .ref q3, .ref q4])) :: (wRow q0 b0 8 G (fun _ => 0) ++ wRow q1 b1 8 G (fun _ => 0) ++ wRow q2 b2 8 G (fun _ => 0) ++ wRow q3 b3 8 G (fun _ => 0) ++ wRow q4 b4 8 G (fun _ => 0) : va_W)) := hD
  exact iRet C dX3_init_69 (fun k => cond (Nat.beq k 36) q (cond (Nat.beq k 4) q0 (cond (Nat.beq k 5) b0 (cond (Nat.beq k 6) q1 (cond (Nat.beq k 7) b1 (cond (Nat.beq k 8) q2 (cond (Nat.beq k 9) b2 (cond (Nat.beq k 10) q3 (cond (Nat.beq k 11) b3 (cond (Nat.beq k 12) q4 (cond (Nat.beq k 13) b4 (0)))))))))))) rfl hP hD hS (Nat.le_of_ble_eq_true rfl) (Nat.le_of_ble_eq_true rfl)
theorem jy_X2_init : jY yX2_init cX2_init 1 none 0 := ⟨by decide +kernel, jq_4_2, jq_3_0⟩
set_option maxHeartbeats 4000000 in
set_option maxRecDepth 100000 in
theorem kc_X2_init (l : Launch) (D : va_G) (G : Nat → ClassId) (q : Nat) : iM (S := Nat → Nat) l yX2_init cX2_init 1 ({ frames := 2, cells := 12, slots := 150, locals := 45 } : Room) [.ref q] D G [(q, .inr (4, [.int 0, .null, .null, .null, .null, .null, .null]))] (fun a => a 37 = q) (fun a => wPerf a G (fun _ _ => 0)) 12 150 := by
  refine iM_of (by decide +kernel) rfl (Nat.le_of_ble_eq_true rfl) (fun p e s m args below meth c ls A C hin hP hD hA hl => ?_)
  have C : Cx p s m args meth c cX2_init 1 RX2 none D G := C
  obtain ⟨hx, hb, hr, hml, hts, hown, hlocks, hK0⟩ := id C
  have hK := hK0.1
  have hS : va_S A s.heap s.heap [] := va_S.rf
  have hl : lv_has ls 1 [(0, .ref q)] := hl
  refine lv_aload_n hx hb dX2_init_0 rfl (lv_at hl 0 rfl) ?_
  refine W.objInit hx hb hown (hts _ jq_4_3) (hts _ jq_1_14) (hts _ jq_1_15) rfl (by rw [hml]; exact hl.1) rfl dX2_init_1 (Nat.le_of_ble_eq_true rfl) (Nat.le_of_ble_eq_true rfl) ?_
  refine W.eq (g2 := F0 m 4 ls []) rfl ?_
  refine lv_aload_n hx hb dX2_init_4 rfl (lv_at hl 0 rfl) ?_
  refine jNew (ci := 7) (fs := [.null]) (Cn := RX5) (T := TX5) (N := 1) C ju_X5 tyX5 tyX5_ok jq_4_4 jq_2_13 jq_2_14 hP hD hS hA rfl (fun j hj => match j, hj with | 0, _ => rfl | k + 1, h => absurd h (by omega)) (Nat.le_of_ble_eq_true rfl) (Nat.le_of_ble_eq_true rfl) dX2_init_5 dX2_init_8 (fun q0 H hP hD hS => ?_)
  refine lv_bipush (v := 24) hx hb dX2_init_9 (by decide) ?_
  refine jIni (ws := (q, .inr (4, [.int 0, .null, .null, .null, .null, .null, .null])) :: ([] : va_W)) C dX2_init_11 (kc_X5_init l D G q0 24 24 (by decide) (by decide) (Nat.le_of_ble_eq_true rfl)) jy_X5_init rfl jq_4_11 jq_3_11 ⟨rfl, rfl, Nat.le_of_ble_eq_true rfl, Nat.le_of_ble_eq_true rfl⟩ ⟨Nat.le_of_ble_eq_true rfl, Nat.le_of_ble_eq_true rfl⟩ hP hD hS hA hl (As := [.int 24]) rfl (Nat.le_of_ble_eq_true rfl) (fun b0 H locs _ hP hD hS => ?_)
  have hP : va_P D vwCl ((q, .inr (4, [.int 0, .null, .null, .null, .null, .null, .null])) :: (wRow q0 b0 24 G (fun _ => 0) : va_W)) H := hP
  have hD : va_D A ((q, .inr (4, [.int 0, .null, .null, .null, .null, .null, .null])) :: (wRow q0 b0 24 G (fun _ => 0) : va_W)) := hD
  refine va_putF (D := D) (ci := 4) (v := .ref q0) (ty := (.object "TheatreSeasons$Row")) (C := RX2) (T := TX2) (N := 7) hx hb hts ju_X2 tyX2 tyX2_ok nmX2 hown hK hP hD hS 0 rfl rfl 1 (by decide) (hts _ jq_4_5) (fun _ h9 => h9) rfl hin rfl (by decide +kernel) rfl rfl (Nat.le_of_ble_eq_true rfl) dX2_init_14 (fun H locs hP hD hS => ?_)
  have hP : va_P D vwCl ((q, .inr (4, [.int 0, .ref q0, .null, .null, .null, .null, .null])) :: (wRow q0 b0 24 G (fun _ => 0) : va_W)) H := hP
  have hD : va_D A ((q, .inr (4, [.int 0, .ref q0, .null, .null, .null, .null, .null])) :: (wRow q0 b0 24 G (fun _ => 0) : va_W)) := hD
  refine lv_aload_n hx hb dX2_init_17 rfl (lv_at hl 0 rfl) ?_
  refine jNew (ci := 7) (fs := [.null]) (Cn := RX5) (T := TX5) (N := 1) C ju_X5 tyX5 tyX5_ok jq_4_4 jq_2_13 jq_2_14 hP hD hS hA rfl (fun j hj => match j, hj with | 0, _ => rfl | k + 1, h => absurd h (by omega)) (Nat.le_of_ble_eq_true rfl) (Nat.le_of_ble_eq_true rfl) dX2_init_18 dX2_init_21 (fun q1 H hP hD hS => ?_)
  refine lv_bipush (v := 24) hx hb dX2_init_22 (by decide) ?_
  refine jIni (ws := (q, .inr (4, [.int 0, .ref q0, .null, .null, .null, .null, .null])) :: (wRow q0 b0 24 G (fun _ => 0) : va_W)) C dX2_init_24 (kc_X5_init l D G q1 24 24 (by decide) (by decide) (Nat.le_of_ble_eq_true rfl)) jy_X5_init rfl jq_4_11 jq_3_11 ⟨rfl, rfl, Nat.le_of_ble_eq_true rfl, Nat.le_of_ble_eq_true rfl⟩ ⟨Nat.le_of_ble_eq_true rfl, Nat.le_of_ble_eq_true rfl⟩ hP hD hS hA hl (As := [.int 24]) rfl (Nat.le_of_ble_eq_true rfl) (fun b1 H locs _ hP hD hS => ?_)
  have hP : va_P D vwCl ((q, .inr (4, [.int 0, .ref q0, .null, .null, .null, .null, .null])) :: (wRow q0 b0 24 G (fun _ => 0) ++ wRow q1 b1 24 G (fun _ => 0) : va_W)) H := hP
  have hD : va_D A ((q, .inr (4, [.int 0, .ref q0, .null, .null, .null, .null, .null])) :: (wRow q0 b0 24 G (fun _ => 0) ++ wRow q1 b1 24 G (fun _ => 0) : va_W)) := hD
  refine va_putF (D := D) (ci := 4) (v := .ref q1) (ty := (.object "TheatreSeasons$Row")) (C := RX2) (T := TX2) (N := 7) hx hb hts ju_X2 tyX2 tyX2_ok nmX2 hown hK hP hD hS 0 rfl rfl 2 (by decide) (hts _ jq_4_6) (fun _ h9 => h9) rfl hin rfl (by decide +kernel) rfl rfl (Nat.le_of_ble_eq_true rfl) dX2_init_27 (fun H locs hP hD hS => ?_)
  have hP : va_P D vwCl ((q, .inr (4, [.int 0, .ref q0, .ref q1, .null, .null, .null, .null])) :: (wRow q0 b0 24 G (fun _ => 0) ++ wRow q1 b1 24 G (fun _ => 0) : va_W)) H := hP
  have hD : va_D A ((q, .inr (4, [.int 0, .ref q0, .ref q1, .null, .null, .null, .null])) :: (wRow q0 b0 24 G (fun _ => 0) ++ wRow q1 b1 24 G (fun _ => 0) : va_W)) := hD
  refine lv_aload_n hx hb dX2_init_30 rfl (lv_at hl 0 rfl) ?_
  refine jNew (ci := 7) (fs := [.null]) (Cn := RX5) (T := TX5) (N := 1) C ju_X5 tyX5 tyX5_ok jq_4_4 jq_2_13 jq_2_14 hP hD hS hA rfl (fun j hj => match j, hj with | 0, _ => rfl | k + 1, h => absurd h (by omega)) (Nat.le_of_ble_eq_true rfl) (Nat.le_of_ble_eq_true rfl) dX2_init_31 dX2_init_34 (fun q2 H hP hD hS => ?_)
  refine lv_bipush (v := 24) hx hb dX2_init_35 (by decide) ?_
  refine jIni (ws := (q, .inr (4, [.int 0, .ref q0, .ref q1, .null, .null, .null, .null])) :: (wRow q0 b0 24 G (fun _ => 0) ++ wRow q1 b1 24 G (fun _ => 0) : va_W)) C dX2_init_37 (kc_X5_init l D G q2 24 24 (by decide) (by decide) (Nat.le_of_ble_eq_true rfl)) jy_X5_init rfl jq_4_11 jq_3_11 ⟨rfl, rfl, Nat.le_of_ble_eq_true rfl, Nat.le_of_ble_eq_true rfl⟩ ⟨Nat.le_of_ble_eq_true rfl, Nat.le_of_ble_eq_true rfl⟩ hP hD hS hA hl (As := [.int 24]) rfl (Nat.le_of_ble_eq_true rfl) (fun b2 H locs _ hP hD hS => ?_)
  have hP : va_P D vwCl ((q, .inr (4, [.int 0, .ref q0, .ref q1, .null, .null, .null, .null])) :: (wRow q0 b0 24 G (fun _ => 0) ++ wRow q1 b1 24 G (fun _ => 0) ++ wRow q2 b2 24 G (fun _ => 0) : va_W)) H := hP
  have hD : va_D A ((q, .inr (4, [.int 0, .ref q0, .ref q1, .null, .null, .null, .null])) :: (wRow q0 b0 24 G (fun _ => 0) ++ wRow q1 b1 24 G (fun _ => 0) ++ wRow q2 b2 24 G (fun _ => 0) : va_W)) := hD
  refine va_putF (D := D) (ci := 4) (v := .ref q2) (ty := (.object "TheatreSeasons$Row")) (C := RX2) (T := TX2) (N := 7) hx hb hts ju_X2 tyX2 tyX2_ok nmX2 hown hK hP hD hS 0 rfl rfl 3 (by decide) (hts _ jq_4_7) (fun _ h9 => h9) rfl hin rfl (by decide +kernel) rfl rfl (Nat.le_of_ble_eq_true rfl) dX2_init_40 (fun H locs hP hD hS => ?_)
  have hP : va_P D vwCl ((q, .inr (4, [.int 0, .ref q0, .ref q1, .ref q2, .null, .null, .null])) :: (wRow q0 b0 24 G (fun _ => 0) ++ wRow q1 b1 24 G (fun _ => 0) ++ wRow q2 b2 24 G (fun _ => 0) : va_W)) H := hP
  have hD : va_D A ((q, .inr (4, [.int 0, .ref q0, .ref q1, .ref q2, .null, .null, .null])) :: (wRow q0 b0 24 G (fun _ => 0) ++ wRow q1 b1 24 G (fun _ => 0) ++ wRow q2 b2 24 G (fun _ => 0) : va_W)) := hD
  refine lv_aload_n hx hb dX2_init_43 rfl (lv_at hl 0 rfl) ?_
  refine jNew (ci := 7) (fs := [.null]) (Cn := RX5) (T := TX5) (N := 1) C ju_X5 tyX5 tyX5_ok jq_4_4 jq_2_13 jq_2_14 hP hD hS hA rfl (fun j hj => match j, hj with | 0, _ => rfl | k + 1, h => absurd h (by omega)) (Nat.le_of_ble_eq_true rfl) (Nat.le_of_ble_eq_true rfl) dX2_init_44 dX2_init_47 (fun q3 H hP hD hS => ?_)
  refine lv_bipush (v := 24) hx hb dX2_init_48 (by decide) ?_
  refine jIni (ws := (q, .inr (4, [.int 0, .ref q0, .ref q1, .ref q2, .null, .null, .null])) :: (wRow q0 b0 24 G (fun _ => 0) ++ wRow q1 b1 24 G (fun _ => 0) ++ wRow q2 b2 24 G (fun _ => 0) : va_W)) C dX2_init_50 (kc_X5_init l D G q3 24 24 (by decide) (by decide) (Nat.le_of_ble_eq_true rfl)) jy_X5_init rfl jq_4_11 jq_3_11 ⟨rfl, rfl, Nat.le_of_ble_eq_true rfl, Nat.le_of_ble_eq_true rfl⟩ ⟨Nat.le_of_ble_eq_true rfl, Nat.le_of_ble_eq_true rfl⟩ hP hD hS hA hl (As := [.int 24]) rfl (Nat.le_of_ble_eq_true rfl) (fun b3 H locs _ hP hD hS => ?_)
  have hP : va_P D vwCl ((q, .inr (4, [.int 0, .ref q0, .ref q1, .ref q2, .null, .null, .null])) :: (wRow q0 b0 24 G (fun _ => 0) ++ wRow q1 b1 24 G (fun _ => 0) ++ wRow q2 b2 24 G (fun _ => 0) ++ wRow q3 b3 24 G (fun _ => 0) : va_W)) H := hP
  have hD : va_D A ((q, .inr (4, [.int 0, .ref q0, .ref q1, .ref q2, .null, .null, .null])) :: (wRow q0 b0 24 G (fun _ => 0) ++ wRow q1 b1 24 G (fun _ => 0) ++ wRow q2 b2 24 G (fun _ => 0) ++ wRow q3 b3 24 G (fun _ => 0) : va_W)) := hD
  refine va_putF (D := D) (ci := 4) (v := .ref q3) (ty := (.object "TheatreSeasons$Row")) (C := RX2) (T := TX2) (N := 7) hx hb hts ju_X2 tyX2 tyX2_ok nmX2 hown hK hP hD hS 0 rfl rfl 4 (by decide) (hts _ jq_4_8) (fun _ h9 => h9) rfl hin rfl (by decide +kernel) rfl rfl (Nat.le_of_ble_eq_true rfl) dX2_init_53 (fun H locs hP hD hS => ?_)
  have hP : va_P D vwCl ((q, .inr (4, [.int 0, .ref q0, .ref q1, .ref q2, .ref q3, .null, .null])) :: (wRow q0 b0 24 G (fun _ => 0) ++ wRow q1 b1 24 G (fun _ => 0) ++ wRow q2 b2 24 G (fun _ => 0) ++ wRow q3 b3 24 G (fun _ => 0) : va_W)) H := hP
  have hD : va_D A ((q, .inr (4, [.int 0, .ref q0, .ref q1, .ref q2, .ref q3, .null, .null])) :: (wRow q0 b0 24 G (fun _ => 0) ++ wRow q1 b1 24 G (fun _ => 0) ++ wRow q2 b2 24 G (fun _ => 0) ++ wRow q3 b3 24 G (fun _ => 0) : va_W)) := hD
  refine lv_aload_n hx hb dX2_init_56 rfl (lv_at hl 0 rfl) ?_
  refine jNew (ci := 7) (fs := [.null]) (Cn := RX5) (T := TX5) (N := 1) C ju_X5 tyX5 tyX5_ok jq_4_4 jq_2_13 jq_2_14 hP hD hS hA rfl (fun j hj => match j, hj with | 0, _ => rfl | k + 1, h => absurd h (by omega)) (Nat.le_of_ble_eq_true rfl) (Nat.le_of_ble_eq_true rfl) dX2_init_57 dX2_init_60 (fun q4 H hP hD hS => ?_)
  refine lv_bipush (v := 24) hx hb dX2_init_61 (by decide) ?_
  refine jIni (ws := (q, .inr (4, [.int 0, .ref q0, .ref q1, .ref q2, .ref q3, .null, .null])) :: (wRow q0 b0 24 G (fun _ => 0) ++ wRow q1 b1 24 G (fun _ => 0) ++ wRow q2 b2 24 G (fun _ => 0) ++ wRow q3 b3 24 G (fun _ => 0) : va_W)) C dX2_init_63 (kc_X5_init l D G q4 24 24 (by decide) (by decide) (Nat.le_of_ble_eq_true rfl)) jy_X5_init rfl jq_4_11 jq_3_11 ⟨rfl, rfl, Nat.le_of_ble_eq_true rfl, Nat.le_of_ble_eq_true rfl⟩ ⟨Nat.le_of_ble_eq_true rfl, Nat.le_of_ble_eq_true rfl⟩ hP hD hS hA hl (As := [.int 24]) rfl (Nat.le_of_ble_eq_true rfl) (fun b4 H locs _ hP hD hS => ?_)
  have hP : va_P D vwCl ((q, .inr (4, [.int 0, .ref q0, .ref q1, .ref q2, .ref q3, .null, .null])) :: (wRow q0 b0 24 G (fun _ => 0) ++ wRow q1 b1 24 G (fun _ => 0) ++ wRow q2 b2 24 G (fun _ => 0) ++ wRow q3 b3 24 G (fun _ => 0) ++ wRow q4 b4 24 G (fun _ => 0) : va_W)) H := hP
  have hD : va_D A ((q, .inr (4, [.int 0, .ref q0, .ref q1, .ref q2, .ref q3, .null, .null])) :: (wRow q0 b0 24 G (fun _ => 0) ++ wRow q1 b1 24 G (fun _ => 0) ++ wRow q2 b2 24 G (fun _ => 0) ++ wRow q3 b3 24 G (fun _ => 0) ++ wRow q4 b4 24 G (fun _ => 0) : va_W)) := hD
  refine va_putF (D := D) (ci := 4) (v := .ref q4) (ty := (.object "TheatreSeasons$Row")) (C := RX2) (T := TX2) (N := 7) hx hb hts ju_X2 tyX2 tyX2_ok nmX2 hown hK hP hD hS 0 rfl rfl 5 (by decide) (hts _ jq_4_9) (fun _ h9 => h9) rfl hin rfl (by decide +kernel) rfl rfl (Nat.le_of_ble_eq_true rfl) dX2_init_66 (fun H locs hP hD hS => ?_)
  have hP : va_P D vwCl ((q, .inr (4, [.int 0, .ref q0, .ref q1, .ref q2, .ref q3, .ref q4, .null])) :: (wRow q0 b0 24 G (fun _ => 0) ++ wRow q1 b1 24 G (fun _ => 0) ++ wRow q2 b2 24 G (fun _ => 0) ++ wRow q3 b3 24 G (fun _ => 0) ++ wRow q4 b4 24 G (fun _ => 0) : va_W)) H := hP
  have hD : va_D A ((q, .inr (4, [.int 0, .ref q0, .ref q1, .ref q2, .ref q3, .ref q4, .null])) :: (wRow q0 b0 24 G (fun _ => 0) ++ wRow q1 b1 24 G (fun _ => 0) ++ wRow q2 b2 24 G (fun _ => 0) ++ wRow q3 b3 24 G (fun _ => 0) ++ wRow q4 b4 24 G (fun _ => 0) : va_W)) := hD
  refine lv_aload_n hx hb dX2_init_69 rfl (lv_at hl 0 rfl) ?_
  refine jNew (ci := 7) (fs := [.null]) (Cn := RX5) (T := TX5) (N := 1) C ju_X5 tyX5 tyX5_ok jq_4_4 jq_2_13 jq_2_14 hP hD hS hA rfl (fun j hj => match j, hj with | 0, _ => rfl | k + 1, h => absurd h (by omega)) (Nat.le_of_ble_eq_true rfl) (Nat.le_of_ble_eq_true rfl) dX2_init_70 dX2_init_73 (fun q5 H hP hD hS => ?_)
  refine lv_bipush (v := 24) hx hb dX2_init_74 (by decide) ?_
  refine jIni (ws := (q, .inr (4, [.int 0, .ref q0, .ref q1, .ref q2, .ref q3, .ref q4, .null])) :: (wRow q0 b0 24 G (fun _ => 0) ++ wRow q1 b1 24 G (fun _ => 0) ++ wRow q2 b2 24 G (fun _ => 0) ++ wRow q3 b3 24 G (fun _ => 0) ++ wRow q4 b4 24 G (fun _ => 0) : va_W)) C dX2_init_76 (kc_X5_init l D G q5 24 24 (by decide) (by decide) (Nat.le_of_ble_eq_true rfl)) jy_X5_init rfl jq_4_11 jq_3_11 ⟨rfl, rfl, Nat.le_of_ble_eq_true rfl, Nat.le_of_ble_eq_true rfl⟩ ⟨Nat.le_of_ble_eq_true rfl, Nat.le_of_ble_eq_true rfl⟩ hP hD hS hA hl (As := [.int 24]) rfl (Nat.le_of_ble_eq_true rfl) (fun b5 H locs _ hP hD hS => ?_)
  have hP : va_P D vwCl ((q, .inr (4, [.int 0, .ref q0, .ref q1, .ref q2, .ref q3, .ref q4, .null])) :: (wRow q0 b0 24 G (fun _ => 0) ++ wRow q1 b1 24 G (fun _ => 0) ++ wRow q2 b2 24 G (fun _ => 0) ++ wRow q3 b3 24 G (fun _ => 0) ++ wRow q4 b4 24 G (fun _ => 0) ++ wRow q5 b5 24 G (fun _ => 0) : va_W)) H := hP
  have hD : va_D A ((q, .inr (4, [.int 0, .ref q0, .ref q1, .ref q2, .ref q3, .ref q4, .null])) :: (wRow q0 b0 24 G (fun _ => 0) ++ wRow q1 b1 24 G (fun _ => 0) ++ wRow q2 b2 24 G (fun _ => 0) ++ wRow q3 b3 24 G (fun _ => 0) ++ wRow q4 b4 24 G (fun _ => 0) ++ wRow q5 b5 24 G (fun _ => 0) : va_W)) := hD
  refine va_putF (D := D) (ci := 4) (v := .ref q5) (ty := (.object "TheatreSeasons$Row")) (C := RX2) (T := TX2) (N := 7) hx hb hts ju_X2 tyX2 tyX2_ok nmX2 hown hK hP hD hS 0 rfl rfl 6 (by decide) (hts _ jq_4_10) (fun _ h9 => h9) rfl hin rfl (by decide +kernel) rfl rfl (Nat.le_of_ble_eq_true rfl) dX2_init_79 (fun H locs hP hD hS => ?_)
  have hP : va_P D vwCl ((q, .inr (4, [.int 0, .ref q0, .ref q1, .ref q2, .ref q3, .ref q4, .ref q5])) :: (wRow q0 b0 24 G (fun _ => 0) ++ wRow q1 b1 24 G (fun _ => 0) ++ wRow q2 b2 24 G (fun _ => 0) ++ wRow q3 b3 24 G (fun _ => 0) ++ wRow q4 b4 24 G (fun _ => 0) ++ wRow q5 b5 24 G (fun _ => 0) : va_W)) H := hP
  have hD : va_D A ((q, .inr (4, [.int 0, .ref q0, .ref q1, .ref q2, .ref q3, .ref q4, .ref q5])) :: (wRow q0 b0 24 G (fun _ => 0) ++ wRow q1 b1 24 G (fun _ => 0) ++ wRow q2 b2 24 G (fun _ => 0) ++ wRow q3 b3 24 G (fun _ => 0) ++ wRow q4 b4 24 G (fun _ => 0) ++ wRow q5 b5 24 G (fun _ => 0) : va_W)) := hD
  exact iRet C dX2_init_82 (fun k => cond (Nat.beq k 37) q (cond (Nat.beq k 14) q0 (cond (Nat.beq k 15) b0 (cond (Nat.beq k 16) q1 (cond (Nat.beq k 17) b1 (cond (Nat.beq k 18) q2 (cond (Nat.beq k 19) b2 (cond (Nat.beq k 20) q3 (cond (Nat.beq k 21) b3 (cond (Nat.beq k 22) q4 (cond (Nat.beq k 23) b4 (cond (Nat.beq k 24) q5 (cond (Nat.beq k 25) b5 (0)))))))))))))) rfl hP hD hS (Nat.le_of_ble_eq_true rfl) (Nat.le_of_ble_eq_true rfl)
theorem jy_X7_init : jY yX7_init cX7_init 1 none 0 := ⟨by decide +kernel, jq_4_13, jq_3_4⟩
set_option maxHeartbeats 4000000 in
set_option maxRecDepth 100000 in
theorem kc_X7_init (l : Launch) (D : va_G) (G : Nat → ClassId) (q : Nat) : iM (S := Nat → Nat) l yX7_init cX7_init 1 ({ frames := 2, cells := 4, slots := 22, locals := 45 } : Room) [.ref q] D G [(q, .inr (9, [.int 0, .null, .null]))] (fun a => a 38 = q) (fun a => wSubs a G (fun _ _ => 0)) 4 22 := by
  refine iM_of (by decide +kernel) rfl (Nat.le_of_ble_eq_true rfl) (fun p e s m args below meth c ls A C hin hP hD hA hl => ?_)
  have C : Cx p s m args meth c cX7_init 1 RX7 none D G := C
  obtain ⟨hx, hb, hr, hml, hts, hown, hlocks, hK0⟩ := id C
  have hK := hK0.1
  have hS : va_S A s.heap s.heap [] := va_S.rf
  have hl : lv_has ls 1 [(0, .ref q)] := hl
  refine lv_aload_n hx hb dX7_init_0 rfl (lv_at hl 0 rfl) ?_
  refine W.objInit hx hb hown (hts _ jq_4_14) (hts _ jq_1_14) (hts _ jq_1_15) rfl (by rw [hml]; exact hl.1) rfl dX7_init_1 (Nat.le_of_ble_eq_true rfl) (Nat.le_of_ble_eq_true rfl) ?_
  refine W.eq (g2 := F0 m 4 ls []) rfl ?_
  refine lv_aload_n hx hb dX7_init_4 rfl (lv_at hl 0 rfl) ?_
  refine jNew (ci := 7) (fs := [.null]) (Cn := RX5) (T := TX5) (N := 1) C ju_X5 tyX5 tyX5_ok jq_4_15 jq_2_13 jq_2_14 hP hD hS hA rfl (fun j hj => match j, hj with | 0, _ => rfl | k + 1, h => absurd h (by omega)) (Nat.le_of_ble_eq_true rfl) (Nat.le_of_ble_eq_true rfl) dX7_init_5 dX7_init_8 (fun q0 H hP hD hS => ?_)
  refine lv_bipush (v := 10) hx hb dX7_init_9 (by decide) ?_
  refine jIni (ws := (q, .inr (9, [.int 0, .null, .null])) :: ([] : va_W)) C dX7_init_11 (kc_X5_init l D G q0 10 10 (by decide) (by decide) (Nat.le_of_ble_eq_true rfl)) jy_X5_init rfl jq_4_18 jq_3_11 ⟨rfl, rfl, Nat.le_of_ble_eq_true rfl, Nat.le_of_ble_eq_true rfl⟩ ⟨Nat.le_of_ble_eq_true rfl, Nat.le_of_ble_eq_true rfl⟩ hP hD hS hA hl (As := [.int 10]) rfl (Nat.le_of_ble_eq_true rfl) (fun b0 H locs _ hP hD hS => ?_)
  have hP : va_P D vwCl ((q, .inr (9, [.int 0, .null, .null])) :: (wRow q0 b0 10 G (fun _ => 0) : va_W)) H := hP
  have hD : va_D A ((q, .inr (9, [.int 0, .null, .null])) :: (wRow q0 b0 10 G (fun _ => 0) : va_W)) := hD
  refine va_putF (D := D) (ci := 9) (v := .ref q0) (ty := (.object "TheatreSeasons$Row")) (C := RX7) (T := TX7) (N := 3) hx hb hts ju_X7 tyX7 tyX7_ok nmX7 hown hK hP hD hS 0 rfl rfl 1 (by decide) (hts _ jq_4_16) (fun _ h9 => h9) rfl hin rfl (by decide +kernel) rfl rfl (Nat.le_of_ble_eq_true rfl) dX7_init_14 (fun H locs hP hD hS => ?_)
  have hP : va_P D vwCl ((q, .inr (9, [.int 0, .ref q0, .null])) :: (wRow q0 b0 10 G (fun _ => 0) : va_W)) H := hP
  have hD : va_D A ((q, .inr (9, [.int 0, .ref q0, .null])) :: (wRow q0 b0 10 G (fun _ => 0) : va_W)) := hD
  refine lv_aload_n hx hb dX7_init_17 rfl (lv_at hl 0 rfl) ?_
  refine jNew (ci := 7) (fs := [.null]) (Cn := RX5) (T := TX5) (N := 1) C ju_X5 tyX5 tyX5_ok jq_4_15 jq_2_13 jq_2_14 hP hD hS hA rfl (fun j hj => match j, hj with | 0, _ => rfl | k + 1, h => absurd h (by omega)) (Nat.le_of_ble_eq_true rfl) (Nat.le_of_ble_eq_true rfl) dX7_init_18 dX7_init_21 (fun q1 H hP hD hS => ?_)
  refine lv_bipush (v := 10) hx hb dX7_init_22 (by decide) ?_
  refine jIni (ws := (q, .inr (9, [.int 0, .ref q0, .null])) :: (wRow q0 b0 10 G (fun _ => 0) : va_W)) C dX7_init_24 (kc_X5_init l D G q1 10 10 (by decide) (by decide) (Nat.le_of_ble_eq_true rfl)) jy_X5_init rfl jq_4_18 jq_3_11 ⟨rfl, rfl, Nat.le_of_ble_eq_true rfl, Nat.le_of_ble_eq_true rfl⟩ ⟨Nat.le_of_ble_eq_true rfl, Nat.le_of_ble_eq_true rfl⟩ hP hD hS hA hl (As := [.int 10]) rfl (Nat.le_of_ble_eq_true rfl) (fun b1 H locs _ hP hD hS => ?_)
  have hP : va_P D vwCl ((q, .inr (9, [.int 0, .ref q0, .null])) :: (wRow q0 b0 10 G (fun _ => 0) ++ wRow q1 b1 10 G (fun _ => 0) : va_W)) H := hP
  have hD : va_D A ((q, .inr (9, [.int 0, .ref q0, .null])) :: (wRow q0 b0 10 G (fun _ => 0) ++ wRow q1 b1 10 G (fun _ => 0) : va_W)) := hD
  refine va_putF (D := D) (ci := 9) (v := .ref q1) (ty := (.object "TheatreSeasons$Row")) (C := RX7) (T := TX7) (N := 3) hx hb hts ju_X7 tyX7 tyX7_ok nmX7 hown hK hP hD hS 0 rfl rfl 2 (by decide) (hts _ jq_4_17) (fun _ h9 => h9) rfl hin rfl (by decide +kernel) rfl rfl (Nat.le_of_ble_eq_true rfl) dX7_init_27 (fun H locs hP hD hS => ?_)
  have hP : va_P D vwCl ((q, .inr (9, [.int 0, .ref q0, .ref q1])) :: (wRow q0 b0 10 G (fun _ => 0) ++ wRow q1 b1 10 G (fun _ => 0) : va_W)) H := hP
  have hD : va_D A ((q, .inr (9, [.int 0, .ref q0, .ref q1])) :: (wRow q0 b0 10 G (fun _ => 0) ++ wRow q1 b1 10 G (fun _ => 0) : va_W)) := hD
  exact iRet C dX7_init_30 (fun k => cond (Nat.beq k 38) q (cond (Nat.beq k 26) q0 (cond (Nat.beq k 27) b0 (cond (Nat.beq k 28) q1 (cond (Nat.beq k 29) b1 (0)))))) rfl hP hD hS (Nat.le_of_ble_eq_true rfl) (Nat.le_of_ble_eq_true rfl)
theorem jy_X4_init : jY yX4_init cX4_init 1 none 0 := ⟨by decide +kernel, jq_4_20, jq_3_8⟩
set_option maxHeartbeats 4000000 in
set_option maxRecDepth 100000 in
theorem kc_X4_init (l : Launch) (D : va_G) (G : Nat → ClassId) (q : Nat) : iM (S := Nat → Nat) l yX4_init cX4_init 1 ({ frames := 2, cells := 6, slots := 63, locals := 45 } : Room) [.ref q] D G [(q, .inr (6, [.int 0, .null, .null, .null]))] (fun a => a 39 = q) (fun a => wReqs a G (fun _ _ => 0)) 6 63 := by
  refine iM_of (by decide +kernel) rfl (Nat.le_of_ble_eq_true rfl) (fun p e s m args below meth c ls A C hin hP hD hA hl => ?_)
  have C : Cx p s m args meth c cX4_init 1 RX4 none D G := C
  obtain ⟨hx, hb, hr, hml, hts, hown, hlocks, hK0⟩ := id C
  have hK := hK0.1
  have hS : va_S A s.heap s.heap [] := va_S.rf
  have hl : lv_has ls 1 [(0, .ref q)] := hl
  refine lv_aload_n hx hb dX4_init_0 rfl (lv_at hl 0 rfl) ?_
  refine W.objInit hx hb hown (hts _ jq_4_21) (hts _ jq_1_14) (hts _ jq_1_15) rfl (by rw [hml]; exact hl.1) rfl dX4_init_1 (Nat.le_of_ble_eq_true rfl) (Nat.le_of_ble_eq_true rfl) ?_
  refine W.eq (g2 := F0 m 4 ls []) rfl ?_
  refine lv_aload_n hx hb dX4_init_4 rfl (lv_at hl 0 rfl) ?_
  refine jNew (ci := 7) (fs := [.null]) (Cn := RX5) (T := TX5) (N := 1) C ju_X5 tyX5 tyX5_ok jq_4_22 jq_2_13 jq_2_14 hP hD hS hA rfl (fun j hj => match j, hj with | 0, _ => rfl | k + 1, h => absurd h (by omega)) (Nat.le_of_ble_eq_true rfl) (Nat.le_of_ble_eq_true rfl) dX4_init_5 dX4_init_8 (fun q0 H hP hD hS => ?_)
  refine lv_bipush (v := 20) hx hb dX4_init_9 (by decide) ?_
  refine jIni (ws := (q, .inr (6, [.int 0, .null, .null, .null])) :: ([] : va_W)) C dX4_init_11 (kc_X5_init l D G q0 20 20 (by decide) (by decide) (Nat.le_of_ble_eq_true rfl)) jy_X5_init rfl jq_5_2 jq_3_11 ⟨rfl, rfl, Nat.le_of_ble_eq_true rfl, Nat.le_of_ble_eq_true rfl⟩ ⟨Nat.le_of_ble_eq_true rfl, Nat.le_of_ble_eq_true rfl⟩ hP hD hS hA hl (As := [.int 20]) rfl (Nat.le_of_ble_eq_true rfl) (fun b0 H locs _ hP hD hS => ?_)
  have hP : va_P D vwCl ((q, .inr (6, [.int 0, .null, .null, .null])) :: (wRow q0 b0 20 G (fun _ => 0) : va_W)) H := hP
  have hD : va_D A ((q, .inr (6, [.int 0, .null, .null, .null])) :: (wRow q0 b0 20 G (fun _ => 0) : va_W)) := hD
  refine va_putF (D := D) (ci := 6) (v := .ref q0) (ty := (.object "TheatreSeasons$Row")) (C := RX4) (T := TX4) (N := 4) hx hb hts ju_X4 tyX4 tyX4_ok nmX4 hown hK hP hD hS 0 rfl rfl 1 (by decide) (hts _ jq_4_23) (fun _ h9 => h9) rfl hin rfl (by decide +kernel) rfl rfl (Nat.le_of_ble_eq_true rfl) dX4_init_14 (fun H locs hP hD hS => ?_)
  have hP : va_P D vwCl ((q, .inr (6, [.int 0, .ref q0, .null, .null])) :: (wRow q0 b0 20 G (fun _ => 0) : va_W)) H := hP
  have hD : va_D A ((q, .inr (6, [.int 0, .ref q0, .null, .null])) :: (wRow q0 b0 20 G (fun _ => 0) : va_W)) := hD
  refine lv_aload_n hx hb dX4_init_17 rfl (lv_at hl 0 rfl) ?_
  refine jNew (ci := 7) (fs := [.null]) (Cn := RX5) (T := TX5) (N := 1) C ju_X5 tyX5 tyX5_ok jq_4_22 jq_2_13 jq_2_14 hP hD hS hA rfl (fun j hj => match j, hj with | 0, _ => rfl | k + 1, h => absurd h (by omega)) (Nat.le_of_ble_eq_true rfl) (Nat.le_of_ble_eq_true rfl) dX4_init_18 dX4_init_21 (fun q1 H hP hD hS => ?_)
  refine lv_bipush (v := 20) hx hb dX4_init_22 (by decide) ?_
  refine jIni (ws := (q, .inr (6, [.int 0, .ref q0, .null, .null])) :: (wRow q0 b0 20 G (fun _ => 0) : va_W)) C dX4_init_24 (kc_X5_init l D G q1 20 20 (by decide) (by decide) (Nat.le_of_ble_eq_true rfl)) jy_X5_init rfl jq_5_2 jq_3_11 ⟨rfl, rfl, Nat.le_of_ble_eq_true rfl, Nat.le_of_ble_eq_true rfl⟩ ⟨Nat.le_of_ble_eq_true rfl, Nat.le_of_ble_eq_true rfl⟩ hP hD hS hA hl (As := [.int 20]) rfl (Nat.le_of_ble_eq_true rfl) (fun b1 H locs _ hP hD hS => ?_)
  have hP : va_P D vwCl ((q, .inr (6, [.int 0, .ref q0, .null, .null])) :: (wRow q0 b0 20 G (fun _ => 0) ++ wRow q1 b1 20 G (fun _ => 0) : va_W)) H := hP
  have hD : va_D A ((q, .inr (6, [.int 0, .ref q0, .null, .null])) :: (wRow q0 b0 20 G (fun _ => 0) ++ wRow q1 b1 20 G (fun _ => 0) : va_W)) := hD
  refine va_putF (D := D) (ci := 6) (v := .ref q1) (ty := (.object "TheatreSeasons$Row")) (C := RX4) (T := TX4) (N := 4) hx hb hts ju_X4 tyX4 tyX4_ok nmX4 hown hK hP hD hS 0 rfl rfl 2 (by decide) (hts _ jq_5_0) (fun _ h9 => h9) rfl hin rfl (by decide +kernel) rfl rfl (Nat.le_of_ble_eq_true rfl) dX4_init_27 (fun H locs hP hD hS => ?_)
  have hP : va_P D vwCl ((q, .inr (6, [.int 0, .ref q0, .ref q1, .null])) :: (wRow q0 b0 20 G (fun _ => 0) ++ wRow q1 b1 20 G (fun _ => 0) : va_W)) H := hP
  have hD : va_D A ((q, .inr (6, [.int 0, .ref q0, .ref q1, .null])) :: (wRow q0 b0 20 G (fun _ => 0) ++ wRow q1 b1 20 G (fun _ => 0) : va_W)) := hD
  refine lv_aload_n hx hb dX4_init_30 rfl (lv_at hl 0 rfl) ?_
  refine jNew (ci := 7) (fs := [.null]) (Cn := RX5) (T := TX5) (N := 1) C ju_X5 tyX5 tyX5_ok jq_4_22 jq_2_13 jq_2_14 hP hD hS hA rfl (fun j hj => match j, hj with | 0, _ => rfl | k + 1, h => absurd h (by omega)) (Nat.le_of_ble_eq_true rfl) (Nat.le_of_ble_eq_true rfl) dX4_init_31 dX4_init_34 (fun q2 H hP hD hS => ?_)
  refine lv_bipush (v := 20) hx hb dX4_init_35 (by decide) ?_
  refine jIni (ws := (q, .inr (6, [.int 0, .ref q0, .ref q1, .null])) :: (wRow q0 b0 20 G (fun _ => 0) ++ wRow q1 b1 20 G (fun _ => 0) : va_W)) C dX4_init_37 (kc_X5_init l D G q2 20 20 (by decide) (by decide) (Nat.le_of_ble_eq_true rfl)) jy_X5_init rfl jq_5_2 jq_3_11 ⟨rfl, rfl, Nat.le_of_ble_eq_true rfl, Nat.le_of_ble_eq_true rfl⟩ ⟨Nat.le_of_ble_eq_true rfl, Nat.le_of_ble_eq_true rfl⟩ hP hD hS hA hl (As := [.int 20]) rfl (Nat.le_of_ble_eq_true rfl) (fun b2 H locs _ hP hD hS => ?_)
  have hP : va_P D vwCl ((q, .inr (6, [.int 0, .ref q0, .ref q1, .null])) :: (wRow q0 b0 20 G (fun _ => 0) ++ wRow q1 b1 20 G (fun _ => 0) ++ wRow q2 b2 20 G (fun _ => 0) : va_W)) H := hP
  have hD : va_D A ((q, .inr (6, [.int 0, .ref q0, .ref q1, .null])) :: (wRow q0 b0 20 G (fun _ => 0) ++ wRow q1 b1 20 G (fun _ => 0) ++ wRow q2 b2 20 G (fun _ => 0) : va_W)) := hD
  refine va_putF (D := D) (ci := 6) (v := .ref q2) (ty := (.object "TheatreSeasons$Row")) (C := RX4) (T := TX4) (N := 4) hx hb hts ju_X4 tyX4 tyX4_ok nmX4 hown hK hP hD hS 0 rfl rfl 3 (by decide) (hts _ jq_5_1) (fun _ h9 => h9) rfl hin rfl (by decide +kernel) rfl rfl (Nat.le_of_ble_eq_true rfl) dX4_init_40 (fun H locs hP hD hS => ?_)
  have hP : va_P D vwCl ((q, .inr (6, [.int 0, .ref q0, .ref q1, .ref q2])) :: (wRow q0 b0 20 G (fun _ => 0) ++ wRow q1 b1 20 G (fun _ => 0) ++ wRow q2 b2 20 G (fun _ => 0) : va_W)) H := hP
  have hD : va_D A ((q, .inr (6, [.int 0, .ref q0, .ref q1, .ref q2])) :: (wRow q0 b0 20 G (fun _ => 0) ++ wRow q1 b1 20 G (fun _ => 0) ++ wRow q2 b2 20 G (fun _ => 0) : va_W)) := hD
  exact iRet C dX4_init_43 (fun k => cond (Nat.beq k 39) q (cond (Nat.beq k 30) q0 (cond (Nat.beq k 31) b0 (cond (Nat.beq k 32) q1 (cond (Nat.beq k 33) b1 (cond (Nat.beq k 34) q2 (cond (Nat.beq k 35) b2 (0)))))))) rfl hP hD hS (Nat.le_of_ble_eq_true rfl) (Nat.le_of_ble_eq_true rfl)
