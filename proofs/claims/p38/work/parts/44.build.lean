/-! the law's build: from the script to a season -/
abbrev CS : Type := Nat → Nat → Nat → Int32
theorem zA (i j : Nat) : nI i + nI j = nI (i + j) := (Int32.ofNat_add i j).symm
theorem zN {n : Nat} (h : n < 2 ^ 31) : (nI n).toInt = n := Int32.toInt_ofNat_of_lt h
theorem zLe {a b : Nat} (ha : a < 2 ^ 31) (hb : b < 2 ^ 31) : nI a ≤ nI b ↔ a ≤ b := by
  rw [Int32.le_iff_toInt_le, zN ha, zN hb]; omega
theorem zE {a b : Nat} (ha : a < 2 ^ 31) (hb : b < 2 ^ 31) : nI a = nI b ↔ a = b := by
  rw [← Int32.toInt_inj, zN ha, zN hb]; omega
/-- a try that the law's helper brings to its end -/
def hpB (N : Nat) (r : Int32 × Int32 × CS) : Bool := decide (r.1 = 0 ∨ (r.1 = 4 ∧ (F_Y8_reason N r.2.2 0).isSome = true))
theorem hpB_s {N : Nat} {r : Int32 × Int32 × CS} (h : hpB N r = true) : ∃ q : Int32, (r.1 = 0 ∨ r.1 = 4) ∧ (r.1 = 4 → F_Y8_reason N r.2.2 0 = some q) := by
  rcases of_decide_eq_true h with h | ⟨h, h2⟩
  · exact ⟨0, Or.inl h, fun h4 => by rw [h] at h4; exact absurd h4 (by decide)⟩
  · obtain ⟨q, hq⟩ := Option.isSome_iff_exists.mp h2
    exact ⟨q, Or.inr h, fun _ => hq⟩
def bdA (N L : Nat) (xs : Nat → Int32) : Nat → Nat → CS → Option CS
  | 0, _, S => some S
  | n + 1, k, S => (F_Y8_addProduction N S (nI (1 + smV L xs (1 + k) 9)) (nI (1 + smV L xs (6 + k) 4)) (nI (1 + smV L xs (11 + k) 50)) (nI (smV L xs (16 + k) 101))).bind (fun r => bdA N L xs n (k + 1) r.2)
def bdB (N L : Nat) (xs : Nat → Int32) (np : Nat) : Nat → Nat → CS → Option CS
  | 0, _, S => some S
  | n + 1, k, S => (F_X8_perform N S (nI (smV L xs (21 + k) np)) (nI (smV L xs (32 + k) 3)) (nI (smV L xs (43 + k) 12))).bind (fun r => if hpB N r = true then bdB N L xs np n (k + 1) r.2.2 else none)
def bdC (N L : Nat) (xs : Nat → Int32) : Nat → Nat → CS → Option CS
  | 0, _, S => some S
  | n + 1, k, S => (F_Y8_subscribe N S (nI (1 + smV L xs (54 + k) 6))).bind (fun r => bdC N L xs n (k + 1) r.2)
def bdD (N L : Nat) (xs : Nat → Int32) (nf : Nat) : Nat → Nat → CS → Option CS
  | 0, _, S => some S
  | n + 1, k, S => (F_X8_hold N S (nI (smV L xs (59 + k) 4)) (nI (smV L xs (66 + k) nf))).bind (fun r => if hpB N r = true then bdD N L xs nf n (k + 1) r.2.2 else none)
def bdE (N L : Nat) (xs : Nat → Int32) (nf : Nat) : Nat → Nat → CS → Option CS
  | 0, _, S => some S
  | n + 1, k, S => (F_X8_sell N S (nI (smV L xs (73 + k) nf)) (nI (1 + smV L xs (80 + k) 60))).bind (fun r => if hpB N r = true then bdE N L xs nf n (k + 1) r.2.2 else none)
def bdF (N L : Nat) (xs : Nat → Int32) (nf : Nat) : Nat → Nat → CS → Option CS
  | 0, _, S => some S
  | n + 1, k, S => (F_X8_request N S (nI (smV L xs (87 + k) nf)) (nI (1 + smV L xs (93 + k) 30)) (nI (smV L xs (99 + k) 4))).bind (fun r => if hpB N r = true then bdF N L xs nf n (k + 1) r.2.2 else none)
def bM (l : Launch) (y : MethodName) (ws : List Cond) (rm : Room) (As : List Value) (D : va_G) (G : Nat → ClassId) (ks va : Nat → Nat) (b L : Nat) (xs : Nat → Int32) (w w' : va_W) : Prop :=
  ∀ sz : Nat, Met l y ws rm (va_Pc As (fun U => U.heap.size = sz ∧ va_P D vwCl w U.heap ∧ jK D G U ∧ va_D (fun _ => True) w ∧ jZ ks va (va_A w sz) U U.heap ∧ jC U ∧ va_X b L xs U U.heap ∧ b < sz ∧ ¬ va_A w sz b)) (mQ D w' none (va_A w sz)) rm.cells rm.slots (va_A w sz)
theorem bM_of {l : Launch} {y : MethodName} {cc : ByteArray} {maxL : Nat} {ret : Option FieldType} {rm : Room} {As : List Value} {D : va_G} {G : Nat → ClassId} {ks va : Nat → Nat} {b L : Nat} {xs : Nat → Int32} {w w' : va_W} (hy : plainName y.cls = true) (hlen : (lg_sl As).length ≤ maxL)
    (body : ∀ (p : Program) (e : Env) (s : State) (m : MethodId) (args : Array Value) (below : List Frame) (meth : Method) (c : Code) (ls : Array Slot) (A : Nat → Prop), Cx p s m args meth c cc maxL y.cls ret D G → va_P D vwCl w s.heap → va_D A w → (∀ q : Nat, s.heap.size ≤ q → A q) → jZ ks va A s s.heap → jC s → va_X b L xs s s.heap → b < s.heap.size → ¬ A b → lv_has ls maxL (lv_args 0 As) → W p l e rm s m args below meth c s.heap [] 0 0 (MQ below (mQ D w' none A) args s rm.cells rm.slots A) (F0 m 0 ls [])) :
    bM l y (jws y cc maxL ret) rm As D G ks va b L xs w w' := by
  intro sz
  refine Met.ofW (cc := cc) (maxL := maxL) (ret := ret) hy rfl ?_
  intro p e s m args below meth c s₁ B hml hv
  obtain ⟨rfl, hsz, hP, hK, hD0, hZ, hC, hX, hbl, hbA⟩ := hv
  have hts := atoms_spec (ws := jws y cc maxL ret) B.pre
  subst hsz
  rw [lg_entry_eq]
  exact body p e s m _ below meth c _ (va_A w s.heap.size) ⟨B.exec, B.bytes, B.returns, hml, fun w h => hts w (List.mem_cons_of_mem _ h), findClass_of_methodNamed B.named, B.notSynchronized, hK⟩ hP hD0.self (fun q h => Or.inr h) hZ hC hX hbl hbA (lv_entry As hlen)
theorem bRetV {p : Program} {l : Launch} {e : Env} {R : Room} {s : State} {m : MethodId} {args : Array Value} {below : List Frame} {meth : Method} {c : Code} {H : Heap} {locs : List Loc} {cells slots mc ms : Nat} {cc : ByteArray} {nL : Nat} {own : String} {D : va_G} {G : Nat → ClassId} {pc : Nat} {ls : Array Slot} {A : Nat → Prop} {w' : va_W}
    (C : Cx p s m args meth c cc nL own none D G) (hdg : decode cc pc = .ok (.return_, 1)) (hc : cells ≤ mc) (hs : slots ≤ ms) (hP : va_P D vwCl w' H) (hS : va_S A s.heap H locs) :
    W p l e R s m args below meth c H locs cells slots (MQ below (mQ D w' none A) args s mc ms A) (F0 m pc ls []) := by
  obtain ⟨hx, hb, hr, -, -, -, hlocks, -⟩ := C
  refine W.widen hc hs ?_
  exact W.vret hx hb hr (fun t ht _ => ⟨rfl, by rw [ht]; exact hP, hS.F ht⟩) hS.2.2 hdg hlocks
section BC
variable {p : Program} {l : Launch} {e : Env} {R : Room} {s : State} {m : MethodId} {args : Array Value} {below : List Frame} {meth : Method} {c : Code} {H : Heap} {locs : List Loc} {cells slots : Nat} {Q : State → Prop} {cc : ByteArray} {nL : Nat} {own : String} {ret : Option FieldType} {D : va_G} {G : Nat → ClassId} {pc : Nat} {ls : Array Slot} {A : Nat → Prop} {w w' : va_W}
  {y : MethodName} {bytes : ByteArray} {maxL index : Nat} {rt : Option FieldType} {rm : Room} {As rest st0 : List Value} {ks va : Nat → Nat} {b L : Nat} {xs : Nat → Int32}
theorem jSb (C : Cx p s m args meth c cc nL own ret D G) (hdg : decode cc pc = .ok (.invokestatic index, 3)) (hM : bM l y (jws y bytes maxL rt) rm As D G ks va b L xs w w') (hY : jY y bytes maxL rt As.length) (hl : Cond.methodLink own index y ∈ jw) (hi : Cond.static y ∈ jw)
    (hR : xRoom rm R maxL) (hcs : cells + rm.cells ≤ R.cells ∧ slots + rm.slots ≤ R.slots) (hZ : jZ ks va A s s.heap) (hC : jC s) (hX : va_X b L xs s s.heap) (hbl : b < s.heap.size) (hbA : ¬ A b) (hP : va_P D vwCl w H) (hD : va_D A w) (hA : ∀ q : Nat, s.heap.size ≤ q → A q) (hS : va_S A s.heap H locs) {lv : List (Nat × Value)} (hlv : lv_has ls nL lv) (hst : st0 = As.reverse ++ rest) (hcat : (rest.map fun v => v.category).sum ≤ 8)
    (kk : ∀ (H1 : Heap) (locs1 : List Loc), va_P D vwCl w' H1 → va_S A s.heap H1 locs1 → W p l e R s m args below meth c H1 locs1 (cells + rm.cells) (slots + rm.slots) Q (F0 m (pc + 3) ls rest)) : W p l e R s m args below meth c H locs cells slots Q (F0 m pc ls st0) := by
  have hAw : ∀ q, va_A w H.size q → A q := by
    intro q h
    rcases h with ⟨k, e, h⟩ | h
    · exact hD.2 k _ h
    · exact hA q (Nat.le_trans hS.1 h)
  refine jWriteC (va_runS (rest := rest) (As := As) (jFix C) (hM H.size) ⟨xCB C hY hl hR, C.2.2.2.2.1 _ hi⟩ ⟨fun a U g mk q => ⟨q.1, q.2.1, q.2.2.1, q.2.2.2.1.blind, q.2.2.2.2.1, q.2.2.2.2.2.1.blind, q.2.2.2.2.2.2.1.blind, va_X.moved (u := U) (U := U.calling g mk a) (Vm.Alike.refl U.vm) q.2.2.2.2.2.2.2.1, q.2.2.2.2.2.2.2.2⟩, fun U hU hW => ⟨rfl, by rw [hU], by rw [hU]; exact hP, C.2.2.2.2.2.2.2.warm hW, hD.weaken (fun _ _ _ _ => trivial), by rw [hU]; exact ((hZ.kept hS.2.1).narrow hAw).warm hW, hC.warm hW, by rw [hU]; exact va_X.moved hW.alike (hX.kept (hS.2.1 b hbl hbA)), Nat.lt_of_lt_of_le hbl hS.1, fun h => hbA (hAw b h)⟩⟩ rfl rfl hlv.1 hst (lv_room hcat) hdg hcs) hS hAw (fun H1 locs1 h1 _ _ h2 => kk H1 locs1 h1 h2)
end BC
set_option maxHeartbeats 4000000 in
set_option maxRecDepth 100000 in
theorem LB_A {p : Program} {l : Launch} {e : Env} {s : State} {m : MethodId} {args : Array Value} {below : List Frame} {meth : Method} {c : Code} {Q : State → Prop} {D : va_G} {G : Nat → ClassId} {A : Nat → Prop} {ks va : Nat → Nat} {b L : Nat} {xs : Nat → Int32} {B : Nat → Nat → Nat} (hL : L ≤ 260)
    (C : Cx p s m args meth c cL_build 5 RL none D G) (hl0 : l.stackTraces = false) (hZ : jZ ks va A s s.heap) (hC : jC s) (hA : ∀ q : Nat, s.heap.size ≤ q → A q) (hX : va_X b L xs s s.heap) (hbl : b < s.heap.size) (hbA : ¬ A b) (N : Nat) (np nf : Nat) (hnp : np ≤ 4) (Sf : CS)
    (kk : ∀ (ls : Array Slot) (H : Heap) (locs : List Loc), va_P D vwCl (wTS B G Sf) H → va_D A (wTS B G Sf) → va_S A s.heap H locs → lv_has ls 5 [(3, .int (nI np)), (2, .int (nI np)), (1, .ref b), (0, .ref (B 9 0))] → W p l e ({ frames := 11, cells := 81, slots := 486, locals := 280 } : Room) s m args below meth c H locs 0 0 Q (F0 m 71 ls [])) :
    ∀ (n k : Nat), n + k = np → ∀ (S : CS) (ls : Array Slot) (H : Heap) (locs : List Loc), va_P D vwCl (wTS B G S) H → va_D A (wTS B G S) → va_S A s.heap H locs → lv_has ls 5 [(3, .int (nI k)), (2, .int (nI np)), (1, .ref b), (0, .ref (B 9 0))] → bdA N L xs n k S = some Sf → W p l e ({ frames := 11, cells := 81, slots := 486, locals := 280 } : Room) s m args below meth c H locs 0 0 Q (F0 m 11 ls []) := by
  obtain ⟨hx, hb, hr, hml, hts, hown, hlocks, hK0⟩ := id C
  have hK := hK0.1
  intro n
  induction n with
  | zero =>
    intro k hk0 S ls H locs hP hD hS hl hV
    obtain rfl : k = np := by omega
    cases hV
    refine lv_iload_n hx hb dL_build_11 rfl (lv_at hl 0 rfl) ?_
    refine lv_iload_n hx hb dL_build_12 rfl (lv_at hl 1 rfl) ?_
    refine lv_icmp_ge (tgt := 71) hx hb dL_build_13 (by decide) (fun _ => ?_) (fun h => absurd (Int32.le_refl _) h)
    exact kk ls H locs hP hD hS hl
  | succ n ih =>
    intro k hk0 S ls H locs hP hD hS hl hV
    have hlt : k < np := by omega
    refine lv_iload_n hx hb dL_build_11 rfl (lv_at hl 0 rfl) ?_
    refine lv_iload_n hx hb dL_build_12 rfl (lv_at hl 1 rfl) ?_
    refine lv_icmp_ge (tgt := 71) hx hb dL_build_13 (by decide) (fun h => absurd ((zLe (a := np) (b := k) (by omega) (by omega)).mp h) (by omega)) (fun _ => ?_)
    rw [bdA] at hV
    refine lv_aload_n hx hb dL_build_16 rfl (lv_at hl 3 rfl) ?_
    refine lv_iconst (v := 1) hx hb dL_build_17 (by decide) ?_
    refine lv_aload_n hx hb dL_build_18 rfl (lv_at hl 2 rfl) ?_
    refine lv_iconst (v := 1) hx hb dL_build_19 (by decide) ?_
    refine lv_iload_n hx hb dL_build_20 rfl (lv_at hl 0 rfl) ?_
    refine lv_iadd hx hb dL_build_21 ?_
    refine W.eq (g2 := F0 m 22 ls [.int (nI (1 + k)), .ref b, .int 1, .ref (B 9 0)]) (congrArg (fun z => F0 m 22 ls (Value.int z :: [.ref b, .int 1, .ref (B 9 0)])) (zA 1 k)) ?_
    refine lv_bipush (v := 9) hx hb dL_build_22 (by decide) ?_
    refine jSs C dL_build_24 (ks_some l D G b L xs hL (1 + k) 9 (by omega) (by omega) (by omega)) jy_L_some jq_8_4 jq_8_5 ⟨rfl, rfl, Nat.le_of_ble_eq_true rfl, Nat.le_of_ble_eq_true rfl⟩ ⟨by show 0 ≤ 81; omega, by show 0 ≤ 486; omega⟩ hX hbl hbA hS hl (As := [.ref b, .int (nI (1 + k)), .int (nI 9)]) (rest := [.int 1, .ref (B 9 0)]) rfl (Nat.le_of_ble_eq_true rfl) ?_
    refine W.eq (g2 := F0 m 27 ls [.int (nI (smV L xs (1 + k) 9)), .int 1, .ref (B 9 0)]) rfl ?_
    refine lv_iadd hx hb dL_build_27 ?_
    refine W.eq (g2 := F0 m 28 ls [.int (nI (1 + (smV L xs (1 + k) 9))), .ref (B 9 0)]) (congrArg (fun z => F0 m 28 ls (Value.int z :: [.ref (B 9 0)])) (zA 1 (smV L xs (1 + k) 9))) ?_
    refine lv_iconst (v := 1) hx hb dL_build_28 (by decide) ?_
    refine lv_aload_n hx hb dL_build_29 rfl (lv_at hl 2 rfl) ?_
    refine lv_bipush (v := 6) hx hb dL_build_30 (by decide) ?_
    refine lv_iload_n hx hb dL_build_32 rfl (lv_at hl 0 rfl) ?_
    refine lv_iadd hx hb dL_build_33 ?_
    refine W.eq (g2 := F0 m 34 ls [.int (nI (6 + k)), .ref b, .int 1, .int (nI (1 + (smV L xs (1 + k) 9))), .ref (B 9 0)]) (congrArg (fun z => F0 m 34 ls (Value.int z :: [.ref b, .int 1, .int (nI (1 + (smV L xs (1 + k) 9))), .ref (B 9 0)])) (zA 6 k)) ?_
    refine lv_iconst (v := 4) hx hb dL_build_34 (by decide) ?_
    refine jSs C dL_build_35 (ks_some l D G b L xs hL (6 + k) 4 (by omega) (by omega) (by omega)) jy_L_some jq_8_4 jq_8_5 ⟨rfl, rfl, Nat.le_of_ble_eq_true rfl, Nat.le_of_ble_eq_true rfl⟩ ⟨by show 0 ≤ 81; omega, by show 0 ≤ 486; omega⟩ hX hbl hbA hS hl (As := [.ref b, .int (nI (6 + k)), .int (nI 4)]) (rest := [.int 1, .int (nI (1 + (smV L xs (1 + k) 9))), .ref (B 9 0)]) rfl (Nat.le_of_ble_eq_true rfl) ?_
    refine W.eq (g2 := F0 m 38 ls [.int (nI (smV L xs (6 + k) 4)), .int 1, .int (nI (1 + (smV L xs (1 + k) 9))), .ref (B 9 0)]) rfl ?_
    refine lv_iadd hx hb dL_build_38 ?_
    refine W.eq (g2 := F0 m 39 ls [.int (nI (1 + (smV L xs (6 + k) 4))), .int (nI (1 + (smV L xs (1 + k) 9))), .ref (B 9 0)]) (congrArg (fun z => F0 m 39 ls (Value.int z :: [.int (nI (1 + (smV L xs (1 + k) 9))), .ref (B 9 0)])) (zA 1 (smV L xs (6 + k) 4))) ?_
    refine lv_iconst (v := 1) hx hb dL_build_39 (by decide) ?_
    refine lv_aload_n hx hb dL_build_40 rfl (lv_at hl 2 rfl) ?_
    refine lv_bipush (v := 11) hx hb dL_build_41 (by decide) ?_
    refine lv_iload_n hx hb dL_build_43 rfl (lv_at hl 0 rfl) ?_
    refine lv_iadd hx hb dL_build_44 ?_
    refine W.eq (g2 := F0 m 45 ls [.int (nI (11 + k)), .ref b, .int 1, .int (nI (1 + (smV L xs (6 + k) 4))), .int (nI (1 + (smV L xs (1 + k) 9))), .ref (B 9 0)]) (congrArg (fun z => F0 m 45 ls (Value.int z :: [.ref b, .int 1, .int (nI (1 + (smV L xs (6 + k) 4))), .int (nI (1 + (smV L xs (1 + k) 9))), .ref (B 9 0)])) (zA 11 k)) ?_
    refine lv_bipush (v := 50) hx hb dL_build_45 (by decide) ?_
    refine jSs C dL_build_47 (ks_some l D G b L xs hL (11 + k) 50 (by omega) (by omega) (by omega)) jy_L_some jq_8_4 jq_8_5 ⟨rfl, rfl, Nat.le_of_ble_eq_true rfl, Nat.le_of_ble_eq_true rfl⟩ ⟨by show 0 ≤ 81; omega, by show 0 ≤ 486; omega⟩ hX hbl hbA hS hl (As := [.ref b, .int (nI (11 + k)), .int (nI 50)]) (rest := [.int 1, .int (nI (1 + (smV L xs (6 + k) 4))), .int (nI (1 + (smV L xs (1 + k) 9))), .ref (B 9 0)]) rfl (Nat.le_of_ble_eq_true rfl) ?_
    refine W.eq (g2 := F0 m 50 ls [.int (nI (smV L xs (11 + k) 50)), .int 1, .int (nI (1 + (smV L xs (6 + k) 4))), .int (nI (1 + (smV L xs (1 + k) 9))), .ref (B 9 0)]) rfl ?_
    refine lv_iadd hx hb dL_build_50 ?_
    refine W.eq (g2 := F0 m 51 ls [.int (nI (1 + (smV L xs (11 + k) 50))), .int (nI (1 + (smV L xs (6 + k) 4))), .int (nI (1 + (smV L xs (1 + k) 9))), .ref (B 9 0)]) (congrArg (fun z => F0 m 51 ls (Value.int z :: [.int (nI (1 + (smV L xs (6 + k) 4))), .int (nI (1 + (smV L xs (1 + k) 9))), .ref (B 9 0)])) (zA 1 (smV L xs (11 + k) 50))) ?_
    refine lv_aload_n hx hb dL_build_51 rfl (lv_at hl 2 rfl) ?_
    refine lv_bipush (v := 16) hx hb dL_build_52 (by decide) ?_
    refine lv_iload_n hx hb dL_build_54 rfl (lv_at hl 0 rfl) ?_
    refine lv_iadd hx hb dL_build_55 ?_
    refine W.eq (g2 := F0 m 56 ls [.int (nI (16 + k)), .ref b, .int (nI (1 + (smV L xs (11 + k) 50))), .int (nI (1 + (smV L xs (6 + k) 4))), .int (nI (1 + (smV L xs (1 + k) 9))), .ref (B 9 0)]) (congrArg (fun z => F0 m 56 ls (Value.int z :: [.ref b, .int (nI (1 + (smV L xs (11 + k) 50))), .int (nI (1 + (smV L xs (6 + k) 4))), .int (nI (1 + (smV L xs (1 + k) 9))), .ref (B 9 0)])) (zA 16 k)) ?_
    refine lv_bipush (v := 101) hx hb dL_build_56 (by decide) ?_
    refine jSs C dL_build_58 (ks_some l D G b L xs hL (16 + k) 101 (by omega) (by omega) (by omega)) jy_L_some jq_8_4 jq_8_5 ⟨rfl, rfl, Nat.le_of_ble_eq_true rfl, Nat.le_of_ble_eq_true rfl⟩ ⟨by show 0 ≤ 81; omega, by show 0 ≤ 486; omega⟩ hX hbl hbA hS hl (As := [.ref b, .int (nI (16 + k)), .int (nI 101)]) (rest := [.int (nI (1 + (smV L xs (11 + k) 50))), .int (nI (1 + (smV L xs (6 + k) 4))), .int (nI (1 + (smV L xs (1 + k) 9))), .ref (B 9 0)]) rfl (Nat.le_of_ble_eq_true rfl) ?_
    refine W.eq (g2 := F0 m 61 ls [.int (nI (smV L xs (16 + k) 101)), .int (nI (1 + (smV L xs (11 + k) 50))), .int (nI (1 + (smV L xs (6 + k) 4))), .int (nI (1 + (smV L xs (1 + k) 9))), .ref (B 9 0)]) rfl ?_
    obtain ⟨r, hr1, hV⟩ := jBind hV
    refine jVmI C dL_build_61 (k_Y8_addProduction l D G B N S (nI (1 + (smV L xs (1 + k) 9))) (nI (1 + (smV L xs (6 + k) 4))) (nI (1 + (smV L xs (11 + k) 50))) (nI (smV L xs (16 + k) 101)) r hr1) jy_X8_addProduction jq_8_10 jq_8_11 jq_8_12 ⟨rfl, rfl, Nat.le_of_ble_eq_true rfl, Nat.le_of_ble_eq_true rfl⟩ ⟨Nat.le_of_ble_eq_true rfl, Nat.le_of_ble_eq_true rfl⟩ hP hD hA hS (ci := 10) (iw := 0) rfl rfl rfl hl (As := [.int (nI (1 + (smV L xs (1 + k) 9))), .int (nI (1 + (smV L xs (6 + k) 4))), .int (nI (1 + (smV L xs (11 + k) 50))), .int (nI (smV L xs (16 + k) 101))]) (rest := []) rfl (Nat.le_of_ble_eq_true rfl) (fun H1 locs hQ hz hkp hS => ?_)
    have hD : va_D A (wTS B G r.2) := jD (w := wTS B G S) (dTS _ _) hD
    clear hz hkp
    refine lv_pop hx hb dL_build_64 rfl ?_
    refine lv_iinc (v := nI (k + 1)) (lv' := [(3, .int (nI (k + 1))), (2, .int (nI np)), (1, .ref b), (0, .ref (B 9 0))]) hx hb dL_build_65 hl (k := 0) rfl (zA k 1) (by decide) rfl (fun ls hl => ?_)
    refine lv_goto (tgt := 11) hx hb dL_build_68 (by decide) ?_
    exact ih (k + 1) (by omega) _ ls H1 locs hQ hD hS (lv_sub hl [0, 1, 2, 3] rfl) hV
set_option maxHeartbeats 4000000 in
set_option maxRecDepth 100000 in
theorem LB_B {p : Program} {l : Launch} {e : Env} {s : State} {m : MethodId} {args : Array Value} {below : List Frame} {meth : Method} {c : Code} {Q : State → Prop} {D : va_G} {G : Nat → ClassId} {A : Nat → Prop} {ks va : Nat → Nat} {b L : Nat} {xs : Nat → Int32} {B : Nat → Nat → Nat} (hL : L ≤ 260)
    (C : Cx p s m args meth c cL_build 5 RL none D G) (hl0 : l.stackTraces = false) (hZ : jZ ks va A s s.heap) (hC : jC s) (hA : ∀ q : Nat, s.heap.size ≤ q → A q) (hX : va_X b L xs s s.heap) (hbl : b < s.heap.size) (hbA : ¬ A b) (N : Nat) (np nf : Nat) (hnp0 : 0 < np) (hnp : np ≤ 4) (Sf : CS)
    (kk : ∀ (ls : Array Slot) (H : Heap) (locs : List Loc), va_P D vwCl (wTS B G Sf) H → va_D A (wTS B G Sf) → va_S A s.heap H locs → lv_has ls 5 [(3, .int (nI 10)), (2, .int (nI np)), (1, .ref b), (0, .ref (B 9 0))] → W p l e ({ frames := 11, cells := 81, slots := 486, locals := 280 } : Room) s m args below meth c H locs (0 + 3 * 10) (0 + 18 * 10) Q (F0 m 118 ls [])) :
    ∀ (n k : Nat), n + k = 10 → ∀ (S : CS) (ls : Array Slot) (H : Heap) (locs : List Loc), va_P D vwCl (wTS B G S) H → va_D A (wTS B G S) → va_S A s.heap H locs → lv_has ls 5 [(3, .int (nI k)), (2, .int (nI np)), (1, .ref b), (0, .ref (B 9 0))] → bdB N L xs np n k S = some Sf → W p l e ({ frames := 11, cells := 81, slots := 486, locals := 280 } : Room) s m args below meth c H locs (0 + 3 * k) (0 + 18 * k) Q (F0 m 73 ls []) := by
  obtain ⟨hx, hb, hr, hml, hts, hown, hlocks, hK0⟩ := id C
  have hK := hK0.1
  intro n
  induction n with
  | zero =>
    intro k hk0 S ls H locs hP hD hS hl hV
    obtain rfl : k = 10 := by omega
    cases hV
    refine lv_iload_n hx hb dL_build_73 rfl (lv_at hl 0 rfl) ?_
    refine lv_bipush (v := 10) hx hb dL_build_74 (by decide) ?_
    refine lv_icmp_ge (tgt := 118) hx hb dL_build_76 (by decide) (fun _ => ?_) (fun h => absurd (Int32.le_refl _) h)
    exact kk ls H locs hP hD hS hl
  | succ n ih =>
    intro k hk0 S ls H locs hP hD hS hl hV
    have hlt : k < 10 := by omega
    refine lv_iload_n hx hb dL_build_73 rfl (lv_at hl 0 rfl) ?_
    refine lv_bipush (v := 10) hx hb dL_build_74 (by decide) ?_
    refine lv_icmp_ge (tgt := 118) hx hb dL_build_76 (by decide) (fun h => absurd ((zLe (a := 10) (b := k) (by omega) (by omega)).mp h) (by omega)) (fun _ => ?_)
    rw [bdB] at hV
    refine lv_aload_n hx hb dL_build_79 rfl (lv_at hl 3 rfl) ?_
    refine lv_aload_n hx hb dL_build_80 rfl (lv_at hl 2 rfl) ?_
    refine lv_bipush (v := 21) hx hb dL_build_81 (by decide) ?_
    refine lv_iload_n hx hb dL_build_83 rfl (lv_at hl 0 rfl) ?_
    refine lv_iadd hx hb dL_build_84 ?_
    refine W.eq (g2 := F0 m 85 ls [.int (nI (21 + k)), .ref b, .ref (B 9 0)]) (congrArg (fun z => F0 m 85 ls (Value.int z :: [.ref b, .ref (B 9 0)])) (zA 21 k)) ?_
    refine lv_iload_n hx hb dL_build_85 rfl (lv_at hl 1 rfl) ?_
    refine jSs C dL_build_86 (ks_some l D G b L xs hL (21 + k) np (by omega) (by omega) (by omega)) jy_L_some jq_8_4 jq_8_5 ⟨rfl, rfl, Nat.le_of_ble_eq_true rfl, Nat.le_of_ble_eq_true rfl⟩ ⟨by show (0 + 3 * k) ≤ 81; omega, by show (0 + 18 * k) ≤ 486; omega⟩ hX hbl hbA hS hl (As := [.ref b, .int (nI (21 + k)), .int (nI np)]) (rest := [.ref (B 9 0)]) rfl (Nat.le_of_ble_eq_true rfl) ?_
    refine W.eq (g2 := F0 m 89 ls [.int (nI (smV L xs (21 + k) np)), .ref (B 9 0)]) rfl ?_
    refine lv_aload_n hx hb dL_build_89 rfl (lv_at hl 2 rfl) ?_
    refine lv_bipush (v := 32) hx hb dL_build_90 (by decide) ?_
    refine lv_iload_n hx hb dL_build_92 rfl (lv_at hl 0 rfl) ?_
    refine lv_iadd hx hb dL_build_93 ?_
    refine W.eq (g2 := F0 m 94 ls [.int (nI (32 + k)), .ref b, .int (nI (smV L xs (21 + k) np)), .ref (B 9 0)]) (congrArg (fun z => F0 m 94 ls (Value.int z :: [.ref b, .int (nI (smV L xs (21 + k) np)), .ref (B 9 0)])) (zA 32 k)) ?_
    refine lv_iconst (v := 3) hx hb dL_build_94 (by decide) ?_
    refine jSs C dL_build_95 (ks_some l D G b L xs hL (32 + k) 3 (by omega) (by omega) (by omega)) jy_L_some jq_8_4 jq_8_5 ⟨rfl, rfl, Nat.le_of_ble_eq_true rfl, Nat.le_of_ble_eq_true rfl⟩ ⟨by show (0 + 3 * k) ≤ 81; omega, by show (0 + 18 * k) ≤ 486; omega⟩ hX hbl hbA hS hl (As := [.ref b, .int (nI (32 + k)), .int (nI 3)]) (rest := [.int (nI (smV L xs (21 + k) np)), .ref (B 9 0)]) rfl (Nat.le_of_ble_eq_true rfl) ?_
    refine W.eq (g2 := F0 m 98 ls [.int (nI (smV L xs (32 + k) 3)), .int (nI (smV L xs (21 + k) np)), .ref (B 9 0)]) rfl ?_
    refine lv_aload_n hx hb dL_build_98 rfl (lv_at hl 2 rfl) ?_
    refine lv_bipush (v := 43) hx hb dL_build_99 (by decide) ?_
    refine lv_iload_n hx hb dL_build_101 rfl (lv_at hl 0 rfl) ?_
    refine lv_iadd hx hb dL_build_102 ?_
    refine W.eq (g2 := F0 m 103 ls [.int (nI (43 + k)), .ref b, .int (nI (smV L xs (32 + k) 3)), .int (nI (smV L xs (21 + k) np)), .ref (B 9 0)]) (congrArg (fun z => F0 m 103 ls (Value.int z :: [.ref b, .int (nI (smV L xs (32 + k) 3)), .int (nI (smV L xs (21 + k) np)), .ref (B 9 0)])) (zA 43 k)) ?_
    refine lv_bipush (v := 12) hx hb dL_build_103 (by decide) ?_
    refine jSs C dL_build_105 (ks_some l D G b L xs hL (43 + k) 12 (by omega) (by omega) (by omega)) jy_L_some jq_8_4 jq_8_5 ⟨rfl, rfl, Nat.le_of_ble_eq_true rfl, Nat.le_of_ble_eq_true rfl⟩ ⟨by show (0 + 3 * k) ≤ 81; omega, by show (0 + 18 * k) ≤ 486; omega⟩ hX hbl hbA hS hl (As := [.ref b, .int (nI (43 + k)), .int (nI 12)]) (rest := [.int (nI (smV L xs (32 + k) 3)), .int (nI (smV L xs (21 + k) np)), .ref (B 9 0)]) rfl (Nat.le_of_ble_eq_true rfl) ?_
    refine W.eq (g2 := F0 m 108 ls [.int (nI (smV L xs (43 + k) 12)), .int (nI (smV L xs (32 + k) 3)), .int (nI (smV L xs (21 + k) np)), .ref (B 9 0)]) rfl ?_
    obtain ⟨r, hr1, hV⟩ := jBind hV
    obtain ⟨g1, hV⟩ := jIf hV
    obtain ⟨q, hk, hq⟩ := hpB_s g1
    refine jSh C dL_build_108 (kh_perform l hl0 D G B ks va N S (nI (smV L xs (21 + k) np)) (nI (smV L xs (32 + k) 3)) (nI (smV L xs (43 + k) 12)) r hr1 (hk.imp id Or.inr) q hq) hy_perform jq_12_7 jq_12_8 ⟨Nat.le_of_ble_eq_true rfl, Nat.le_of_ble_eq_true rfl⟩ ⟨by show (0 + 3 * k) + 3 ≤ 81; omega, by show (0 + 18 * k) + 18 ≤ 486; omega⟩ hZ hC hP hD hA hS hl (As := [.ref (B 9 0), .int (nI (smV L xs (21 + k) np)), .int (nI (smV L xs (32 + k) 3)), .int (nI (smV L xs (43 + k) 12))]) (rest := []) rfl (Nat.le_of_ble_eq_true rfl) (fun H1 locs hQ hz hkp hS => ?_)
    have hD : va_D A (wTS B G r.2.2) := jD (w := wTS B G S) (dTS _ _) hD
    clear hz hkp
    refine lv_pop hx hb dL_build_111 rfl ?_
    refine lv_iinc (v := nI (k + 1)) (lv' := [(3, .int (nI (k + 1))), (2, .int (nI np)), (1, .ref b), (0, .ref (B 9 0))]) hx hb dL_build_112 hl (k := 0) rfl (zA k 1) (by decide) rfl (fun ls hl => ?_)
    refine lv_goto (tgt := 73) hx hb dL_build_115 (by decide) ?_
    refine W.widen (k := (0 + 3 * (k + 1))) (n := (0 + 18 * (k + 1))) (by show (0 + 3 * k) + 3 ≤ _; omega) (by show (0 + 18 * k) + 18 ≤ _; omega) ?_
    exact ih (k + 1) (by omega) _ ls H1 locs hQ hD hS (lv_sub hl [0, 1, 2, 3] rfl) hV
set_option maxHeartbeats 4000000 in
set_option maxRecDepth 100000 in
theorem LB_C {p : Program} {l : Launch} {e : Env} {s : State} {m : MethodId} {args : Array Value} {below : List Frame} {meth : Method} {c : Code} {Q : State → Prop} {D : va_G} {G : Nat → ClassId} {A : Nat → Prop} {ks va : Nat → Nat} {b L : Nat} {xs : Nat → Int32} {B : Nat → Nat → Nat} (hL : L ≤ 260)
    (C : Cx p s m args meth c cL_build 5 RL none D G) (hl0 : l.stackTraces = false) (hZ : jZ ks va A s s.heap) (hC : jC s) (hA : ∀ q : Nat, s.heap.size ≤ q → A q) (hX : va_X b L xs s s.heap) (hbl : b < s.heap.size) (hbA : ¬ A b) (N : Nat) (np nf : Nat) (Sf : CS)
    (kk : ∀ (ls : Array Slot) (H : Heap) (locs : List Loc), va_P D vwCl (wTS B G Sf) H → va_D A (wTS B G Sf) → va_S A s.heap H locs → lv_has ls 5 [(4, .int (nI 4)), (3, .int (nI nf)), (2, .int (nI np)), (1, .ref b), (0, .ref (B 9 0))] → W p l e ({ frames := 11, cells := 81, slots := 486, locals := 280 } : Room) s m args below meth c H locs 30 180 Q (F0 m 157 ls [])) :
    ∀ (n k : Nat), n + k = 4 → ∀ (S : CS) (ls : Array Slot) (H : Heap) (locs : List Loc), va_P D vwCl (wTS B G S) H → va_D A (wTS B G S) → va_S A s.heap H locs → lv_has ls 5 [(4, .int (nI k)), (3, .int (nI nf)), (2, .int (nI np)), (1, .ref b), (0, .ref (B 9 0))] → bdC N L xs n k S = some Sf → W p l e ({ frames := 11, cells := 81, slots := 486, locals := 280 } : Room) s m args below meth c H locs 30 180 Q (F0 m 127 ls []) := by
  obtain ⟨hx, hb, hr, hml, hts, hown, hlocks, hK0⟩ := id C
  have hK := hK0.1
  intro n
  induction n with
  | zero =>
    intro k hk0 S ls H locs hP hD hS hl hV
    obtain rfl : k = 4 := by omega
    cases hV
    refine lv_iload hx hb dL_build_127 (lv_at hl 0 rfl) ?_
    refine lv_iconst (v := 4) hx hb dL_build_129 (by decide) ?_
    refine lv_icmp_ge (tgt := 157) hx hb dL_build_130 (by decide) (fun _ => ?_) (fun h => absurd (Int32.le_refl _) h)
    exact kk ls H locs hP hD hS hl
  | succ n ih =>
    intro k hk0 S ls H locs hP hD hS hl hV
    have hlt : k < 4 := by omega
    refine lv_iload hx hb dL_build_127 (lv_at hl 0 rfl) ?_
    refine lv_iconst (v := 4) hx hb dL_build_129 (by decide) ?_
    refine lv_icmp_ge (tgt := 157) hx hb dL_build_130 (by decide) (fun h => absurd ((zLe (a := 4) (b := k) (by omega) (by omega)).mp h) (by omega)) (fun _ => ?_)
    rw [bdC] at hV
    refine lv_aload_n hx hb dL_build_133 rfl (lv_at hl 4 rfl) ?_
    refine lv_iconst (v := 1) hx hb dL_build_134 (by decide) ?_
    refine lv_aload_n hx hb dL_build_135 rfl (lv_at hl 3 rfl) ?_
    refine lv_bipush (v := 54) hx hb dL_build_136 (by decide) ?_
    refine lv_iload hx hb dL_build_138 (lv_at hl 0 rfl) ?_
    refine lv_iadd hx hb dL_build_140 ?_
    refine W.eq (g2 := F0 m 141 ls [.int (nI (54 + k)), .ref b, .int 1, .ref (B 9 0)]) (congrArg (fun z => F0 m 141 ls (Value.int z :: [.ref b, .int 1, .ref (B 9 0)])) (zA 54 k)) ?_
    refine lv_bipush (v := 6) hx hb dL_build_141 (by decide) ?_
    refine jSs C dL_build_143 (ks_some l D G b L xs hL (54 + k) 6 (by omega) (by omega) (by omega)) jy_L_some jq_8_4 jq_8_5 ⟨rfl, rfl, Nat.le_of_ble_eq_true rfl, Nat.le_of_ble_eq_true rfl⟩ ⟨by show 30 ≤ 81; omega, by show 180 ≤ 486; omega⟩ hX hbl hbA hS hl (As := [.ref b, .int (nI (54 + k)), .int (nI 6)]) (rest := [.int 1, .ref (B 9 0)]) rfl (Nat.le_of_ble_eq_true rfl) ?_
    refine W.eq (g2 := F0 m 146 ls [.int (nI (smV L xs (54 + k) 6)), .int 1, .ref (B 9 0)]) rfl ?_
    refine lv_iadd hx hb dL_build_146 ?_
    refine W.eq (g2 := F0 m 147 ls [.int (nI (1 + (smV L xs (54 + k) 6))), .ref (B 9 0)]) (congrArg (fun z => F0 m 147 ls (Value.int z :: [.ref (B 9 0)])) (zA 1 (smV L xs (54 + k) 6))) ?_
    obtain ⟨r, hr1, hV⟩ := jBind hV
    refine jVmI C dL_build_147 (k_Y8_subscribe l D G B N S (nI (1 + (smV L xs (54 + k) 6))) r hr1) jy_X8_subscribe jq_15_0 jq_15_1 jq_15_2 ⟨rfl, rfl, Nat.le_of_ble_eq_true rfl, Nat.le_of_ble_eq_true rfl⟩ ⟨Nat.le_of_ble_eq_true rfl, Nat.le_of_ble_eq_true rfl⟩ hP hD hA hS (ci := 10) (iw := 0) rfl rfl rfl hl (As := [.int (nI (1 + (smV L xs (54 + k) 6)))]) (rest := []) rfl (Nat.le_of_ble_eq_true rfl) (fun H1 locs hQ hz hkp hS => ?_)
    have hD : va_D A (wTS B G r.2) := jD (w := wTS B G S) (dTS _ _) hD
    clear hz hkp
    refine lv_pop hx hb dL_build_150 rfl ?_
    refine lv_iinc (v := nI (k + 1)) (lv' := [(4, .int (nI (k + 1))), (3, .int (nI nf)), (2, .int (nI np)), (1, .ref b), (0, .ref (B 9 0))]) hx hb dL_build_151 hl (k := 0) rfl (zA k 1) (by decide) rfl (fun ls hl => ?_)
    refine lv_goto (tgt := 127) hx hb dL_build_154 (by decide) ?_
    exact ih (k + 1) (by omega) _ ls H1 locs hQ hD hS (lv_sub hl [0, 1, 2, 3, 4] rfl) hV
set_option maxHeartbeats 4000000 in
set_option maxRecDepth 100000 in
theorem LB_D {p : Program} {l : Launch} {e : Env} {s : State} {m : MethodId} {args : Array Value} {below : List Frame} {meth : Method} {c : Code} {Q : State → Prop} {D : va_G} {G : Nat → ClassId} {A : Nat → Prop} {ks va : Nat → Nat} {b L : Nat} {xs : Nat → Int32} {B : Nat → Nat → Nat} (hL : L ≤ 260)
    (C : Cx p s m args meth c cL_build 5 RL none D G) (hl0 : l.stackTraces = false) (hZ : jZ ks va A s s.heap) (hC : jC s) (hA : ∀ q : Nat, s.heap.size ≤ q → A q) (hX : va_X b L xs s s.heap) (hbl : b < s.heap.size) (hbA : ¬ A b) (N : Nat) (np nf : Nat) (hnf0 : 0 < nf) (hnf1 : nf < 1000) (Sf : CS)
    (kk : ∀ (ls : Array Slot) (H : Heap) (locs : List Loc), va_P D vwCl (wTS B G Sf) H → va_D A (wTS B G Sf) → va_S A s.heap H locs → lv_has ls 5 [(4, .int (nI 6)), (3, .int (nI nf)), (2, .int (nI np)), (1, .ref b), (0, .ref (B 9 0))] → W p l e ({ frames := 11, cells := 81, slots := 486, locals := 280 } : Room) s m args below meth c H locs (30 + 3 * 6) (180 + 18 * 6) Q (F0 m 203 ls [])) :
    ∀ (n k : Nat), n + k = 6 → ∀ (S : CS) (ls : Array Slot) (H : Heap) (locs : List Loc), va_P D vwCl (wTS B G S) H → va_D A (wTS B G S) → va_S A s.heap H locs → lv_has ls 5 [(4, .int (nI k)), (3, .int (nI nf)), (2, .int (nI np)), (1, .ref b), (0, .ref (B 9 0))] → bdD N L xs nf n k S = some Sf → W p l e ({ frames := 11, cells := 81, slots := 486, locals := 280 } : Room) s m args below meth c H locs (30 + 3 * k) (180 + 18 * k) Q (F0 m 165 ls []) := by
  obtain ⟨hx, hb, hr, hml, hts, hown, hlocks, hK0⟩ := id C
  have hK := hK0.1
  intro n
  induction n with
  | zero =>
    intro k hk0 S ls H locs hP hD hS hl hV
    obtain rfl : k = 6 := by omega
    cases hV
    refine lv_iload hx hb dL_build_165 (lv_at hl 0 rfl) ?_
    refine lv_bipush (v := 6) hx hb dL_build_167 (by decide) ?_
    refine lv_icmp_ge (tgt := 203) hx hb dL_build_169 (by decide) (fun _ => ?_) (fun h => absurd (Int32.le_refl _) h)
    exact kk ls H locs hP hD hS hl
  | succ n ih =>
    intro k hk0 S ls H locs hP hD hS hl hV
    have hlt : k < 6 := by omega
    refine lv_iload hx hb dL_build_165 (lv_at hl 0 rfl) ?_
    refine lv_bipush (v := 6) hx hb dL_build_167 (by decide) ?_
    refine lv_icmp_ge (tgt := 203) hx hb dL_build_169 (by decide) (fun h => absurd ((zLe (a := 6) (b := k) (by omega) (by omega)).mp h) (by omega)) (fun _ => ?_)
    rw [bdD] at hV
    refine lv_aload_n hx hb dL_build_172 rfl (lv_at hl 4 rfl) ?_
    refine lv_aload_n hx hb dL_build_173 rfl (lv_at hl 3 rfl) ?_
    refine lv_bipush (v := 59) hx hb dL_build_174 (by decide) ?_
    refine lv_iload hx hb dL_build_176 (lv_at hl 0 rfl) ?_
    refine lv_iadd hx hb dL_build_178 ?_
    refine W.eq (g2 := F0 m 179 ls [.int (nI (59 + k)), .ref b, .ref (B 9 0)]) (congrArg (fun z => F0 m 179 ls (Value.int z :: [.ref b, .ref (B 9 0)])) (zA 59 k)) ?_
    refine lv_iconst (v := 4) hx hb dL_build_179 (by decide) ?_
    refine jSs C dL_build_180 (ks_some l D G b L xs hL (59 + k) 4 (by omega) (by omega) (by omega)) jy_L_some jq_8_4 jq_8_5 ⟨rfl, rfl, Nat.le_of_ble_eq_true rfl, Nat.le_of_ble_eq_true rfl⟩ ⟨by show (30 + 3 * k) ≤ 81; omega, by show (180 + 18 * k) ≤ 486; omega⟩ hX hbl hbA hS hl (As := [.ref b, .int (nI (59 + k)), .int (nI 4)]) (rest := [.ref (B 9 0)]) rfl (Nat.le_of_ble_eq_true rfl) ?_
    refine W.eq (g2 := F0 m 183 ls [.int (nI (smV L xs (59 + k) 4)), .ref (B 9 0)]) rfl ?_
    refine lv_aload_n hx hb dL_build_183 rfl (lv_at hl 3 rfl) ?_
    refine lv_bipush (v := 66) hx hb dL_build_184 (by decide) ?_
    refine lv_iload hx hb dL_build_186 (lv_at hl 0 rfl) ?_
    refine lv_iadd hx hb dL_build_188 ?_
    refine W.eq (g2 := F0 m 189 ls [.int (nI (66 + k)), .ref b, .int (nI (smV L xs (59 + k) 4)), .ref (B 9 0)]) (congrArg (fun z => F0 m 189 ls (Value.int z :: [.ref b, .int (nI (smV L xs (59 + k) 4)), .ref (B 9 0)])) (zA 66 k)) ?_
    refine lv_iload_n hx hb dL_build_189 rfl (lv_at hl 1 rfl) ?_
    refine jSs C dL_build_190 (ks_some l D G b L xs hL (66 + k) nf (by omega) (by omega) (by omega)) jy_L_some jq_8_4 jq_8_5 ⟨rfl, rfl, Nat.le_of_ble_eq_true rfl, Nat.le_of_ble_eq_true rfl⟩ ⟨by show (30 + 3 * k) ≤ 81; omega, by show (180 + 18 * k) ≤ 486; omega⟩ hX hbl hbA hS hl (As := [.ref b, .int (nI (66 + k)), .int (nI nf)]) (rest := [.int (nI (smV L xs (59 + k) 4)), .ref (B 9 0)]) rfl (Nat.le_of_ble_eq_true rfl) ?_
    refine W.eq (g2 := F0 m 193 ls [.int (nI (smV L xs (66 + k) nf)), .int (nI (smV L xs (59 + k) 4)), .ref (B 9 0)]) rfl ?_
    obtain ⟨r, hr1, hV⟩ := jBind hV
    obtain ⟨g1, hV⟩ := jIf hV
    obtain ⟨q, hk, hq⟩ := hpB_s g1
    refine jSh C dL_build_193 (kh_hold l hl0 D G B ks va N S (nI (smV L xs (59 + k) 4)) (nI (smV L xs (66 + k) nf)) r hr1 hk q hq) hy_hold jq_15_13 jq_15_14 ⟨Nat.le_of_ble_eq_true rfl, Nat.le_of_ble_eq_true rfl⟩ ⟨by show (30 + 3 * k) + 3 ≤ 81; omega, by show (180 + 18 * k) + 18 ≤ 486; omega⟩ hZ hC hP hD hA hS hl (As := [.ref (B 9 0), .int (nI (smV L xs (59 + k) 4)), .int (nI (smV L xs (66 + k) nf))]) (rest := []) rfl (Nat.le_of_ble_eq_true rfl) (fun H1 locs hQ hz hkp hS => ?_)
    have hD : va_D A (wTS B G r.2.2) := jD (w := wTS B G S) (dTS _ _) hD
    clear hz hkp
    refine lv_pop hx hb dL_build_196 rfl ?_
    refine lv_iinc (v := nI (k + 1)) (lv' := [(4, .int (nI (k + 1))), (3, .int (nI nf)), (2, .int (nI np)), (1, .ref b), (0, .ref (B 9 0))]) hx hb dL_build_197 hl (k := 0) rfl (zA k 1) (by decide) rfl (fun ls hl => ?_)
    refine lv_goto (tgt := 165) hx hb dL_build_200 (by decide) ?_
    refine W.widen (k := (30 + 3 * (k + 1))) (n := (180 + 18 * (k + 1))) (by show (30 + 3 * k) + 3 ≤ _; omega) (by show (180 + 18 * k) + 18 ≤ _; omega) ?_
    exact ih (k + 1) (by omega) _ ls H1 locs hQ hD hS (lv_sub hl [0, 1, 2, 3, 4] rfl) hV
set_option maxHeartbeats 4000000 in
set_option maxRecDepth 100000 in
theorem LB_E {p : Program} {l : Launch} {e : Env} {s : State} {m : MethodId} {args : Array Value} {below : List Frame} {meth : Method} {c : Code} {Q : State → Prop} {D : va_G} {G : Nat → ClassId} {A : Nat → Prop} {ks va : Nat → Nat} {b L : Nat} {xs : Nat → Int32} {B : Nat → Nat → Nat} (hL : L ≤ 260)
    (C : Cx p s m args meth c cL_build 5 RL none D G) (hl0 : l.stackTraces = false) (hZ : jZ ks va A s s.heap) (hC : jC s) (hA : ∀ q : Nat, s.heap.size ≤ q → A q) (hX : va_X b L xs s s.heap) (hbl : b < s.heap.size) (hbA : ¬ A b) (N : Nat) (np nf : Nat) (hnf0 : 0 < nf) (hnf1 : nf < 1000) (Sf : CS)
    (kk : ∀ (ls : Array Slot) (H : Heap) (locs : List Loc), va_P D vwCl (wTS B G Sf) H → va_D A (wTS B G Sf) → va_S A s.heap H locs → lv_has ls 5 [(4, .int (nI 6)), (3, .int (nI nf)), (2, .int (nI np)), (1, .ref b), (0, .ref (B 9 0))] → W p l e ({ frames := 11, cells := 81, slots := 486, locals := 280 } : Room) s m args below meth c H locs (48 + 3 * 6) (288 + 18 * 6) Q (F0 m 247 ls [])) :
    ∀ (n k : Nat), n + k = 6 → ∀ (S : CS) (ls : Array Slot) (H : Heap) (locs : List Loc), va_P D vwCl (wTS B G S) H → va_D A (wTS B G S) → va_S A s.heap H locs → lv_has ls 5 [(4, .int (nI k)), (3, .int (nI nf)), (2, .int (nI np)), (1, .ref b), (0, .ref (B 9 0))] → bdE N L xs nf n k S = some Sf → W p l e ({ frames := 11, cells := 81, slots := 486, locals := 280 } : Room) s m args below meth c H locs (48 + 3 * k) (288 + 18 * k) Q (F0 m 206 ls []) := by
  obtain ⟨hx, hb, hr, hml, hts, hown, hlocks, hK0⟩ := id C
  have hK := hK0.1
  intro n
  induction n with
  | zero =>
    intro k hk0 S ls H locs hP hD hS hl hV
    obtain rfl : k = 6 := by omega
    cases hV
    refine lv_iload hx hb dL_build_206 (lv_at hl 0 rfl) ?_
    refine lv_bipush (v := 6) hx hb dL_build_208 (by decide) ?_
    refine lv_icmp_ge (tgt := 247) hx hb dL_build_210 (by decide) (fun _ => ?_) (fun h => absurd (Int32.le_refl _) h)
    exact kk ls H locs hP hD hS hl
  | succ n ih =>
    intro k hk0 S ls H locs hP hD hS hl hV
    have hlt : k < 6 := by omega
    refine lv_iload hx hb dL_build_206 (lv_at hl 0 rfl) ?_
    refine lv_bipush (v := 6) hx hb dL_build_208 (by decide) ?_
    refine lv_icmp_ge (tgt := 247) hx hb dL_build_210 (by decide) (fun h => absurd ((zLe (a := 6) (b := k) (by omega) (by omega)).mp h) (by omega)) (fun _ => ?_)
    rw [bdE] at hV
    refine lv_aload_n hx hb dL_build_213 rfl (lv_at hl 4 rfl) ?_
    refine lv_aload_n hx hb dL_build_214 rfl (lv_at hl 3 rfl) ?_
    refine lv_bipush (v := 73) hx hb dL_build_215 (by decide) ?_
    refine lv_iload hx hb dL_build_217 (lv_at hl 0 rfl) ?_
    refine lv_iadd hx hb dL_build_219 ?_
    refine W.eq (g2 := F0 m 220 ls [.int (nI (73 + k)), .ref b, .ref (B 9 0)]) (congrArg (fun z => F0 m 220 ls (Value.int z :: [.ref b, .ref (B 9 0)])) (zA 73 k)) ?_
    refine lv_iload_n hx hb dL_build_220 rfl (lv_at hl 1 rfl) ?_
    refine jSs C dL_build_221 (ks_some l D G b L xs hL (73 + k) nf (by omega) (by omega) (by omega)) jy_L_some jq_8_4 jq_8_5 ⟨rfl, rfl, Nat.le_of_ble_eq_true rfl, Nat.le_of_ble_eq_true rfl⟩ ⟨by show (48 + 3 * k) ≤ 81; omega, by show (288 + 18 * k) ≤ 486; omega⟩ hX hbl hbA hS hl (As := [.ref b, .int (nI (73 + k)), .int (nI nf)]) (rest := [.ref (B 9 0)]) rfl (Nat.le_of_ble_eq_true rfl) ?_
    refine W.eq (g2 := F0 m 224 ls [.int (nI (smV L xs (73 + k) nf)), .ref (B 9 0)]) rfl ?_
    refine lv_iconst (v := 1) hx hb dL_build_224 (by decide) ?_
    refine lv_aload_n hx hb dL_build_225 rfl (lv_at hl 3 rfl) ?_
    refine lv_bipush (v := 80) hx hb dL_build_226 (by decide) ?_
    refine lv_iload hx hb dL_build_228 (lv_at hl 0 rfl) ?_
    refine lv_iadd hx hb dL_build_230 ?_
    refine W.eq (g2 := F0 m 231 ls [.int (nI (80 + k)), .ref b, .int 1, .int (nI (smV L xs (73 + k) nf)), .ref (B 9 0)]) (congrArg (fun z => F0 m 231 ls (Value.int z :: [.ref b, .int 1, .int (nI (smV L xs (73 + k) nf)), .ref (B 9 0)])) (zA 80 k)) ?_
    refine lv_bipush (v := 60) hx hb dL_build_231 (by decide) ?_
    refine jSs C dL_build_233 (ks_some l D G b L xs hL (80 + k) 60 (by omega) (by omega) (by omega)) jy_L_some jq_8_4 jq_8_5 ⟨rfl, rfl, Nat.le_of_ble_eq_true rfl, Nat.le_of_ble_eq_true rfl⟩ ⟨by show (48 + 3 * k) ≤ 81; omega, by show (288 + 18 * k) ≤ 486; omega⟩ hX hbl hbA hS hl (As := [.ref b, .int (nI (80 + k)), .int (nI 60)]) (rest := [.int 1, .int (nI (smV L xs (73 + k) nf)), .ref (B 9 0)]) rfl (Nat.le_of_ble_eq_true rfl) ?_
    refine W.eq (g2 := F0 m 236 ls [.int (nI (smV L xs (80 + k) 60)), .int 1, .int (nI (smV L xs (73 + k) nf)), .ref (B 9 0)]) rfl ?_
    refine lv_iadd hx hb dL_build_236 ?_
    refine W.eq (g2 := F0 m 237 ls [.int (nI (1 + (smV L xs (80 + k) 60))), .int (nI (smV L xs (73 + k) nf)), .ref (B 9 0)]) (congrArg (fun z => F0 m 237 ls (Value.int z :: [.int (nI (smV L xs (73 + k) nf)), .ref (B 9 0)])) (zA 1 (smV L xs (80 + k) 60))) ?_
    obtain ⟨r, hr1, hV⟩ := jBind hV
    obtain ⟨g1, hV⟩ := jIf hV
    obtain ⟨q, hk, hq⟩ := hpB_s g1
    refine jSh C dL_build_237 (kh_sell l hl0 D G B ks va N S (nI (smV L xs (73 + k) nf)) (nI (1 + (smV L xs (80 + k) 60))) r hr1 hk q hq) hy_sell jq_17_6 jq_17_7 ⟨Nat.le_of_ble_eq_true rfl, Nat.le_of_ble_eq_true rfl⟩ ⟨by show (48 + 3 * k) + 3 ≤ 81; omega, by show (288 + 18 * k) + 18 ≤ 486; omega⟩ hZ hC hP hD hA hS hl (As := [.ref (B 9 0), .int (nI (smV L xs (73 + k) nf)), .int (nI (1 + (smV L xs (80 + k) 60)))]) (rest := []) rfl (Nat.le_of_ble_eq_true rfl) (fun H1 locs hQ hz hkp hS => ?_)
    have hD : va_D A (wTS B G r.2.2) := jD (w := wTS B G S) (dTS _ _) hD
    clear hz hkp
    refine lv_pop hx hb dL_build_240 rfl ?_
    refine lv_iinc (v := nI (k + 1)) (lv' := [(4, .int (nI (k + 1))), (3, .int (nI nf)), (2, .int (nI np)), (1, .ref b), (0, .ref (B 9 0))]) hx hb dL_build_241 hl (k := 0) rfl (zA k 1) (by decide) rfl (fun ls hl => ?_)
    refine lv_goto (tgt := 206) hx hb dL_build_244 (by decide) ?_
    refine W.widen (k := (48 + 3 * (k + 1))) (n := (288 + 18 * (k + 1))) (by show (48 + 3 * k) + 3 ≤ _; omega) (by show (288 + 18 * k) + 18 ≤ _; omega) ?_
    exact ih (k + 1) (by omega) _ ls H1 locs hQ hD hS (lv_sub hl [0, 1, 2, 3, 4] rfl) hV
set_option maxHeartbeats 4000000 in
set_option maxRecDepth 100000 in
theorem LB_F {p : Program} {l : Launch} {e : Env} {s : State} {m : MethodId} {args : Array Value} {below : List Frame} {meth : Method} {c : Code} {Q : State → Prop} {D : va_G} {G : Nat → ClassId} {A : Nat → Prop} {ks va : Nat → Nat} {b L : Nat} {xs : Nat → Int32} {B : Nat → Nat → Nat} (hL : L ≤ 260)
    (C : Cx p s m args meth c cL_build 5 RL none D G) (hl0 : l.stackTraces = false) (hZ : jZ ks va A s s.heap) (hC : jC s) (hA : ∀ q : Nat, s.heap.size ≤ q → A q) (hX : va_X b L xs s s.heap) (hbl : b < s.heap.size) (hbA : ¬ A b) (N : Nat) (np nf : Nat) (hnf0 : 0 < nf) (hnf1 : nf < 1000) (Sf : CS)
    (kk : ∀ (ls : Array Slot) (H : Heap) (locs : List Loc), va_P D vwCl (wTS B G Sf) H → va_D A (wTS B G Sf) → va_S A s.heap H locs → lv_has ls 5 [(4, .int (nI 5)), (3, .int (nI nf)), (2, .int (nI np)), (1, .ref b), (0, .ref (B 9 0))] → W p l e ({ frames := 11, cells := 81, slots := 486, locals := 280 } : Room) s m args below meth c H locs (66 + 3 * 5) (396 + 18 * 5) Q (F0 m 300 ls [])) :
    ∀ (n k : Nat), n + k = 5 → ∀ (S : CS) (ls : Array Slot) (H : Heap) (locs : List Loc), va_P D vwCl (wTS B G S) H → va_D A (wTS B G S) → va_S A s.heap H locs → lv_has ls 5 [(4, .int (nI k)), (3, .int (nI nf)), (2, .int (nI np)), (1, .ref b), (0, .ref (B 9 0))] → bdF N L xs nf n k S = some Sf → W p l e ({ frames := 11, cells := 81, slots := 486, locals := 280 } : Room) s m args below meth c H locs (66 + 3 * k) (396 + 18 * k) Q (F0 m 250 ls []) := by
  obtain ⟨hx, hb, hr, hml, hts, hown, hlocks, hK0⟩ := id C
  have hK := hK0.1
  intro n
  induction n with
  | zero =>
    intro k hk0 S ls H locs hP hD hS hl hV
    obtain rfl : k = 5 := by omega
    cases hV
    refine lv_iload hx hb dL_build_250 (lv_at hl 0 rfl) ?_
    refine lv_iconst (v := 5) hx hb dL_build_252 (by decide) ?_
    refine lv_icmp_ge (tgt := 300) hx hb dL_build_253 (by decide) (fun _ => ?_) (fun h => absurd (Int32.le_refl _) h)
    exact kk ls H locs hP hD hS hl
  | succ n ih =>
    intro k hk0 S ls H locs hP hD hS hl hV
    have hlt : k < 5 := by omega
    refine lv_iload hx hb dL_build_250 (lv_at hl 0 rfl) ?_
    refine lv_iconst (v := 5) hx hb dL_build_252 (by decide) ?_
    refine lv_icmp_ge (tgt := 300) hx hb dL_build_253 (by decide) (fun h => absurd ((zLe (a := 5) (b := k) (by omega) (by omega)).mp h) (by omega)) (fun _ => ?_)
    rw [bdF] at hV
    refine lv_aload_n hx hb dL_build_256 rfl (lv_at hl 4 rfl) ?_
    refine lv_aload_n hx hb dL_build_257 rfl (lv_at hl 3 rfl) ?_
    refine lv_bipush (v := 87) hx hb dL_build_258 (by decide) ?_
    refine lv_iload hx hb dL_build_260 (lv_at hl 0 rfl) ?_
    refine lv_iadd hx hb dL_build_262 ?_
    refine W.eq (g2 := F0 m 263 ls [.int (nI (87 + k)), .ref b, .ref (B 9 0)]) (congrArg (fun z => F0 m 263 ls (Value.int z :: [.ref b, .ref (B 9 0)])) (zA 87 k)) ?_
    refine lv_iload_n hx hb dL_build_263 rfl (lv_at hl 1 rfl) ?_
    refine jSs C dL_build_264 (ks_some l D G b L xs hL (87 + k) nf (by omega) (by omega) (by omega)) jy_L_some jq_8_4 jq_8_5 ⟨rfl, rfl, Nat.le_of_ble_eq_true rfl, Nat.le_of_ble_eq_true rfl⟩ ⟨by show (66 + 3 * k) ≤ 81; omega, by show (396 + 18 * k) ≤ 486; omega⟩ hX hbl hbA hS hl (As := [.ref b, .int (nI (87 + k)), .int (nI nf)]) (rest := [.ref (B 9 0)]) rfl (Nat.le_of_ble_eq_true rfl) ?_
    refine W.eq (g2 := F0 m 267 ls [.int (nI (smV L xs (87 + k) nf)), .ref (B 9 0)]) rfl ?_
    refine lv_iconst (v := 1) hx hb dL_build_267 (by decide) ?_
    refine lv_aload_n hx hb dL_build_268 rfl (lv_at hl 3 rfl) ?_
    refine lv_bipush (v := 93) hx hb dL_build_269 (by decide) ?_
    refine lv_iload hx hb dL_build_271 (lv_at hl 0 rfl) ?_
    refine lv_iadd hx hb dL_build_273 ?_
    refine W.eq (g2 := F0 m 274 ls [.int (nI (93 + k)), .ref b, .int 1, .int (nI (smV L xs (87 + k) nf)), .ref (B 9 0)]) (congrArg (fun z => F0 m 274 ls (Value.int z :: [.ref b, .int 1, .int (nI (smV L xs (87 + k) nf)), .ref (B 9 0)])) (zA 93 k)) ?_
    refine lv_bipush (v := 30) hx hb dL_build_274 (by decide) ?_
    refine jSs C dL_build_276 (ks_some l D G b L xs hL (93 + k) 30 (by omega) (by omega) (by omega)) jy_L_some jq_8_4 jq_8_5 ⟨rfl, rfl, Nat.le_of_ble_eq_true rfl, Nat.le_of_ble_eq_true rfl⟩ ⟨by show (66 + 3 * k) ≤ 81; omega, by show (396 + 18 * k) ≤ 486; omega⟩ hX hbl hbA hS hl (As := [.ref b, .int (nI (93 + k)), .int (nI 30)]) (rest := [.int 1, .int (nI (smV L xs (87 + k) nf)), .ref (B 9 0)]) rfl (Nat.le_of_ble_eq_true rfl) ?_
    refine W.eq (g2 := F0 m 279 ls [.int (nI (smV L xs (93 + k) 30)), .int 1, .int (nI (smV L xs (87 + k) nf)), .ref (B 9 0)]) rfl ?_
    refine lv_iadd hx hb dL_build_279 ?_
    refine W.eq (g2 := F0 m 280 ls [.int (nI (1 + (smV L xs (93 + k) 30))), .int (nI (smV L xs (87 + k) nf)), .ref (B 9 0)]) (congrArg (fun z => F0 m 280 ls (Value.int z :: [.int (nI (smV L xs (87 + k) nf)), .ref (B 9 0)])) (zA 1 (smV L xs (93 + k) 30))) ?_
    refine lv_aload_n hx hb dL_build_280 rfl (lv_at hl 3 rfl) ?_
    refine lv_bipush (v := 99) hx hb dL_build_281 (by decide) ?_
    refine lv_iload hx hb dL_build_283 (lv_at hl 0 rfl) ?_
    refine lv_iadd hx hb dL_build_285 ?_
    refine W.eq (g2 := F0 m 286 ls [.int (nI (99 + k)), .ref b, .int (nI (1 + (smV L xs (93 + k) 30))), .int (nI (smV L xs (87 + k) nf)), .ref (B 9 0)]) (congrArg (fun z => F0 m 286 ls (Value.int z :: [.ref b, .int (nI (1 + (smV L xs (93 + k) 30))), .int (nI (smV L xs (87 + k) nf)), .ref (B 9 0)])) (zA 99 k)) ?_
    refine lv_iconst (v := 4) hx hb dL_build_286 (by decide) ?_
    refine jSs C dL_build_287 (ks_some l D G b L xs hL (99 + k) 4 (by omega) (by omega) (by omega)) jy_L_some jq_8_4 jq_8_5 ⟨rfl, rfl, Nat.le_of_ble_eq_true rfl, Nat.le_of_ble_eq_true rfl⟩ ⟨by show (66 + 3 * k) ≤ 81; omega, by show (396 + 18 * k) ≤ 486; omega⟩ hX hbl hbA hS hl (As := [.ref b, .int (nI (99 + k)), .int (nI 4)]) (rest := [.int (nI (1 + (smV L xs (93 + k) 30))), .int (nI (smV L xs (87 + k) nf)), .ref (B 9 0)]) rfl (Nat.le_of_ble_eq_true rfl) ?_
    refine W.eq (g2 := F0 m 290 ls [.int (nI (smV L xs (99 + k) 4)), .int (nI (1 + (smV L xs (93 + k) 30))), .int (nI (smV L xs (87 + k) nf)), .ref (B 9 0)]) rfl ?_
    obtain ⟨r, hr1, hV⟩ := jBind hV
    obtain ⟨g1, hV⟩ := jIf hV
    obtain ⟨q, hk, hq⟩ := hpB_s g1
    refine jSh C dL_build_290 (kh_request l hl0 D G B ks va N S (nI (smV L xs (87 + k) nf)) (nI (1 + (smV L xs (93 + k) 30))) (nI (smV L xs (99 + k) 4)) r hr1 hk q hq) hy_request jq_17_18 jq_17_19 ⟨Nat.le_of_ble_eq_true rfl, Nat.le_of_ble_eq_true rfl⟩ ⟨by show (66 + 3 * k) + 3 ≤ 81; omega, by show (396 + 18 * k) + 18 ≤ 486; omega⟩ hZ hC hP hD hA hS hl (As := [.ref (B 9 0), .int (nI (smV L xs (87 + k) nf)), .int (nI (1 + (smV L xs (93 + k) 30))), .int (nI (smV L xs (99 + k) 4))]) (rest := []) rfl (Nat.le_of_ble_eq_true rfl) (fun H1 locs hQ hz hkp hS => ?_)
    have hD : va_D A (wTS B G r.2.2) := jD (w := wTS B G S) (dTS _ _) hD
    clear hz hkp
    refine lv_pop hx hb dL_build_293 rfl ?_
    refine lv_iinc (v := nI (k + 1)) (lv' := [(4, .int (nI (k + 1))), (3, .int (nI nf)), (2, .int (nI np)), (1, .ref b), (0, .ref (B 9 0))]) hx hb dL_build_294 hl (k := 0) rfl (zA k 1) (by decide) rfl (fun ls hl => ?_)
    refine lv_goto (tgt := 250) hx hb dL_build_297 (by decide) ?_
    refine W.widen (k := (66 + 3 * (k + 1))) (n := (396 + 18 * (k + 1))) (by show (66 + 3 * k) + 3 ≤ _; omega) (by show (396 + 18 * k) + 18 ≤ _; omega) ?_
    exact ih (k + 1) (by omega) _ ls H1 locs hQ hD hS (lv_sub hl [0, 1, 2, 3, 4] rfl) hV
theorem jy_L_build : jY yL_build cL_build 5 none 2 := ⟨by decide +kernel, jq_8_3, jq_8_2⟩
set_option maxHeartbeats 4000000 in
set_option maxRecDepth 100000 in
theorem kb_build (l : Launch) (hl0 : l.stackTraces = false) (D : va_G) (G : Nat → ClassId) (B : Nat → Nat → Nat) (ks va : Nat → Nat) (b L : Nat) (xs : Nat → Int32) (hL : L ≤ 260) (N nf : Nat) (S0 S1 S2 S3 Sf : CS)
    (h1 : bdA N L xs (2 + smV L xs 0 3) 0 S0 = some S1) (h2 : bdB N L xs (2 + smV L xs 0 3) 10 0 S1 = some S2) (hnf : F_Y8_account N S2 1 = some (nI nf)) (hnf1 : nf < 1000) (h3 : bdC N L xs 4 0 S2 = some S3)
    (h4 : (nf = 0 ∧ S3 = Sf) ∨ (0 < nf ∧ ∃ S4 S5, bdD N L xs nf 6 0 S3 = some S4 ∧ bdE N L xs nf 6 0 S4 = some S5 ∧ bdF N L xs nf 5 0 S5 = some Sf)) :
    bM l yL_build (jws yL_build cL_build 5 none) ({ frames := 11, cells := 81, slots := 486, locals := 280 } : Room) [.ref (B 9 0), .ref b] D G ks va b L xs (wTS B G S0) (wTS B G Sf) := by
  refine bM_of (by decide +kernel) (Nat.le_of_ble_eq_true rfl) (fun p e s m args below meth c ls A C hP hD hA hZ hC hX hbl hbA hl => ?_)
  have C : Cx p s m args meth c cL_build 5 RL none D G := C
  obtain ⟨hx, hb, hr, hml, hts, hown, hlocks, hK0⟩ := id C
  have hK := hK0.1
  have hS : va_S A s.heap s.heap [] := va_S.rf
  have hl : lv_has ls 5 [(0, .ref (B 9 0)), (1, .ref b)] := hl
  have hsm : smV L xs 0 3 < 3 := sm_lt (by omega)
  refine lv_iconst (v := 2) hx hb dL_build_0 (by decide) ?_
  refine lv_aload_n hx hb dL_build_1 rfl (lv_at hl 1 rfl) ?_
  refine lv_iconst (v := 0) hx hb dL_build_2 (by decide) ?_
  refine lv_iconst (v := 3) hx hb dL_build_3 (by decide) ?_
  refine jSs C dL_build_4 (ks_some l D G b L xs hL 0 3 (by omega) (by omega) (by omega)) jy_L_some jq_8_4 jq_8_5 ⟨rfl, rfl, Nat.le_of_ble_eq_true rfl, Nat.le_of_ble_eq_true rfl⟩ ⟨by show 0 ≤ 81; omega, by show 0 ≤ 486; omega⟩ hX hbl hbA hS hl (As := [.ref b, .int (nI 0), .int (nI 3)]) (rest := [.int 2]) rfl (Nat.le_of_ble_eq_true rfl) ?_
  refine W.eq (g2 := F0 m 7 ls [.int (nI (smV L xs 0 3)), .int 2]) rfl ?_
  refine lv_iadd hx hb dL_build_7 ?_
  refine W.eq (g2 := F0 m 8 ls [.int (nI (2 + (smV L xs 0 3)))]) (congrArg (fun z => F0 m 8 ls (Value.int z :: [])) (zA 2 (smV L xs 0 3))) ?_
  refine lv_istore_n (lv' := [(2, .int (nI (2 + (smV L xs 0 3)))), (0, .ref (B 9 0)), (1, .ref b)]) hx hb dL_build_8 rfl hl (by decide) rfl (fun ls hl => ?_)
  refine lv_iconst (v := 0) hx hb dL_build_9 (by decide) ?_
  refine lv_istore_n (lv' := [(3, .int 0), (2, .int (nI (2 + (smV L xs 0 3)))), (0, .ref (B 9 0)), (1, .ref b)]) hx hb dL_build_10 rfl hl (by decide) rfl (fun ls hl => ?_)
  generalize hnp : 2 + smV L xs 0 3 = np at h1 h2 hl
  have hnp4 : np ≤ 4 := by omega
  have hnp0 : 0 < np := by omega
  refine LB_A hL C hl0 hZ hC hA hX hbl hbA N np nf hnp4 S1 (fun ls H locs hP hD hS hl => ?_) np 0 rfl S0 ls s.heap [] hP hD hS (lv_sub hl [0, 1, 3, 2] rfl) h1
  refine lv_iconst (v := 0) hx hb dL_build_71 (by decide) ?_
  refine lv_istore_n (lv' := [(3, .int 0), (2, .int (nI np)), (1, .ref b), (0, .ref (B 9 0))]) hx hb dL_build_72 rfl hl (by decide) rfl (fun ls hl => ?_)
  refine LB_B hL C hl0 hZ hC hA hX hbl hbA N np nf hnp0 hnp4 S2 (fun ls H locs hP hD hS hl => ?_) 10 0 rfl S1 ls H locs hP hD hS hl h2
  refine lv_aload_n hx hb dL_build_118 rfl (lv_at hl 3 rfl) ?_
  refine lv_iconst (v := 1) hx hb dL_build_119 (by decide) ?_
  refine jVpI C dL_build_120 (k_Y8_account l D G B N S2 1 (nI nf) hnf) jy_X8_account jq_5_22 jq_5_23 jq_6_0 ⟨rfl, rfl, Nat.le_of_ble_eq_true rfl, Nat.le_of_ble_eq_true rfl⟩ ⟨Nat.le_of_ble_eq_true rfl, Nat.le_of_ble_eq_true rfl⟩ hP (ci := 10) (iw := 0) rfl rfl rfl hl (As := [.int 1]) (rest := []) rfl (Nat.le_of_ble_eq_true rfl) ?_
  refine lv_istore_n (lv' := [(3, .int (nI nf)), (2, .int (nI np)), (1, .ref b), (0, .ref (B 9 0))]) hx hb dL_build_123 rfl hl (by decide) rfl (fun ls hl => ?_)
  refine lv_iconst (v := 0) hx hb dL_build_124 (by decide) ?_
  refine lv_istore (lv' := [(4, .int 0), (3, .int (nI nf)), (2, .int (nI np)), (1, .ref b), (0, .ref (B 9 0))]) hx hb dL_build_125 hl (by decide) rfl (fun ls hl => ?_)
  refine LB_C hL C hl0 hZ hC hA hX hbl hbA N np nf S3 (fun ls H locs hP hD hS hl => ?_) 4 0 rfl S2 ls H locs hP hD hS (lv_sub hl [0, 1, 2, 3, 4] rfl) h3
  refine lv_iload_n hx hb dL_build_157 rfl (lv_at hl 1 rfl) ?_
  refine lv_if_ne (tgt := 162) hx hb dL_build_158 (by decide) (fun hne => ?_) (fun heq => ?_)
  · rcases h4 with ⟨h0, _⟩ | ⟨hnf0, S4, S5, h4, h5, h6⟩
    · exact absurd (congrArg nI h0) hne
    · refine lv_iconst (v := 0) hx hb dL_build_162 (by decide) ?_
      refine lv_istore (lv' := [(4, .int 0), (3, .int (nI nf)), (2, .int (nI np)), (1, .ref b), (0, .ref (B 9 0))]) hx hb dL_build_163 hl (by decide) rfl (fun ls hl => ?_)
      refine LB_D hL C hl0 hZ hC hA hX hbl hbA N np nf hnf0 hnf1 S4 (fun ls H locs hP hD hS hl => ?_) 6 0 rfl S3 ls H locs hP hD hS hl h4
      refine lv_iconst (v := 0) hx hb dL_build_203 (by decide) ?_
      refine lv_istore (lv' := [(4, .int 0), (3, .int (nI nf)), (2, .int (nI np)), (1, .ref b), (0, .ref (B 9 0))]) hx hb dL_build_204 hl (by decide) rfl (fun ls hl => ?_)
      refine LB_E hL C hl0 hZ hC hA hX hbl hbA N np nf hnf0 hnf1 S5 (fun ls H locs hP hD hS hl => ?_) 6 0 rfl S4 ls H locs hP hD hS hl h5
      refine lv_iconst (v := 0) hx hb dL_build_247 (by decide) ?_
      refine lv_istore (lv' := [(4, .int 0), (3, .int (nI nf)), (2, .int (nI np)), (1, .ref b), (0, .ref (B 9 0))]) hx hb dL_build_248 hl (by decide) rfl (fun ls hl => ?_)
      refine LB_F hL C hl0 hZ hC hA hX hbl hbA N np nf hnf0 hnf1 Sf (fun ls H locs hP hD hS hl => ?_) 5 0 rfl S5 ls H locs hP hD hS hl h6
      exact bRetV C dL_build_300 (by decide) (by decide) hP hS
  · rcases h4 with ⟨_, rfl⟩ | ⟨hnf0, _⟩
    · exact bRetV C dL_build_161 (by decide) (by decide) hP hS
    · exact absurd ((zE (a := nf) (b := 0) (by omega) (by omega)).mp heq) (by omega)
