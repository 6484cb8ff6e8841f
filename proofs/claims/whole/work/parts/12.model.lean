theorem jy_X9_move : jY yX9_move cX9_move 3 (some .int) 2 := ⟨by decide +kernel, jq_26_19, jq_1_5⟩
def F_X9_move (N : Nat)  (M : Nat → Nat → Int32) (v1 v2 : Int32) : Option (Int32 × (Nat → Nat → Int32)) := ((F_X9_begins N M ).bind (fun r1 => ((F_X9_moves N r1 v1 v2).bind (fun r2 => ((F_X9_ends N r2.2 r2.1 (2 : Int32) (0 : Int32) (3 : Int32)).bind (fun r3 => (some (r3.1, r3.2))))))))
set_option maxHeartbeats 4000000 in
set_option maxRecDepth 100000 in
theorem k_X9_move (l : Launch) (D : va_G) (G : Nat → ClassId) (a : Nat → Nat) (N : Nat) (M : Nat → Nat → Int32) (v1 v2 : Int32) (r : (Int32 × (Nat → Nat → Int32))) (hV : F_X9_move N  M v1 v2 = some r) : mM l yX9_move (jws yX9_move cX9_move 3 (some .int)) ({ frames := 6, cells := 0, slots := 0, locals := 135 } : Room) [.ref (a 0), .int v1, .int v2] D G (wM a G M) (wM a G r.2) (some (.int r.1)) := by
  refine mM_of (by decide +kernel) (Nat.le_of_ble_eq_true rfl) (fun p e s m args below meth c ls A C hP hD hA hl => ?_)
  have C : Cx p s m args meth c cX9_move 3 RX9 (some .int) D G := C
  have hS : va_S A s.heap s.heap [] := va_S.rf
  obtain ⟨hx, hb, hr, hml, hts, hown, hlocks, hK0⟩ := id C
  have hK := hK0.1
  have hl : lv_has ls 3 [(0, .ref (a 0)), (1, .int v1), (2, .int v2)] := hl
  rw [F_X9_move] at hV
  refine lv_aload_n hx hb dX9_move_0 rfl (lv_at hl 0 rfl) ?_
  obtain ⟨r1, hr1, hV⟩ := jBind hV
  refine jVmV C dX9_move_1 (k_X9_begins l D G a N M  r1 hr1) jy_X9_begins jq_12_9 jq_12_10 jq_12_11 ⟨rfl, rfl, Nat.le_of_ble_eq_true rfl, Nat.le_of_ble_eq_true rfl⟩ ⟨Nat.le_of_ble_eq_true rfl, Nat.le_of_ble_eq_true rfl⟩ hP hD hA hS (ci := 11) (iw := 0) rfl rfl rfl hl (rest := []) rfl (Nat.le_of_ble_eq_true rfl) (fun H locs hQ hz hkp hS => ?_)
  have hP : va_P D vwCl (wM a G r1) H := hQ
  have hD : va_D A (wM a G r1) := jD (w := (wM a G M)) rfl hD
  refine lv_aload_n hx hb dX9_move_4 rfl (lv_at hl 0 rfl) ?_
  refine lv_aload_n hx hb dX9_move_5 rfl (lv_at hl 0 rfl) ?_
  refine lv_iload_n hx hb dX9_move_6 rfl (lv_at hl 1 rfl) ?_
  refine lv_iload_n hx hb dX9_move_7 rfl (lv_at hl 2 rfl) ?_
  obtain ⟨r2, hr2, hV⟩ := jBind hV
  refine jVmI C dX9_move_8 (k_X9_moves l D G a N r1 v1 v2 r2 hr2) jy_X9_moves jq_26_20 jq_26_21 jq_26_22 ⟨rfl, rfl, Nat.le_of_ble_eq_true rfl, Nat.le_of_ble_eq_true rfl⟩ ⟨Nat.le_of_ble_eq_true rfl, Nat.le_of_ble_eq_true rfl⟩ hP hD hA hS (ci := 11) (iw := 0) rfl rfl rfl hl (rest := [.ref (a 0)]) rfl (Nat.le_of_ble_eq_true rfl) (fun H locs hQ hz hkp hS => ?_)
  have hP : va_P D vwCl (wM a G r2.2) H := hQ
  have hD : va_D A (wM a G r2.2) := jD (w := (wM a G r1)) rfl hD
  refine lv_iconst (v := 2) hx hb dX9_move_11 (by decide) ?_
  refine lv_iconst (v := 0) hx hb dX9_move_12 (by decide) ?_
  refine lv_iconst (v := 3) hx hb dX9_move_13 (by decide) ?_
  obtain ⟨r3, hr3, hV⟩ := jBind hV
  refine jVmI C dX9_move_14 (k_X9_ends l D G a N r2.2 r2.1 (2 : Int32) (0 : Int32) (3 : Int32) r3 hr3) jy_X9_ends jq_14_22 jq_14_23 jq_15_0 ⟨rfl, rfl, Nat.le_of_ble_eq_true rfl, Nat.le_of_ble_eq_true rfl⟩ ⟨Nat.le_of_ble_eq_true rfl, Nat.le_of_ble_eq_true rfl⟩ hP hD hA hS (ci := 11) (iw := 0) rfl rfl rfl hl (rest := []) rfl (Nat.le_of_ble_eq_true rfl) (fun H locs hQ hz hkp hS => ?_)
  have hP : va_P D vwCl (wM a G r3.2) H := hQ
  have hD : va_D A (wM a G r3.2) := jD (w := (wM a G r2.2)) rfl hD
  cases hV
  exact mRet C rfl dX9_move_17 rfl rfl hP hS
theorem jy_X9_subscriptionsAt : jY yX9_subscriptionsAt cX9_subscriptionsAt 2 (some .int) 1 := ⟨by decide +kernel, jq_28_0, jq_1_5⟩
def F_X9_subscriptionsAt (N : Nat)  (M : Nat → Nat → Int32) (v1 : Int32) : Option Int32 := (if inb ((135 : Int32) + v1) 2169 = true then (some ((M 1) ((135 : Int32) + v1).toNatClampNeg)) else none)
set_option maxHeartbeats 4000000 in
set_option maxRecDepth 100000 in
theorem k_X9_subscriptionsAt (l : Launch) (D : va_G) (G : Nat → ClassId) (a : Nat → Nat) (N : Nat) (M : Nat → Nat → Int32) (v1 : Int32) (r : Int32) (hV : F_X9_subscriptionsAt N  M v1 = some r) : pM l yX9_subscriptionsAt (jws yX9_subscriptionsAt cX9_subscriptionsAt 2 (some .int)) ({ frames := 0, cells := 0, slots := 0, locals := 0 } : Room) [.ref (a 0), .int v1] D G (wM a G M) (some (.int r)) := by
  refine pM_of (by decide +kernel) (Nat.le_of_ble_eq_true rfl) (fun p e s m args below meth c ls C hP hl => ?_)
  have C : Cx p s m args meth c cX9_subscriptionsAt 2 RX9 (some .int) D G := C
  obtain ⟨hx, hb, hr, hml, hts, hown, hlocks, hK0⟩ := id C
  have hK := hK0.1
  have hl : lv_has ls 2 [(0, .ref (a 0)), (1, .int v1)] := hl
  rw [F_X9_subscriptionsAt] at hV
  refine lv_aload_n hx hb dX9_subscriptionsAt_0 rfl (lv_at hl 0 rfl) ?_
  refine va_get (D := D) (ci := 11) (v := .ref (a 1)) (C := RX9) (T := TX9) (N := 16) hx hb hts ju_X9 hown hK hP 0 rfl rfl 1 (by decide) (hts _ jq_6_1) (fun _ h9 => h9) rfl dX9_subscriptionsAt_1 ?_
  refine lv_sipush (v := 135) hx hb dX9_subscriptionsAt_4 (by decide) ?_
  refine lv_iload_n hx hb dX9_subscriptionsAt_7 rfl (lv_at hl 1 rfl) ?_
  refine lv_iadd hx hb dX9_subscriptionsAt_8 ?_
  obtain ⟨g1, hV⟩ := jIf hV
  refine va_iald (D := D) (n := 2169) (f := (M 1)) hx hb hK hP 1 0 rfl rfl (inb_of g1) dX9_subscriptionsAt_9 ?_
  exact pRet C rfl dX9_subscriptionsAt_10 rfl (Option.some.inj hV)
theorem jy_X9_requestsFor : jY yX9_requestsFor cX9_requestsFor 4 (some .int) 1 := ⟨by decide +kernel, jq_27_20, jq_1_5⟩
def D_X9_requestsFor_4 (N : Nat)  (M : Nat → Nat → Int32) : Nat → Int32 → Int32 → Int32 → Option Int32
  | 0, _, _, _ => none
  | n + 1, v1, v2, v3 => (if inb (180 : Int32) 2169 = true then (if ((M 1) (180 : Int32).toNatClampNeg) ≤ v3 then (some v2) else ((F_X9_r N M v3 (0 : Int32)).bind (fun r2 => (if r2 = v1 then (D_X9_requestsFor_4 N  M  n  v1 (v2 + (1 : Int32)) (v3 + 1)) else (D_X9_requestsFor_4 N  M  n  v1 (v2 + (0 : Int32)) (v3 + 1)))))) else none)
set_option maxHeartbeats 4000000 in
set_option maxRecDepth 100000 in
theorem B_X9_requestsFor_4 {p : Program} {l : Launch} {e : Env} {s : State} {m : MethodId} {args : Array Value} {below : List Frame} {meth : Method} {c : Code} {D : va_G} {G : Nat → ClassId} (C : Cx p s m args meth c cX9_requestsFor 4 RX9 (some .int) D G) (N : Nat) (a : Nat → Nat) (M : Nat → Nat → Int32) (r : Int32) (hP : va_P D vwCl (wM a G M) s.heap) : (∀ (n : Nat) (v1 : Int32) (v2 : Int32) (v3 : Int32) (ls : Array Slot), lv_has ls 4 [(0, .ref (a 0)), (1, .int v1), (2, .int v2), (3, .int v3)] → D_X9_requestsFor_4 N  M  n v1 v2 v3 = some r → W p l e ({ frames := 1, cells := 0, slots := 0, locals := 22 } : Room) s m args below meth c s.heap [] 0 0 (MQ below (QcRd (some (.int r))) args s 0 0 nofree) (F0 m 4 ls [])) := by
  have C := C
  obtain ⟨hx, hb, hr, hml, hts, hown, hlocks, hK0⟩ := id C
  have hK := hK0.1
  intro n
  induction n with
  | zero =>
    intro v1 v2 v3 ls hl hV
    rw [D_X9_requestsFor_4] at hV
    cases hV
  | succ n ih =>
    intro v1 v2 v3 ls hl hV
    rw [D_X9_requestsFor_4] at hV
    refine lv_iload_n hx hb dX9_requestsFor_4 rfl (lv_at hl 3 rfl) ?_
    refine lv_aload_n hx hb dX9_requestsFor_5 rfl (lv_at hl 0 rfl) ?_
    refine va_get (D := D) (ci := 11) (v := .ref (a 1)) (C := RX9) (T := TX9) (N := 16) hx hb hts ju_X9 hown hK hP 0 rfl rfl 1 (by decide) (hts _ jq_6_1) (fun _ h9 => h9) rfl dX9_requestsFor_6 ?_
    refine lv_sipush (v := 180) hx hb dX9_requestsFor_9 (by decide) ?_
    obtain ⟨g1, hV⟩ := jIf hV
    refine va_iald (D := D) (n := 2169) (f := (M 1)) hx hb hK hP 1 0 rfl rfl (inb_of g1) dX9_requestsFor_12 ?_
    refine lv_icmp_ge (tgt := 40) hx hb dX9_requestsFor_13 (by decide) (fun c4 => ?_) (fun c4 => ?_)
    · have hV := jT1 hV c4
      refine lv_iload_n hx hb dX9_requestsFor_40 rfl (lv_at hl 2 rfl) ?_
      exact pRet C rfl dX9_requestsFor_41 rfl (Option.some.inj hV)
    · have hV := jF1 hV c4
      refine lv_iload_n hx hb dX9_requestsFor_16 rfl (lv_at hl 2 rfl) ?_
      refine lv_aload_n hx hb dX9_requestsFor_17 rfl (lv_at hl 0 rfl) ?_
      refine lv_iload_n hx hb dX9_requestsFor_18 rfl (lv_at hl 3 rfl) ?_
      refine lv_iconst (v := 0) hx hb dX9_requestsFor_19 (by decide) ?_
      obtain ⟨r2, hr2, hV⟩ := jBind hV
      refine jVpI C dX9_requestsFor_20 (k_X9_r l D G a N M v3 (0 : Int32) r2 hr2) jy_X9_r jq_14_10 jq_14_11 jq_14_12 ⟨rfl, rfl, Nat.le_of_ble_eq_true rfl, Nat.le_of_ble_eq_true rfl⟩ ⟨Nat.le_of_ble_eq_true rfl, Nat.le_of_ble_eq_true rfl⟩ hP  (ci := 11) (iw := 0) rfl rfl rfl hl (rest := [.int v2]) rfl (Nat.le_of_ble_eq_true rfl) ?_
      refine lv_iload_n hx hb dX9_requestsFor_23 rfl (lv_at hl 1 rfl) ?_
      refine lv_icmp_ne (tgt := 31) hx hb dX9_requestsFor_24 (by decide) (fun c3 => ?_) (fun c3 => ?_)
      · have hV := jF1 hV c3
        refine lv_iconst (v := 0) hx hb dX9_requestsFor_31 (by decide) ?_
        refine lv_iadd hx hb dX9_requestsFor_32 ?_
        refine lv_istore_n (lv' := [(2, .int (v2 + (0 : Int32))), (0, .ref (a 0)), (1, .int v1), (3, .int v3)]) hx hb dX9_requestsFor_33 rfl hl (by decide) rfl (fun ls hl => ?_)
        refine lv_iinc (v := (v3 + 1)) (lv' := [(3, .int (v3 + 1)), (2, .int (v2 + (0 : Int32))), (0, .ref (a 0)), (1, .int v1)]) hx hb dX9_requestsFor_34 hl (k := 3) rfl rfl (by decide) rfl (fun ls hl => ?_)
        refine lv_goto (tgt := 4) hx hb dX9_requestsFor_37 (by decide) ?_
        exact ih  v1 (v2 + (0 : Int32)) (v3 + 1) _ (lv_sub hl [2, 3, 1, 0] rfl) hV
      · have hV := jT1 hV c3
        refine lv_iconst (v := 1) hx hb dX9_requestsFor_27 (by decide) ?_
        refine lv_goto (tgt := 32) hx hb dX9_requestsFor_28 (by decide) ?_
        refine lv_iadd hx hb dX9_requestsFor_32 ?_
        refine lv_istore_n (lv' := [(2, .int (v2 + (1 : Int32))), (0, .ref (a 0)), (1, .int v1), (3, .int v3)]) hx hb dX9_requestsFor_33 rfl hl (by decide) rfl (fun ls hl => ?_)
        refine lv_iinc (v := (v3 + 1)) (lv' := [(3, .int (v3 + 1)), (2, .int (v2 + (1 : Int32))), (0, .ref (a 0)), (1, .int v1)]) hx hb dX9_requestsFor_34 hl (k := 3) rfl rfl (by decide) rfl (fun ls hl => ?_)
        refine lv_goto (tgt := 4) hx hb dX9_requestsFor_37 (by decide) ?_
        exact ih  v1 (v2 + (1 : Int32)) (v3 + 1) _ (lv_sub hl [2, 3, 1, 0] rfl) hV
def F_X9_requestsFor (N : Nat)  (M : Nat → Nat → Int32) (v1 : Int32) : Option Int32 := (D_X9_requestsFor_4 N  M  N  v1 (0 : Int32) (0 : Int32))
set_option maxHeartbeats 4000000 in
set_option maxRecDepth 100000 in
theorem k_X9_requestsFor (l : Launch) (D : va_G) (G : Nat → ClassId) (a : Nat → Nat) (N : Nat) (M : Nat → Nat → Int32) (v1 : Int32) (r : Int32) (hV : F_X9_requestsFor N  M v1 = some r) : pM l yX9_requestsFor (jws yX9_requestsFor cX9_requestsFor 4 (some .int)) ({ frames := 1, cells := 0, slots := 0, locals := 22 } : Room) [.ref (a 0), .int v1] D G (wM a G M) (some (.int r)) := by
  refine pM_of (by decide +kernel) (Nat.le_of_ble_eq_true rfl) (fun p e s m args below meth c ls C hP hl => ?_)
  have C : Cx p s m args meth c cX9_requestsFor 4 RX9 (some .int) D G := C
  obtain ⟨hx, hb, hr, hml, hts, hown, hlocks, hK0⟩ := id C
  have hK := hK0.1
  have hl : lv_has ls 4 [(0, .ref (a 0)), (1, .int v1)] := hl
  rw [F_X9_requestsFor] at hV
  refine lv_iconst (v := 0) hx hb dX9_requestsFor_0 (by decide) ?_
  refine lv_istore_n (lv' := [(2, .int (0 : Int32)), (0, .ref (a 0)), (1, .int v1)]) hx hb dX9_requestsFor_1 rfl hl (by decide) rfl (fun ls hl => ?_)
  refine lv_iconst (v := 0) hx hb dX9_requestsFor_2 (by decide) ?_
  refine lv_istore_n (lv' := [(3, .int (0 : Int32)), (2, .int (0 : Int32)), (0, .ref (a 0)), (1, .int v1)]) hx hb dX9_requestsFor_3 rfl hl (by decide) rfl (fun ls hl => ?_)
  exact B_X9_requestsFor_4 C  N a M r hP   N  v1 (0 : Int32) (0 : Int32) _ (lv_sub hl [2, 3, 1, 0] rfl) hV
theorem jy_X9_performance : jY yX9_performance cX9_performance 3 (some .int) 2 := ⟨by decide +kernel, jq_27_16, jq_1_5⟩
def D_X9_performance_28 (N : Nat)  (M : Nat → Nat → Int32) (v1 : Int32) (v2 : Int32) (s0 : Int32) : Option (Int32 × (Nat → Nat → Int32)) := (jlet (stF M 0 s0) (fun M1 => (if (M1 0 0) = 0 then (if v2 = 4 then ((F_X9_heldAt N M1 v1).bind (fun r7 => (some (r7, M1)))) else (if v2 = 5 then ((F_X9_freeAt N M1 v1).bind (fun r6 => (some (r6, M1)))) else (if v2 = 6 then ((F_X9_requestsFor N M1 v1).bind (fun r5 => (some (r5, M1)))) else (if v2 = 7 then ((F_X9_subscriptionsAt N M1 v1).bind (fun r4 => (some (r4, M1)))) else ((F_X9_p N M1 v1 v2).bind (fun r3 => (some (r3, M1)))))))) else (some ((0 : Int32), M1)))))
set_option maxHeartbeats 4000000 in
set_option maxRecDepth 100000 in
theorem B_X9_performance_28 {p : Program} {l : Launch} {e : Env} {s : State} {m : MethodId} {args : Array Value} {below : List Frame} {meth : Method} {c : Code} {D : va_G} {G : Nat → ClassId} {A : Nat → Prop} (C : Cx p s m args meth c cX9_performance 3 RX9 (some .int) D G) (hA : ∀ q : Nat, s.heap.size ≤ q → A q) (N : Nat) (a : Nat → Nat) (r : (Int32 × (Nat → Nat → Int32))) : (∀ (M : Nat → Nat → Int32) (v1 : Int32) (v2 : Int32) (s0 : Int32) (ls : Array Slot) (H : Heap) (locs : List Loc), va_P D vwCl (wM a G M) H → va_D A (wM a G M) → va_S A s.heap H locs → lv_has ls 3 [(0, .ref (a 0)), (1, .int v1), (2, .int v2)] → D_X9_performance_28 N   M v1 v2 s0 = some r → W p l e ({ frames := 3, cells := 0, slots := 0, locals := 66 } : Room) s m args below meth c H locs 0 0 (MQ below (mQ D (wM a G r.2) (some (.int r.1)) A) args s 0 0 A) (F0 m 28 ls [.int s0, .ref (a 0)])) := by
  have C := C
  obtain ⟨hx, hb, hr, hml, hts, hown, hlocks, hK0⟩ := id C
  have hK := hK0.1
  intro M v1 v2 s0 ls H locs hP hD hS hl hV
  rw [D_X9_performance_28] at hV
  refine va_put (D := D) (ci := 11) (v := .int s0) (ty := .int) (C := RX9) (T := TX9) (N := 16) hx hb hts ju_X9 tyX9 tyX9_ok nmX9 hown hK hP hD hS 0 rfl rfl 0 (by decide) (hts _ jq_15_2) (fun _ h9 => h9) rfl (by decide +kernel) rfl rfl (Nat.le_of_ble_eq_true rfl) dX9_performance_28 (fun H locs hP hD hS => ?_)
  obtain ⟨M1, e9, hV⟩ := jLet hV
  have hP : va_P D vwCl (wM a G M1) H := by rw [e9]; exact hP
  have hD : va_D A (wM a G M1) := by rw [e9]; exact hD
  refine lv_aload_n hx hb dX9_performance_31 rfl (lv_at hl 0 rfl) ?_
  refine va_get (D := D) (ci := 11) (v := .int (M1 0 0)) (C := RX9) (T := TX9) (N := 16) hx hb hts ju_X9 hown hK hP 0 rfl rfl 0 (by decide) (hts _ jq_15_2) (fun _ h9 => h9) rfl dX9_performance_32 ?_
  refine lv_if_eq (tgt := 40) hx hb dX9_performance_35 (by decide) (fun c8 => ?_) (fun c8 => ?_)
  · have hV := jT1 hV c8
    refine lv_iload_n hx hb dX9_performance_40 rfl (lv_at hl 2 rfl) ?_
    by_cases c2_0 : v2 = 4
    · have hV := jT1 hV c2_0
      refine lv_tableIn (tgt := 72) hx hb dX9_performance_41 (by rw [c2_0]; decide) (by rw [c2_0]; decide) (by rw [c2_0]; rfl) (by decide) ?_
      refine lv_aload_n hx hb dX9_performance_72 rfl (lv_at hl 0 rfl) ?_
      refine lv_iload_n hx hb dX9_performance_73 rfl (lv_at hl 1 rfl) ?_
      obtain ⟨r7, hr7, hV⟩ := jBind hV
      refine jVpI C dX9_performance_74 (k_X9_heldAt l D G a N M1 v1 r7 hr7) jy_X9_heldAt jq_13_8 jq_13_9 jq_13_10 ⟨rfl, rfl, Nat.le_of_ble_eq_true rfl, Nat.le_of_ble_eq_true rfl⟩ ⟨Nat.le_of_ble_eq_true rfl, Nat.le_of_ble_eq_true rfl⟩ hP  (ci := 11) (iw := 0) rfl rfl rfl hl (rest := []) rfl (Nat.le_of_ble_eq_true rfl) ?_
      cases hV
      exact mRet C rfl dX9_performance_77 rfl rfl hP hS
    · have hV := jF1 hV c2_0
      by_cases c2_1 : v2 = 5
      · have hV := jT1 hV c2_1
        refine lv_tableIn (tgt := 78) hx hb dX9_performance_41 (by rw [c2_1]; decide) (by rw [c2_1]; decide) (by rw [c2_1]; rfl) (by decide) ?_
        refine lv_aload_n hx hb dX9_performance_78 rfl (lv_at hl 0 rfl) ?_
        refine lv_iload_n hx hb dX9_performance_79 rfl (lv_at hl 1 rfl) ?_
        obtain ⟨r6, hr6, hV⟩ := jBind hV
        refine jVpI C dX9_performance_80 (k_X9_freeAt l D G a N M1 v1 r6 hr6) jy_X9_freeAt jq_14_14 jq_14_15 jq_14_16 ⟨rfl, rfl, Nat.le_of_ble_eq_true rfl, Nat.le_of_ble_eq_true rfl⟩ ⟨Nat.le_of_ble_eq_true rfl, Nat.le_of_ble_eq_true rfl⟩ hP  (ci := 11) (iw := 0) rfl rfl rfl hl (rest := []) rfl (Nat.le_of_ble_eq_true rfl) ?_
        cases hV
        exact mRet C rfl dX9_performance_83 rfl rfl hP hS
      · have hV := jF1 hV c2_1
        by_cases c2_2 : v2 = 6
        · have hV := jT1 hV c2_2
          refine lv_tableIn (tgt := 84) hx hb dX9_performance_41 (by rw [c2_2]; decide) (by rw [c2_2]; decide) (by rw [c2_2]; rfl) (by decide) ?_
          refine lv_aload_n hx hb dX9_performance_84 rfl (lv_at hl 0 rfl) ?_
          refine lv_iload_n hx hb dX9_performance_85 rfl (lv_at hl 1 rfl) ?_
          obtain ⟨r5, hr5, hV⟩ := jBind hV
          refine jVpI C dX9_performance_86 (k_X9_requestsFor l D G a N M1 v1 r5 hr5) jy_X9_requestsFor jq_27_17 jq_27_18 jq_27_19 ⟨rfl, rfl, Nat.le_of_ble_eq_true rfl, Nat.le_of_ble_eq_true rfl⟩ ⟨Nat.le_of_ble_eq_true rfl, Nat.le_of_ble_eq_true rfl⟩ hP  (ci := 11) (iw := 0) rfl rfl rfl hl (rest := []) rfl (Nat.le_of_ble_eq_true rfl) ?_
          cases hV
          exact mRet C rfl dX9_performance_89 rfl rfl hP hS
        · have hV := jF1 hV c2_2
          by_cases c2_3 : v2 = 7
          · have hV := jT1 hV c2_3
            refine lv_tableIn (tgt := 90) hx hb dX9_performance_41 (by rw [c2_3]; decide) (by rw [c2_3]; decide) (by rw [c2_3]; rfl) (by decide) ?_
            refine lv_aload_n hx hb dX9_performance_90 rfl (lv_at hl 0 rfl) ?_
            refine lv_iload_n hx hb dX9_performance_91 rfl (lv_at hl 1 rfl) ?_
            obtain ⟨r4, hr4, hV⟩ := jBind hV
            refine jVpI C dX9_performance_92 (k_X9_subscriptionsAt l D G a N M1 v1 r4 hr4) jy_X9_subscriptionsAt jq_27_21 jq_27_22 jq_27_23 ⟨rfl, rfl, Nat.le_of_ble_eq_true rfl, Nat.le_of_ble_eq_true rfl⟩ ⟨Nat.le_of_ble_eq_true rfl, Nat.le_of_ble_eq_true rfl⟩ hP  (ci := 11) (iw := 0) rfl rfl rfl hl (rest := []) rfl (Nat.le_of_ble_eq_true rfl) ?_
            cases hV
            exact mRet C rfl dX9_performance_95 rfl rfl hP hS
          · have hV := jF1 hV c2_3
            refine jTabDef (tgt := 96) hx hb dX9_performance_41 (fun k h1 h2 h3 => ?_) (by decide) ?_
            · rcases (show k = 4 ∨ k = 5 ∨ k = 6 ∨ k = 7 by omega) with rfl | rfl | rfl | rfl <;> first | rfl | exact absurd (Int32.toInt_inj.mp (h3.trans (by decide))) c2_0 | exact absurd (Int32.toInt_inj.mp (h3.trans (by decide))) c2_1 | exact absurd (Int32.toInt_inj.mp (h3.trans (by decide))) c2_2 | exact absurd (Int32.toInt_inj.mp (h3.trans (by decide))) c2_3
            · refine lv_aload_n hx hb dX9_performance_96 rfl (lv_at hl 0 rfl) ?_
              refine lv_iload_n hx hb dX9_performance_97 rfl (lv_at hl 1 rfl) ?_
              refine lv_iload_n hx hb dX9_performance_98 rfl (lv_at hl 2 rfl) ?_
              obtain ⟨r3, hr3, hV⟩ := jBind hV
              refine jVpI C dX9_performance_99 (k_X9_p l D G a N M1 v1 v2 r3 hr3) jy_X9_p jq_13_4 jq_13_5 jq_13_6 ⟨rfl, rfl, Nat.le_of_ble_eq_true rfl, Nat.le_of_ble_eq_true rfl⟩ ⟨Nat.le_of_ble_eq_true rfl, Nat.le_of_ble_eq_true rfl⟩ hP  (ci := 11) (iw := 0) rfl rfl rfl hl (rest := []) rfl (Nat.le_of_ble_eq_true rfl) ?_
              cases hV
              exact mRet C rfl dX9_performance_102 rfl rfl hP hS
  · have hV := jF1 hV c8
    refine lv_iconst (v := 0) hx hb dX9_performance_38 (by decide) ?_
    cases hV
    exact mRet C rfl dX9_performance_39 rfl rfl hP hS
def F_X9_performance (N : Nat)  (M : Nat → Nat → Int32) (v1 v2 : Int32) : Option (Int32 × (Nat → Nat → Int32)) := ((F_X9_isPerformance N M v1).bind (fun r10 => (if r10 = 0 then (D_X9_performance_28 N   M v1 v2 (1 : Int32)) else ((F_X9_in N  v2 (0 : Int32) (7 : Int32)).bind (fun r11 => (if r11 = 0 then (D_X9_performance_28 N   M v1 v2 (2 : Int32)) else (D_X9_performance_28 N   M v1 v2 (0 : Int32))))))))
set_option maxHeartbeats 4000000 in
set_option maxRecDepth 100000 in
theorem k_X9_performance (l : Launch) (D : va_G) (G : Nat → ClassId) (a : Nat → Nat) (N : Nat) (M : Nat → Nat → Int32) (v1 v2 : Int32) (r : (Int32 × (Nat → Nat → Int32))) (hV : F_X9_performance N  M v1 v2 = some r) : mM l yX9_performance (jws yX9_performance cX9_performance 3 (some .int)) ({ frames := 3, cells := 0, slots := 0, locals := 66 } : Room) [.ref (a 0), .int v1, .int v2] D G (wM a G M) (wM a G r.2) (some (.int r.1)) := by
  refine mM_of (by decide +kernel) (Nat.le_of_ble_eq_true rfl) (fun p e s m args below meth c ls A C hP hD hA hl => ?_)
  have C : Cx p s m args meth c cX9_performance 3 RX9 (some .int) D G := C
  have hS : va_S A s.heap s.heap [] := va_S.rf
  obtain ⟨hx, hb, hr, hml, hts, hown, hlocks, hK0⟩ := id C
  have hK := hK0.1
  have hl : lv_has ls 3 [(0, .ref (a 0)), (1, .int v1), (2, .int v2)] := hl
  rw [F_X9_performance] at hV
  refine lv_aload_n hx hb dX9_performance_0 rfl (lv_at hl 0 rfl) ?_
  refine lv_aload_n hx hb dX9_performance_1 rfl (lv_at hl 0 rfl) ?_
  refine lv_iload_n hx hb dX9_performance_2 rfl (lv_at hl 1 rfl) ?_
  obtain ⟨r10, hr10, hV⟩ := jBind hV
  refine jVpI C dX9_performance_3 (k_X9_isPerformance l D G a N M v1 r10 hr10) jy_X9_isPerformance jq_26_1 jq_26_2 jq_26_3 ⟨rfl, rfl, Nat.le_of_ble_eq_true rfl, Nat.le_of_ble_eq_true rfl⟩ ⟨Nat.le_of_ble_eq_true rfl, Nat.le_of_ble_eq_true rfl⟩ hP  (ci := 11) (iw := 0) rfl rfl rfl hl (rest := [.ref (a 0)]) rfl (Nat.le_of_ble_eq_true rfl) ?_
  refine lv_if_ne (tgt := 13) hx hb dX9_performance_6 (by decide) (fun c13 => ?_) (fun c13 => ?_)
  · have hV := jF1 hV c13
    refine lv_iload_n hx hb dX9_performance_13 rfl (lv_at hl 2 rfl) ?_
    refine lv_iconst (v := 0) hx hb dX9_performance_14 (by decide) ?_
    refine lv_bipush (v := 7) hx hb dX9_performance_15 (by decide) ?_
    obtain ⟨r11, hr11, hV⟩ := jBind hV
    refine jSpI C dX9_performance_17 (k_X9_in l D G  N  v2 (0 : Int32) (7 : Int32) r11 hr11) jy_X9_in jq_13_1 jq_13_2 ⟨rfl, rfl, Nat.le_of_ble_eq_true rfl, Nat.le_of_ble_eq_true rfl⟩ ⟨Nat.le_of_ble_eq_true rfl, Nat.le_of_ble_eq_true rfl⟩ jE  hl (rest := [.ref (a 0)]) rfl (Nat.le_of_ble_eq_true rfl) ?_
    refine lv_if_eq (tgt := 27) hx hb dX9_performance_20 (by decide) (fun c12 => ?_) (fun c12 => ?_)
    · have hV := jT1 hV c12
      refine lv_iconst (v := 2) hx hb dX9_performance_27 (by decide) ?_
      exact B_X9_performance_28 C hA N a r   M v1 v2 (2 : Int32) _ _ _ hP hD hS (lv_sub hl [0, 1, 2] rfl) hV
    · have hV := jF1 hV c12
      refine lv_iconst (v := 0) hx hb dX9_performance_23 (by decide) ?_
      refine lv_goto (tgt := 28) hx hb dX9_performance_24 (by decide) ?_
      exact B_X9_performance_28 C hA N a r   M v1 v2 (0 : Int32) _ _ _ hP hD hS (lv_sub hl [0, 1, 2] rfl) hV
  · have hV := jT1 hV c13
    refine lv_iconst (v := 1) hx hb dX9_performance_9 (by decide) ?_
    refine lv_goto (tgt := 28) hx hb dX9_performance_10 (by decide) ?_
    exact B_X9_performance_28 C hA N a r   M v1 v2 (1 : Int32) _ _ _ hP hD hS (lv_sub hl [0, 1, 2] rfl) hV
theorem jy_X9_on : jY yX9_on cX9_on 4 (some .int) 2 := ⟨by decide +kernel, jq_28_20, jq_1_5⟩
def D_X9_on_38 (N : Nat)  : Nat → (Nat → Nat → Int32) → Int32 → Int32 → Int32 → Option (Int32 × (Nat → Nat → Int32))
  | 0, _, _, _, _ => none
  | n + 1, M, v1, v2, v3 => (if inb (38 : Int32) 2169 = true then (if ((M 1) (38 : Int32).toNatClampNeg) ≤ v3 then (jlet (stF M 0 (3 : Int32)) (fun M2 => (some ((0 : Int32), M2)))) else ((F_X9_p N M v3 (1 : Int32)).bind (fun r4 => (if r4 = v1 then ((F_X9_p N M v3 (2 : Int32)).bind (fun r5 => (if r5 = v2 then (some (v3, M)) else (D_X9_on_38 N   n M v1 v2 (v3 + 1))))) else (D_X9_on_38 N   n M v1 v2 (v3 + 1)))))) else none)
set_option maxHeartbeats 4000000 in
set_option maxRecDepth 100000 in
theorem B_X9_on_38 {p : Program} {l : Launch} {e : Env} {s : State} {m : MethodId} {args : Array Value} {below : List Frame} {meth : Method} {c : Code} {D : va_G} {G : Nat → ClassId} {A : Nat → Prop} (C : Cx p s m args meth c cX9_on 4 RX9 (some .int) D G) (hA : ∀ q : Nat, s.heap.size ≤ q → A q) (N : Nat) (a : Nat → Nat) (r : (Int32 × (Nat → Nat → Int32))) : (∀ (n : Nat) (M : Nat → Nat → Int32) (v1 : Int32) (v2 : Int32) (v3 : Int32) (ls : Array Slot) (H : Heap) (locs : List Loc), va_P D vwCl (wM a G M) H → va_D A (wM a G M) → va_S A s.heap H locs → lv_has ls 4 [(0, .ref (a 0)), (1, .int v1), (2, .int v2), (3, .int v3)] → D_X9_on_38 N   n M v1 v2 v3 = some r → W p l e ({ frames := 2, cells := 0, slots := 0, locals := 42 } : Room) s m args below meth c H locs 0 0 (MQ below (mQ D (wM a G r.2) (some (.int r.1)) A) args s 0 0 A) (F0 m 38 ls [])) := by
  have C := C
  obtain ⟨hx, hb, hr, hml, hts, hown, hlocks, hK0⟩ := id C
  have hK := hK0.1
  intro n
  induction n with
  | zero =>
    intro M v1 v2 v3 ls H locs hP hD hS hl hV
    rw [D_X9_on_38] at hV
    cases hV
  | succ n ih =>
    intro M v1 v2 v3 ls H locs hP hD hS hl hV
    rw [D_X9_on_38] at hV
    refine lv_iload_n hx hb dX9_on_38 rfl (lv_at hl 3 rfl) ?_
    refine lv_aload_n hx hb dX9_on_39 rfl (lv_at hl 0 rfl) ?_
    refine va_get (D := D) (ci := 11) (v := .ref (a 1)) (C := RX9) (T := TX9) (N := 16) hx hb hts ju_X9 hown hK hP 0 rfl rfl 1 (by decide) (hts _ jq_6_1) (fun _ h9 => h9) rfl dX9_on_40 ?_
    refine lv_bipush (v := 38) hx hb dX9_on_43 (by decide) ?_
    obtain ⟨g1, hV⟩ := jIf hV
    refine va_iald (D := D) (n := 2169) (f := (M 1)) hx hb hK hP 1 0 rfl rfl (inb_of g1) dX9_on_45 ?_
    refine lv_icmp_ge (tgt := 77) hx hb dX9_on_46 (by decide) (fun c8 => ?_) (fun c8 => ?_)
    · have hV := jT1 hV c8
      refine lv_aload_n hx hb dX9_on_77 rfl (lv_at hl 0 rfl) ?_
      refine lv_iconst (v := 3) hx hb dX9_on_78 (by decide) ?_
      refine va_put (D := D) (ci := 11) (v := .int (3 : Int32)) (ty := .int) (C := RX9) (T := TX9) (N := 16) hx hb hts ju_X9 tyX9 tyX9_ok nmX9 hown hK hP hD hS 0 rfl rfl 0 (by decide) (hts _ jq_15_2) (fun _ h9 => h9) rfl (by decide +kernel) rfl rfl (Nat.le_of_ble_eq_true rfl) dX9_on_79 (fun H locs hP hD hS => ?_)
      obtain ⟨M2, e3, hV⟩ := jLet hV
      have hP : va_P D vwCl (wM a G M2) H := by rw [e3]; exact hP
      have hD : va_D A (wM a G M2) := by rw [e3]; exact hD
      refine lv_iconst (v := 0) hx hb dX9_on_82 (by decide) ?_
      cases hV
      exact mRet C rfl dX9_on_83 rfl rfl hP hS
    · have hV := jF1 hV c8
      refine lv_aload_n hx hb dX9_on_49 rfl (lv_at hl 0 rfl) ?_
      refine lv_iload_n hx hb dX9_on_50 rfl (lv_at hl 3 rfl) ?_
      refine lv_iconst (v := 1) hx hb dX9_on_51 (by decide) ?_
      obtain ⟨r4, hr4, hV⟩ := jBind hV
      refine jVpI C dX9_on_52 (k_X9_p l D G a N M v3 (1 : Int32) r4 hr4) jy_X9_p jq_13_4 jq_13_5 jq_13_6 ⟨rfl, rfl, Nat.le_of_ble_eq_true rfl, Nat.le_of_ble_eq_true rfl⟩ ⟨Nat.le_of_ble_eq_true rfl, Nat.le_of_ble_eq_true rfl⟩ hP  (ci := 11) (iw := 0) rfl rfl rfl hl (rest := []) rfl (Nat.le_of_ble_eq_true rfl) ?_
      refine lv_iload_n hx hb dX9_on_55 rfl (lv_at hl 1 rfl) ?_
      refine lv_icmp_ne (tgt := 71) hx hb dX9_on_56 (by decide) (fun c7 => ?_) (fun c7 => ?_)
      · have hV := jF1 hV c7
        refine lv_iinc (v := (v3 + 1)) (lv' := [(3, .int (v3 + 1)), (0, .ref (a 0)), (1, .int v1), (2, .int v2)]) hx hb dX9_on_71 hl (k := 3) rfl rfl (by decide) rfl (fun ls hl => ?_)
        refine lv_goto (tgt := 38) hx hb dX9_on_74 (by decide) ?_
        exact ih M v1 v2 (v3 + 1) _ _ _ hP hD hS (lv_sub hl [1, 2, 3, 0] rfl) hV
      · have hV := jT1 hV c7
        refine lv_aload_n hx hb dX9_on_59 rfl (lv_at hl 0 rfl) ?_
        refine lv_iload_n hx hb dX9_on_60 rfl (lv_at hl 3 rfl) ?_
        refine lv_iconst (v := 2) hx hb dX9_on_61 (by decide) ?_
        obtain ⟨r5, hr5, hV⟩ := jBind hV
        refine jVpI C dX9_on_62 (k_X9_p l D G a N M v3 (2 : Int32) r5 hr5) jy_X9_p jq_13_4 jq_13_5 jq_13_6 ⟨rfl, rfl, Nat.le_of_ble_eq_true rfl, Nat.le_of_ble_eq_true rfl⟩ ⟨Nat.le_of_ble_eq_true rfl, Nat.le_of_ble_eq_true rfl⟩ hP  (ci := 11) (iw := 0) rfl rfl rfl hl (rest := []) rfl (Nat.le_of_ble_eq_true rfl) ?_
        refine lv_iload_n hx hb dX9_on_65 rfl (lv_at hl 2 rfl) ?_
        refine lv_icmp_ne (tgt := 71) hx hb dX9_on_66 (by decide) (fun c6 => ?_) (fun c6 => ?_)
        · have hV := jF1 hV c6
          refine lv_iinc (v := (v3 + 1)) (lv' := [(3, .int (v3 + 1)), (0, .ref (a 0)), (1, .int v1), (2, .int v2)]) hx hb dX9_on_71 hl (k := 3) rfl rfl (by decide) rfl (fun ls hl => ?_)
          refine lv_goto (tgt := 38) hx hb dX9_on_74 (by decide) ?_
          exact ih M v1 v2 (v3 + 1) _ _ _ hP hD hS (lv_sub hl [1, 2, 3, 0] rfl) hV
        · have hV := jT1 hV c6
          refine lv_iload_n hx hb dX9_on_69 rfl (lv_at hl 3 rfl) ?_
          cases hV
          exact mRet C rfl dX9_on_70 rfl rfl hP hS
def F_X9_on (N : Nat)  (M : Nat → Nat → Int32) (v1 v2 : Int32) : Option (Int32 × (Nat → Nat → Int32)) := ((F_X9_isStage N  v1).bind (fun r9 => (if r9 = 0 then (jlet (stF M 0 (1 : Int32)) (fun M18 => (if (M18 0 0) = 0 then (D_X9_on_38 N   N M18 v1 v2 (0 : Int32)) else (some ((0 : Int32), M18))))) else ((F_X9_isDate N  v2).bind (fun r10 => (if r10 = 0 then (jlet (stF M 0 (2 : Int32)) (fun M11 => (if (M11 0 0) = 0 then (D_X9_on_38 N   N M11 v1 v2 (0 : Int32)) else (some ((0 : Int32), M11))))) else (jlet (stF M 0 (0 : Int32)) (fun M14 => (if (M14 0 0) = 0 then (D_X9_on_38 N   N M14 v1 v2 (0 : Int32)) else (some ((0 : Int32), M14)))))))))))
set_option maxHeartbeats 4000000 in
set_option maxRecDepth 100000 in
theorem k_X9_on (l : Launch) (D : va_G) (G : Nat → ClassId) (a : Nat → Nat) (N : Nat) (M : Nat → Nat → Int32) (v1 v2 : Int32) (r : (Int32 × (Nat → Nat → Int32))) (hV : F_X9_on N  M v1 v2 = some r) : mM l yX9_on (jws yX9_on cX9_on 4 (some .int)) ({ frames := 2, cells := 0, slots := 0, locals := 42 } : Room) [.ref (a 0), .int v1, .int v2] D G (wM a G M) (wM a G r.2) (some (.int r.1)) := by
  refine mM_of (by decide +kernel) (Nat.le_of_ble_eq_true rfl) (fun p e s m args below meth c ls A C hP hD hA hl => ?_)
  have C : Cx p s m args meth c cX9_on 4 RX9 (some .int) D G := C
  have hS : va_S A s.heap s.heap [] := va_S.rf
  obtain ⟨hx, hb, hr, hml, hts, hown, hlocks, hK0⟩ := id C
  have hK := hK0.1
  have hl : lv_has ls 4 [(0, .ref (a 0)), (1, .int v1), (2, .int v2)] := hl
  rw [F_X9_on] at hV
  refine lv_aload_n hx hb dX9_on_0 rfl (lv_at hl 0 rfl) ?_
  refine lv_iload_n hx hb dX9_on_1 rfl (lv_at hl 1 rfl) ?_
  obtain ⟨r9, hr9, hV⟩ := jBind hV
  refine jSpI C dX9_on_2 (k_X9_isStage l D G  N  v1 r9 hr9) jy_X9_isStage jq_12_22 jq_12_23 ⟨rfl, rfl, Nat.le_of_ble_eq_true rfl, Nat.le_of_ble_eq_true rfl⟩ ⟨Nat.le_of_ble_eq_true rfl, Nat.le_of_ble_eq_true rfl⟩ jE  hl (rest := [.ref (a 0)]) rfl (Nat.le_of_ble_eq_true rfl) ?_
  refine lv_if_ne (tgt := 12) hx hb dX9_on_5 (by decide) (fun c21 => ?_) (fun c21 => ?_)
  · have hV := jF1 hV c21
    refine lv_iload_n hx hb dX9_on_12 rfl (lv_at hl 2 rfl) ?_
    obtain ⟨r10, hr10, hV⟩ := jBind hV
    refine jSpI C dX9_on_13 (k_X9_isDate l D G  N  v2 r10 hr10) jy_X9_isDate jq_24_8 jq_24_9 ⟨rfl, rfl, Nat.le_of_ble_eq_true rfl, Nat.le_of_ble_eq_true rfl⟩ ⟨Nat.le_of_ble_eq_true rfl, Nat.le_of_ble_eq_true rfl⟩ jE  hl (rest := [.ref (a 0)]) rfl (Nat.le_of_ble_eq_true rfl) ?_
    refine lv_if_eq (tgt := 23) hx hb dX9_on_16 (by decide) (fun c17 => ?_) (fun c17 => ?_)
    · have hV := jT1 hV c17
      refine lv_iconst (v := 2) hx hb dX9_on_23 (by decide) ?_
      refine va_put (D := D) (ci := 11) (v := .int (2 : Int32)) (ty := .int) (C := RX9) (T := TX9) (N := 16) hx hb hts ju_X9 tyX9 tyX9_ok nmX9 hown hK hP hD hS 0 rfl rfl 0 (by decide) (hts _ jq_15_2) (fun _ h9 => h9) rfl (by decide +kernel) rfl rfl (Nat.le_of_ble_eq_true rfl) dX9_on_24 (fun H locs hP hD hS => ?_)
      obtain ⟨M11, e13, hV⟩ := jLet hV
      have hP : va_P D vwCl (wM a G M11) H := by rw [e13]; exact hP
      have hD : va_D A (wM a G M11) := by rw [e13]; exact hD
      refine lv_aload_n hx hb dX9_on_27 rfl (lv_at hl 0 rfl) ?_
      refine va_get (D := D) (ci := 11) (v := .int (M11 0 0)) (C := RX9) (T := TX9) (N := 16) hx hb hts ju_X9 hown hK hP 0 rfl rfl 0 (by decide) (hts _ jq_15_2) (fun _ h9 => h9) rfl dX9_on_28 ?_
      refine lv_if_eq (tgt := 36) hx hb dX9_on_31 (by decide) (fun c12 => ?_) (fun c12 => ?_)
      · have hV := jT1 hV c12
        refine lv_iconst (v := 0) hx hb dX9_on_36 (by decide) ?_
        refine lv_istore_n (lv' := [(3, .int (0 : Int32)), (0, .ref (a 0)), (1, .int v1), (2, .int v2)]) hx hb dX9_on_37 rfl hl (by decide) rfl (fun ls hl => ?_)
        exact B_X9_on_38 C hA N a r   N M11 v1 v2 (0 : Int32) _ _ _ hP hD hS (lv_sub hl [1, 2, 3, 0] rfl) hV
      · have hV := jF1 hV c12
        refine lv_iconst (v := 0) hx hb dX9_on_34 (by decide) ?_
        cases hV
        exact mRet C rfl dX9_on_35 rfl rfl hP hS
    · have hV := jF1 hV c17
      refine lv_iconst (v := 0) hx hb dX9_on_19 (by decide) ?_
      refine lv_goto (tgt := 24) hx hb dX9_on_20 (by decide) ?_
      refine va_put (D := D) (ci := 11) (v := .int (0 : Int32)) (ty := .int) (C := RX9) (T := TX9) (N := 16) hx hb hts ju_X9 tyX9 tyX9_ok nmX9 hown hK hP hD hS 0 rfl rfl 0 (by decide) (hts _ jq_15_2) (fun _ h9 => h9) rfl (by decide +kernel) rfl rfl (Nat.le_of_ble_eq_true rfl) dX9_on_24 (fun H locs hP hD hS => ?_)
      obtain ⟨M14, e16, hV⟩ := jLet hV
      have hP : va_P D vwCl (wM a G M14) H := by rw [e16]; exact hP
      have hD : va_D A (wM a G M14) := by rw [e16]; exact hD
      refine lv_aload_n hx hb dX9_on_27 rfl (lv_at hl 0 rfl) ?_
      refine va_get (D := D) (ci := 11) (v := .int (M14 0 0)) (C := RX9) (T := TX9) (N := 16) hx hb hts ju_X9 hown hK hP 0 rfl rfl 0 (by decide) (hts _ jq_15_2) (fun _ h9 => h9) rfl dX9_on_28 ?_
      refine lv_if_eq (tgt := 36) hx hb dX9_on_31 (by decide) (fun c15 => ?_) (fun c15 => ?_)
      · have hV := jT1 hV c15
        refine lv_iconst (v := 0) hx hb dX9_on_36 (by decide) ?_
        refine lv_istore_n (lv' := [(3, .int (0 : Int32)), (0, .ref (a 0)), (1, .int v1), (2, .int v2)]) hx hb dX9_on_37 rfl hl (by decide) rfl (fun ls hl => ?_)
        exact B_X9_on_38 C hA N a r   N M14 v1 v2 (0 : Int32) _ _ _ hP hD hS (lv_sub hl [1, 2, 3, 0] rfl) hV
      · have hV := jF1 hV c15
        refine lv_iconst (v := 0) hx hb dX9_on_34 (by decide) ?_
        cases hV
        exact mRet C rfl dX9_on_35 rfl rfl hP hS
  · have hV := jT1 hV c21
    refine lv_iconst (v := 1) hx hb dX9_on_8 (by decide) ?_
    refine lv_goto (tgt := 24) hx hb dX9_on_9 (by decide) ?_
    refine va_put (D := D) (ci := 11) (v := .int (1 : Int32)) (ty := .int) (C := RX9) (T := TX9) (N := 16) hx hb hts ju_X9 tyX9 tyX9_ok nmX9 hown hK hP hD hS 0 rfl rfl 0 (by decide) (hts _ jq_15_2) (fun _ h9 => h9) rfl (by decide +kernel) rfl rfl (Nat.le_of_ble_eq_true rfl) dX9_on_24 (fun H locs hP hD hS => ?_)
    obtain ⟨M18, e20, hV⟩ := jLet hV
    have hP : va_P D vwCl (wM a G M18) H := by rw [e20]; exact hP
    have hD : va_D A (wM a G M18) := by rw [e20]; exact hD
    refine lv_aload_n hx hb dX9_on_27 rfl (lv_at hl 0 rfl) ?_
    refine va_get (D := D) (ci := 11) (v := .int (M18 0 0)) (C := RX9) (T := TX9) (N := 16) hx hb hts ju_X9 hown hK hP 0 rfl rfl 0 (by decide) (hts _ jq_15_2) (fun _ h9 => h9) rfl dX9_on_28 ?_
    refine lv_if_eq (tgt := 36) hx hb dX9_on_31 (by decide) (fun c19 => ?_) (fun c19 => ?_)
    · have hV := jT1 hV c19
      refine lv_iconst (v := 0) hx hb dX9_on_36 (by decide) ?_
      refine lv_istore_n (lv' := [(3, .int (0 : Int32)), (0, .ref (a 0)), (1, .int v1), (2, .int v2)]) hx hb dX9_on_37 rfl hl (by decide) rfl (fun ls hl => ?_)
      exact B_X9_on_38 C hA N a r   N M18 v1 v2 (0 : Int32) _ _ _ hP hD hS (lv_sub hl [1, 2, 3, 0] rfl) hV
    · have hV := jF1 hV c19
      refine lv_iconst (v := 0) hx hb dX9_on_34 (by decide) ?_
      cases hV
      exact mRet C rfl dX9_on_35 rfl rfl hP hS
theorem jy_X9_canBe : jY yX9_canBe cX9_canBe 12 (some .boolean) 3 := ⟨by decide +kernel, jq_29_12, jq_1_5⟩
def D_X9_canBe_248 (N : Nat)  (M : Nat → Nat → Int32) (k130 : Int32 → Int32 → Int32 → Int32 → Int32 → Int32 → Int32 → Option Int32) (v1 : Int32) (v3 : Int32) (v4 : Int32) (v5 : Int32) (v6 : Int32) (v7 : Int32) (v8 : Int32) (s0 : Int32) (s1 : Int32) : Option Int32 := (if inb (4 : Int32) 2169 = true then (if (s1 - s0) ≤ ((M 1) (4 : Int32).toNatClampNeg) then (k130  v1 v3 v4 v5 v6 v7 (v8 + 1)) else (some (0 : Int32))) else none)
set_option maxHeartbeats 4000000 in
set_option maxRecDepth 100000 in
theorem B_X9_canBe_248 {p : Program} {l : Launch} {e : Env} {s : State} {m : MethodId} {args : Array Value} {below : List Frame} {meth : Method} {c : Code} {D : va_G} {G : Nat → ClassId} (C : Cx p s m args meth c cX9_canBe 12 RX9 (some .boolean) D G) (N : Nat) (a : Nat → Nat) (M : Nat → Nat → Int32) (r : Int32) (hP : va_P D vwCl (wM a G M) s.heap) (k130 : Int32 → Int32 → Int32 → Int32 → Int32 → Int32 → Int32 → Option Int32) (hk130 : (∀ (v1 : Int32) (v3 : Int32) (v4 : Int32) (v5 : Int32) (v6 : Int32) (v7 : Int32) (v8 : Int32) (ls : Array Slot), lv_has ls 12 [(0, .ref (a 0)), (1, .int v1), (3, .int v3), (4, .int v4), (5, .int v5), (6, .int v6), (7, .int v7), (8, .int v8)] → k130 v1 v3 v4 v5 v6 v7 v8 = some r → W p l e ({ frames := 3, cells := 0, slots := 0, locals := 69 } : Room) s m args below meth c s.heap [] 0 0 (MQ below (QcRd (some (.int r))) args s 0 0 nofree) (F0 m 130 ls []))) : (∀ (v1 : Int32) (v3 : Int32) (v4 : Int32) (v5 : Int32) (v6 : Int32) (v7 : Int32) (v8 : Int32) (s0 : Int32) (s1 : Int32) (ls : Array Slot), lv_has ls 12 [(0, .ref (a 0)), (1, .int v1), (3, .int v3), (4, .int v4), (5, .int v5), (6, .int v6), (7, .int v7), (8, .int v8)] → D_X9_canBe_248 N  M k130 v1 v3 v4 v5 v6 v7 v8 s0 s1 = some r → W p l e ({ frames := 3, cells := 0, slots := 0, locals := 69 } : Room) s m args below meth c s.heap [] 0 0 (MQ below (QcRd (some (.int r))) args s 0 0 nofree) (F0 m 248 ls [.int s0, .int s1])) := by
  have C := C
  obtain ⟨hx, hb, hr, hml, hts, hown, hlocks, hK0⟩ := id C
  have hK := hK0.1
  intro v1 v3 v4 v5 v6 v7 v8 s0 s1 ls hl hV
  rw [D_X9_canBe_248] at hV
  refine lv_isub hx hb dX9_canBe_248 ?_
  refine lv_aload_n hx hb dX9_canBe_249 rfl (lv_at hl 0 rfl) ?_
  refine va_get (D := D) (ci := 11) (v := .ref (a 1)) (C := RX9) (T := TX9) (N := 16) hx hb hts ju_X9 hown hK hP 0 rfl rfl 1 (by decide) (hts _ jq_6_1) (fun _ h9 => h9) rfl dX9_canBe_250 ?_
  refine lv_iconst (v := 4) hx hb dX9_canBe_253 (by decide) ?_
  obtain ⟨g1, hV⟩ := jIf hV
  refine va_iald (D := D) (n := 2169) (f := (M 1)) hx hb hK hP 1 0 rfl rfl (inb_of g1) dX9_canBe_254 ?_
  refine lv_icmp_le (tgt := 260) hx hb dX9_canBe_255 (by decide) (fun c2 => ?_) (fun c2 => ?_)
  · have hV := jT1 hV c2
    refine lv_iinc (v := (v8 + 1)) (lv' := [(8, .int (v8 + 1)), (0, .ref (a 0)), (1, .int v1), (3, .int v3), (4, .int v4), (5, .int v5), (6, .int v6), (7, .int v7)]) hx hb dX9_canBe_260 hl (k := 7) rfl rfl (by decide) rfl (fun ls hl => ?_)
    refine lv_goto (tgt := 130) hx hb dX9_canBe_263 (by decide) ?_
    exact hk130  v1 v3 v4 v5 v6 v7 (v8 + 1) _ (lv_sub hl [1, 2, 3, 4, 5, 6, 7, 0] rfl) hV
  · have hV := jF1 hV c2
    refine lv_iconst (v := 0) hx hb dX9_canBe_258 (by decide) ?_
    exact pRet C rfl dX9_canBe_259 rfl (Option.some.inj hV)
def D_X9_canBe_209 (N : Nat)  (M : Nat → Nat → Int32) (k130 : Int32 → Int32 → Int32 → Int32 → Int32 → Int32 → Int32 → Option Int32) (v1 : Int32) (v3 : Int32) (v4 : Int32) (v5 : Int32) (v6 : Int32) (v7 : Int32) (v8 : Int32) (v9 : Int32) (s0 : Int32) : Option Int32 := ((F_X9_d N M v1 (0 : Int32)).bind (fun r3 => ((F_X9_loadOf N M v8).bind (fun r4 => (if s0 = 0 then (if v9 = 0 then (D_X9_canBe_248 N  M k130  v1 v3 v4 v5 v6 v7 v8 (0 : Int32) (r4 + (0 : Int32))) else (D_X9_canBe_248 N  M k130  v1 v3 v4 v5 v6 v7 v8 r3 (r4 + (0 : Int32)))) else (if v9 = 0 then (D_X9_canBe_248 N  M k130  v1 v3 v4 v5 v6 v7 v8 (0 : Int32) (r4 + r3)) else (D_X9_canBe_248 N  M k130  v1 v3 v4 v5 v6 v7 v8 r3 (r4 + r3))))))))
set_option maxHeartbeats 4000000 in
set_option maxRecDepth 100000 in
theorem B_X9_canBe_209 {p : Program} {l : Launch} {e : Env} {s : State} {m : MethodId} {args : Array Value} {below : List Frame} {meth : Method} {c : Code} {D : va_G} {G : Nat → ClassId} (C : Cx p s m args meth c cX9_canBe 12 RX9 (some .boolean) D G) (N : Nat) (a : Nat → Nat) (M : Nat → Nat → Int32) (r : Int32) (hP : va_P D vwCl (wM a G M) s.heap) (k130 : Int32 → Int32 → Int32 → Int32 → Int32 → Int32 → Int32 → Option Int32) (hk130 : (∀ (v1 : Int32) (v3 : Int32) (v4 : Int32) (v5 : Int32) (v6 : Int32) (v7 : Int32) (v8 : Int32) (ls : Array Slot), lv_has ls 12 [(0, .ref (a 0)), (1, .int v1), (3, .int v3), (4, .int v4), (5, .int v5), (6, .int v6), (7, .int v7), (8, .int v8)] → k130 v1 v3 v4 v5 v6 v7 v8 = some r → W p l e ({ frames := 3, cells := 0, slots := 0, locals := 69 } : Room) s m args below meth c s.heap [] 0 0 (MQ below (QcRd (some (.int r))) args s 0 0 nofree) (F0 m 130 ls []))) : (∀ (v1 : Int32) (v3 : Int32) (v4 : Int32) (v5 : Int32) (v6 : Int32) (v7 : Int32) (v8 : Int32) (v9 : Int32) (s0 : Int32) (ls : Array Slot), lv_has ls 12 [(0, .ref (a 0)), (1, .int v1), (3, .int v3), (4, .int v4), (5, .int v5), (6, .int v6), (7, .int v7), (8, .int v8), (9, .int v9)] → D_X9_canBe_209 N  M k130 v1 v3 v4 v5 v6 v7 v8 v9 s0 = some r → W p l e ({ frames := 3, cells := 0, slots := 0, locals := 69 } : Room) s m args below meth c s.heap [] 0 0 (MQ below (QcRd (some (.int r))) args s 0 0 nofree) (F0 m 209 ls [.int s0])) := by
  have C := C
  obtain ⟨hx, hb, hr, hml, hts, hown, hlocks, hK0⟩ := id C
  have hK := hK0.1
  intro v1 v3 v4 v5 v6 v7 v8 v9 s0 ls hl hV
  rw [D_X9_canBe_209] at hV
  refine lv_istore (lv' := [(10, .int s0), (0, .ref (a 0)), (1, .int v1), (3, .int v3), (4, .int v4), (5, .int v5), (6, .int v6), (7, .int v7), (8, .int v8), (9, .int v9)]) hx hb dX9_canBe_209 hl (by decide) rfl (fun ls hl => ?_)
  refine lv_aload_n hx hb dX9_canBe_211 rfl (lv_at hl 1 rfl) ?_
  refine lv_iload_n hx hb dX9_canBe_212 rfl (lv_at hl 2 rfl) ?_
  refine lv_iconst (v := 0) hx hb dX9_canBe_213 (by decide) ?_
  obtain ⟨r3, hr3, hV⟩ := jBind hV
  refine jVpI C dX9_canBe_214 (k_X9_d l D G a N M v1 (0 : Int32) r3 hr3) jy_X9_d jq_17_2 jq_17_3 jq_17_4 ⟨rfl, rfl, Nat.le_of_ble_eq_true rfl, Nat.le_of_ble_eq_true rfl⟩ ⟨Nat.le_of_ble_eq_true rfl, Nat.le_of_ble_eq_true rfl⟩ hP  (ci := 11) (iw := 0) rfl rfl rfl hl (rest := []) rfl (Nat.le_of_ble_eq_true rfl) ?_
  refine lv_istore (lv' := [(11, .int r3), (10, .int s0), (0, .ref (a 0)), (1, .int v1), (3, .int v3), (4, .int v4), (5, .int v5), (6, .int v6), (7, .int v7), (8, .int v8), (9, .int v9)]) hx hb dX9_canBe_217 hl (by decide) rfl (fun ls hl => ?_)
  refine lv_aload_n hx hb dX9_canBe_219 rfl (lv_at hl 2 rfl) ?_
  refine lv_iload hx hb dX9_canBe_220 (lv_at hl 9 rfl) ?_
  obtain ⟨r4, hr4, hV⟩ := jBind hV
  refine jVpI C dX9_canBe_222 (k_X9_loadOf l D G a N M v8 r4 hr4) jy_X9_loadOf jq_17_16 jq_17_17 jq_17_18 ⟨rfl, rfl, Nat.le_of_ble_eq_true rfl, Nat.le_of_ble_eq_true rfl⟩ ⟨Nat.le_of_ble_eq_true rfl, Nat.le_of_ble_eq_true rfl⟩ hP  (ci := 11) (iw := 0) rfl rfl rfl hl (rest := []) rfl (Nat.le_of_ble_eq_true rfl) ?_
  refine lv_iload hx hb dX9_canBe_225 (lv_at hl 1 rfl) ?_
  refine lv_if_eq (tgt := 235) hx hb dX9_canBe_227 (by decide) (fun c7 => ?_) (fun c7 => ?_)
  · have hV := jT1 hV c7
    refine lv_iconst (v := 0) hx hb dX9_canBe_235 (by decide) ?_
    refine lv_iadd hx hb dX9_canBe_236 ?_
    refine lv_iload hx hb dX9_canBe_237 (lv_at hl 10 rfl) ?_
    refine lv_if_eq (tgt := 247) hx hb dX9_canBe_239 (by decide) (fun c5 => ?_) (fun c5 => ?_)
    · have hV := jT1 hV c5
      refine lv_iconst (v := 0) hx hb dX9_canBe_247 (by decide) ?_
      exact B_X9_canBe_248 C  N a M r hP k130 hk130  v1 v3 v4 v5 v6 v7 v8 (0 : Int32) (r4 + (0 : Int32)) _ (lv_sub hl [2, 3, 4, 5, 6, 7, 8, 9] rfl) hV
    · have hV := jF1 hV c5
      refine lv_iload hx hb dX9_canBe_242 (lv_at hl 0 rfl) ?_
      refine lv_goto (tgt := 248) hx hb dX9_canBe_244 (by decide) ?_
      exact B_X9_canBe_248 C  N a M r hP k130 hk130  v1 v3 v4 v5 v6 v7 v8 r3 (r4 + (0 : Int32)) _ (lv_sub hl [2, 3, 4, 5, 6, 7, 8, 9] rfl) hV
  · have hV := jF1 hV c7
    refine lv_iload hx hb dX9_canBe_230 (lv_at hl 0 rfl) ?_
    refine lv_goto (tgt := 236) hx hb dX9_canBe_232 (by decide) ?_
    refine lv_iadd hx hb dX9_canBe_236 ?_
    refine lv_iload hx hb dX9_canBe_237 (lv_at hl 10 rfl) ?_
    refine lv_if_eq (tgt := 247) hx hb dX9_canBe_239 (by decide) (fun c6 => ?_) (fun c6 => ?_)
    · have hV := jT1 hV c6
      refine lv_iconst (v := 0) hx hb dX9_canBe_247 (by decide) ?_
      exact B_X9_canBe_248 C  N a M r hP k130 hk130  v1 v3 v4 v5 v6 v7 v8 (0 : Int32) (r4 + r3) _ (lv_sub hl [2, 3, 4, 5, 6, 7, 8, 9] rfl) hV
    · have hV := jF1 hV c6
      refine lv_iload hx hb dX9_canBe_242 (lv_at hl 0 rfl) ?_
      refine lv_goto (tgt := 248) hx hb dX9_canBe_244 (by decide) ?_
      exact B_X9_canBe_248 C  N a M r hP k130 hk130  v1 v3 v4 v5 v6 v7 v8 r3 (r4 + r3) _ (lv_sub hl [2, 3, 4, 5, 6, 7, 8, 9] rfl) hV
def D_X9_canBe_172 (N : Nat)  (M : Nat → Nat → Int32) (k130 : Int32 → Int32 → Int32 → Int32 → Int32 → Int32 → Int32 → Option Int32) (v1 : Int32) (v3 : Int32) (v4 : Int32) (v5 : Int32) (v6 : Int32) (v7 : Int32) (v8 : Int32) (s0 : Int32) : Option Int32 := (if v8 < v6 then (D_X9_canBe_209 N  M k130  v1 v3 v4 v5 v6 v7 v8 s0 (0 : Int32)) else (if v7 < v8 then (D_X9_canBe_209 N  M k130  v1 v3 v4 v5 v6 v7 v8 s0 (0 : Int32)) else (if v8 = v3 then (D_X9_canBe_209 N  M k130  v1 v3 v4 v5 v6 v7 v8 s0 (0 : Int32)) else ((F_X9_isOn N M v1 v8).bind (fun r8 => (if r8 = 0 then (D_X9_canBe_209 N  M k130  v1 v3 v4 v5 v6 v7 v8 s0 (1 : Int32)) else (D_X9_canBe_209 N  M k130  v1 v3 v4 v5 v6 v7 v8 s0 (0 : Int32))))))))
set_option maxHeartbeats 4000000 in
set_option maxRecDepth 100000 in
theorem B_X9_canBe_172 {p : Program} {l : Launch} {e : Env} {s : State} {m : MethodId} {args : Array Value} {below : List Frame} {meth : Method} {c : Code} {D : va_G} {G : Nat → ClassId} (C : Cx p s m args meth c cX9_canBe 12 RX9 (some .boolean) D G) (N : Nat) (a : Nat → Nat) (M : Nat → Nat → Int32) (r : Int32) (hP : va_P D vwCl (wM a G M) s.heap) (k130 : Int32 → Int32 → Int32 → Int32 → Int32 → Int32 → Int32 → Option Int32) (hk130 : (∀ (v1 : Int32) (v3 : Int32) (v4 : Int32) (v5 : Int32) (v6 : Int32) (v7 : Int32) (v8 : Int32) (ls : Array Slot), lv_has ls 12 [(0, .ref (a 0)), (1, .int v1), (3, .int v3), (4, .int v4), (5, .int v5), (6, .int v6), (7, .int v7), (8, .int v8)] → k130 v1 v3 v4 v5 v6 v7 v8 = some r → W p l e ({ frames := 3, cells := 0, slots := 0, locals := 69 } : Room) s m args below meth c s.heap [] 0 0 (MQ below (QcRd (some (.int r))) args s 0 0 nofree) (F0 m 130 ls []))) : (∀ (v1 : Int32) (v3 : Int32) (v4 : Int32) (v5 : Int32) (v6 : Int32) (v7 : Int32) (v8 : Int32) (s0 : Int32) (ls : Array Slot), lv_has ls 12 [(0, .ref (a 0)), (1, .int v1), (3, .int v3), (4, .int v4), (5, .int v5), (6, .int v6), (7, .int v7), (8, .int v8)] → D_X9_canBe_172 N  M k130 v1 v3 v4 v5 v6 v7 v8 s0 = some r → W p l e ({ frames := 3, cells := 0, slots := 0, locals := 69 } : Room) s m args below meth c s.heap [] 0 0 (MQ below (QcRd (some (.int r))) args s 0 0 nofree) (F0 m 172 ls [.int s0])) := by
  have C := C
  obtain ⟨hx, hb, hr, hml, hts, hown, hlocks, hK0⟩ := id C
  have hK := hK0.1
  intro v1 v3 v4 v5 v6 v7 v8 s0 ls hl hV
  rw [D_X9_canBe_172] at hV
  refine lv_istore (lv' := [(9, .int s0), (0, .ref (a 0)), (1, .int v1), (3, .int v3), (4, .int v4), (5, .int v5), (6, .int v6), (7, .int v7), (8, .int v8)]) hx hb dX9_canBe_172 hl (by decide) rfl (fun ls hl => ?_)
  refine lv_iload hx hb dX9_canBe_174 (lv_at hl 8 rfl) ?_
  refine lv_iload hx hb dX9_canBe_176 (lv_at hl 6 rfl) ?_
  refine lv_icmp_lt (tgt := 208) hx hb dX9_canBe_178 (by decide) (fun c12 => ?_) (fun c12 => ?_)
  · have hV := jT1 hV c12
    refine lv_iconst (v := 0) hx hb dX9_canBe_208 (by decide) ?_
    exact B_X9_canBe_209 C  N a M r hP k130 hk130  v1 v3 v4 v5 v6 v7 v8 s0 (0 : Int32) _ (lv_sub hl [1, 2, 3, 4, 5, 6, 7, 8, 0] rfl) hV
  · have hV := jF1 hV c12
    refine lv_iload hx hb dX9_canBe_181 (lv_at hl 8 rfl) ?_
    refine lv_iload hx hb dX9_canBe_183 (lv_at hl 7 rfl) ?_
    refine lv_icmp_gt (tgt := 208) hx hb dX9_canBe_185 (by decide) (fun c11 => ?_) (fun c11 => ?_)
    · have hV := jT1 hV c11
      refine lv_iconst (v := 0) hx hb dX9_canBe_208 (by decide) ?_
      exact B_X9_canBe_209 C  N a M r hP k130 hk130  v1 v3 v4 v5 v6 v7 v8 s0 (0 : Int32) _ (lv_sub hl [1, 2, 3, 4, 5, 6, 7, 8, 0] rfl) hV
    · have hV := jF1 hV c11
      refine lv_iload hx hb dX9_canBe_188 (lv_at hl 8 rfl) ?_
      refine lv_iload_n hx hb dX9_canBe_190 rfl (lv_at hl 3 rfl) ?_
      refine lv_icmp_eq (tgt := 208) hx hb dX9_canBe_191 (by decide) (fun c10 => ?_) (fun c10 => ?_)
      · have hV := jT1 hV c10
        refine lv_iconst (v := 0) hx hb dX9_canBe_208 (by decide) ?_
        exact B_X9_canBe_209 C  N a M r hP k130 hk130  v1 v3 v4 v5 v6 v7 v8 s0 (0 : Int32) _ (lv_sub hl [1, 2, 3, 4, 5, 6, 7, 8, 0] rfl) hV
      · have hV := jF1 hV c10
        refine lv_aload_n hx hb dX9_canBe_194 rfl (lv_at hl 1 rfl) ?_
        refine lv_iload_n hx hb dX9_canBe_195 rfl (lv_at hl 2 rfl) ?_
        refine lv_iload hx hb dX9_canBe_196 (lv_at hl 8 rfl) ?_
        obtain ⟨r8, hr8, hV⟩ := jBind hV
        refine jVpI C dX9_canBe_198 (k_X9_isOn l D G a N M v1 v8 r8 hr8) jy_X9_isOn jq_18_4 jq_18_5 jq_18_6 ⟨rfl, rfl, Nat.le_of_ble_eq_true rfl, Nat.le_of_ble_eq_true rfl⟩ ⟨Nat.le_of_ble_eq_true rfl, Nat.le_of_ble_eq_true rfl⟩ hP  (ci := 11) (iw := 0) rfl rfl rfl hl (rest := []) rfl (Nat.le_of_ble_eq_true rfl) ?_
        refine lv_if_ne (tgt := 208) hx hb dX9_canBe_201 (by decide) (fun c9 => ?_) (fun c9 => ?_)
        · have hV := jF1 hV c9
          refine lv_iconst (v := 0) hx hb dX9_canBe_208 (by decide) ?_
          exact B_X9_canBe_209 C  N a M r hP k130 hk130  v1 v3 v4 v5 v6 v7 v8 s0 (0 : Int32) _ (lv_sub hl [1, 2, 3, 4, 5, 6, 7, 8, 0] rfl) hV
        · have hV := jT1 hV c9
          refine lv_iconst (v := 1) hx hb dX9_canBe_204 (by decide) ?_
          refine lv_goto (tgt := 209) hx hb dX9_canBe_205 (by decide) ?_
          exact B_X9_canBe_209 C  N a M r hP k130 hk130  v1 v3 v4 v5 v6 v7 v8 s0 (1 : Int32) _ (lv_sub hl [1, 2, 3, 4, 5, 6, 7, 8, 0] rfl) hV
def D_X9_canBe_130 (N : Nat)  (M : Nat → Nat → Int32) : Nat → Int32 → Int32 → Int32 → Int32 → Int32 → Int32 → Int32 → Option Int32
  | 0, _, _, _, _, _, _, _ => none
  | n + 1, v1, v3, v4, v5, v6, v7, v8 => (if (30 : Int32) ≤ v8 then (some (1 : Int32)) else (if v4 = (-1 : Int32) then (D_X9_canBe_172 N  M (D_X9_canBe_130 N  M  n)  v1 v3 v4 v5 v6 v7 v8 (0 : Int32)) else (if v8 < v4 then (D_X9_canBe_172 N  M (D_X9_canBe_130 N  M  n)  v1 v3 v4 v5 v6 v7 v8 (0 : Int32)) else (if v5 < v8 then (D_X9_canBe_172 N  M (D_X9_canBe_130 N  M  n)  v1 v3 v4 v5 v6 v7 v8 (0 : Int32)) else ((F_X9_isOn N M v1 v8).bind (fun r13 => (if r13 = 0 then (D_X9_canBe_172 N  M (D_X9_canBe_130 N  M  n)  v1 v3 v4 v5 v6 v7 v8 (1 : Int32)) else (D_X9_canBe_172 N  M (D_X9_canBe_130 N  M  n)  v1 v3 v4 v5 v6 v7 v8 (0 : Int32)))))))))
set_option maxHeartbeats 4000000 in
set_option maxRecDepth 100000 in
theorem B_X9_canBe_130 {p : Program} {l : Launch} {e : Env} {s : State} {m : MethodId} {args : Array Value} {below : List Frame} {meth : Method} {c : Code} {D : va_G} {G : Nat → ClassId} (C : Cx p s m args meth c cX9_canBe 12 RX9 (some .boolean) D G) (N : Nat) (a : Nat → Nat) (M : Nat → Nat → Int32) (r : Int32) (hP : va_P D vwCl (wM a G M) s.heap) : (∀ (n : Nat) (v1 : Int32) (v3 : Int32) (v4 : Int32) (v5 : Int32) (v6 : Int32) (v7 : Int32) (v8 : Int32) (ls : Array Slot), lv_has ls 12 [(0, .ref (a 0)), (1, .int v1), (3, .int v3), (4, .int v4), (5, .int v5), (6, .int v6), (7, .int v7), (8, .int v8)] → D_X9_canBe_130 N  M  n v1 v3 v4 v5 v6 v7 v8 = some r → W p l e ({ frames := 3, cells := 0, slots := 0, locals := 69 } : Room) s m args below meth c s.heap [] 0 0 (MQ below (QcRd (some (.int r))) args s 0 0 nofree) (F0 m 130 ls [])) := by
  have C := C
  obtain ⟨hx, hb, hr, hml, hts, hown, hlocks, hK0⟩ := id C
  have hK := hK0.1
  intro n
  induction n with
  | zero =>
    intro v1 v3 v4 v5 v6 v7 v8 ls hl hV
    rw [D_X9_canBe_130] at hV
    cases hV
  | succ n ih =>
    intro v1 v3 v4 v5 v6 v7 v8 ls hl hV
    rw [D_X9_canBe_130] at hV
    refine lv_iload hx hb dX9_canBe_130 (lv_at hl 7 rfl) ?_
    refine lv_bipush (v := 30) hx hb dX9_canBe_132 (by decide) ?_
    refine lv_icmp_ge (tgt := 266) hx hb dX9_canBe_134 (by decide) (fun c18 => ?_) (fun c18 => ?_)
    · have hV := jT1 hV c18
      refine lv_iconst (v := 1) hx hb dX9_canBe_266 (by decide) ?_
      exact pRet C rfl dX9_canBe_267 rfl (Option.some.inj hV)
    · have hV := jF1 hV c18
      refine lv_iload hx hb dX9_canBe_137 (lv_at hl 3 rfl) ?_
      refine lv_iconst (v := -1) hx hb dX9_canBe_139 (by decide) ?_
      refine lv_icmp_eq (tgt := 171) hx hb dX9_canBe_140 (by decide) (fun c17 => ?_) (fun c17 => ?_)
      · have hV := jT1 hV c17
        refine lv_iconst (v := 0) hx hb dX9_canBe_171 (by decide) ?_
        exact B_X9_canBe_172 C  N a M r hP (D_X9_canBe_130 N  M  n) ih  v1 v3 v4 v5 v6 v7 v8 (0 : Int32) _ (lv_sub hl [0, 1, 2, 3, 4, 5, 6, 7] rfl) hV
      · have hV := jF1 hV c17
        refine lv_iload hx hb dX9_canBe_143 (lv_at hl 7 rfl) ?_
        refine lv_iload hx hb dX9_canBe_145 (lv_at hl 3 rfl) ?_
        refine lv_icmp_lt (tgt := 171) hx hb dX9_canBe_147 (by decide) (fun c16 => ?_) (fun c16 => ?_)
        · have hV := jT1 hV c16
          refine lv_iconst (v := 0) hx hb dX9_canBe_171 (by decide) ?_
          exact B_X9_canBe_172 C  N a M r hP (D_X9_canBe_130 N  M  n) ih  v1 v3 v4 v5 v6 v7 v8 (0 : Int32) _ (lv_sub hl [0, 1, 2, 3, 4, 5, 6, 7] rfl) hV
        · have hV := jF1 hV c16
          refine lv_iload hx hb dX9_canBe_150 (lv_at hl 7 rfl) ?_
          refine lv_iload hx hb dX9_canBe_152 (lv_at hl 4 rfl) ?_
          refine lv_icmp_gt (tgt := 171) hx hb dX9_canBe_154 (by decide) (fun c15 => ?_) (fun c15 => ?_)
          · have hV := jT1 hV c15
            refine lv_iconst (v := 0) hx hb dX9_canBe_171 (by decide) ?_
            exact B_X9_canBe_172 C  N a M r hP (D_X9_canBe_130 N  M  n) ih  v1 v3 v4 v5 v6 v7 v8 (0 : Int32) _ (lv_sub hl [0, 1, 2, 3, 4, 5, 6, 7] rfl) hV
          · have hV := jF1 hV c15
            refine lv_aload_n hx hb dX9_canBe_157 rfl (lv_at hl 0 rfl) ?_
            refine lv_iload_n hx hb dX9_canBe_158 rfl (lv_at hl 1 rfl) ?_
            refine lv_iload hx hb dX9_canBe_159 (lv_at hl 7 rfl) ?_
            obtain ⟨r13, hr13, hV⟩ := jBind hV
            refine jVpI C dX9_canBe_161 (k_X9_isOn l D G a N M v1 v8 r13 hr13) jy_X9_isOn jq_18_4 jq_18_5 jq_18_6 ⟨rfl, rfl, Nat.le_of_ble_eq_true rfl, Nat.le_of_ble_eq_true rfl⟩ ⟨Nat.le_of_ble_eq_true rfl, Nat.le_of_ble_eq_true rfl⟩ hP  (ci := 11) (iw := 0) rfl rfl rfl hl (rest := []) rfl (Nat.le_of_ble_eq_true rfl) ?_
            refine lv_if_ne (tgt := 171) hx hb dX9_canBe_164 (by decide) (fun c14 => ?_) (fun c14 => ?_)
            · have hV := jF1 hV c14
              refine lv_iconst (v := 0) hx hb dX9_canBe_171 (by decide) ?_
              exact B_X9_canBe_172 C  N a M r hP (D_X9_canBe_130 N  M  n) ih  v1 v3 v4 v5 v6 v7 v8 (0 : Int32) _ (lv_sub hl [0, 1, 2, 3, 4, 5, 6, 7] rfl) hV
            · have hV := jT1 hV c14
              refine lv_iconst (v := 1) hx hb dX9_canBe_167 (by decide) ?_
              refine lv_goto (tgt := 172) hx hb dX9_canBe_168 (by decide) ?_
              exact B_X9_canBe_172 C  N a M r hP (D_X9_canBe_130 N  M  n) ih  v1 v3 v4 v5 v6 v7 v8 (1 : Int32) _ (lv_sub hl [0, 1, 2, 3, 4, 5, 6, 7] rfl) hV
def D_X9_canBe_111 (N : Nat)  (M : Nat → Nat → Int32) (v1 : Int32) (v3 : Int32) (v4 : Int32) (v5 : Int32) (s0 : Int32) : Option Int32 := (if v3 ≤ v5 then (D_X9_canBe_130 N  M  N  v1 v3 v4 v5 s0 v5 (0 : Int32)) else (D_X9_canBe_130 N  M  N  v1 v3 v4 v5 s0 v3 (0 : Int32)))
set_option maxHeartbeats 4000000 in
set_option maxRecDepth 100000 in
theorem B_X9_canBe_111 {p : Program} {l : Launch} {e : Env} {s : State} {m : MethodId} {args : Array Value} {below : List Frame} {meth : Method} {c : Code} {D : va_G} {G : Nat → ClassId} (C : Cx p s m args meth c cX9_canBe 12 RX9 (some .boolean) D G) (N : Nat) (a : Nat → Nat) (M : Nat → Nat → Int32) (r : Int32) (hP : va_P D vwCl (wM a G M) s.heap) : (∀ (v1 : Int32) (v3 : Int32) (v4 : Int32) (v5 : Int32) (s0 : Int32) (ls : Array Slot), lv_has ls 12 [(0, .ref (a 0)), (1, .int v1), (3, .int v3), (4, .int v4), (5, .int v5)] → D_X9_canBe_111 N  M  v1 v3 v4 v5 s0 = some r → W p l e ({ frames := 3, cells := 0, slots := 0, locals := 69 } : Room) s m args below meth c s.heap [] 0 0 (MQ below (QcRd (some (.int r))) args s 0 0 nofree) (F0 m 111 ls [.int s0])) := by
  have C := C
  obtain ⟨hx, hb, hr, hml, hts, hown, hlocks, hK0⟩ := id C
  have hK := hK0.1
  intro v1 v3 v4 v5 s0 ls hl hV
  rw [D_X9_canBe_111] at hV
  refine lv_istore (lv' := [(6, .int s0), (0, .ref (a 0)), (1, .int v1), (3, .int v3), (4, .int v4), (5, .int v5)]) hx hb dX9_canBe_111 hl (by decide) rfl (fun ls hl => ?_)
  refine lv_iload_n hx hb dX9_canBe_113 rfl (lv_at hl 3 rfl) ?_
  refine lv_iload hx hb dX9_canBe_114 (lv_at hl 5 rfl) ?_
  refine lv_icmp_le (tgt := 123) hx hb dX9_canBe_116 (by decide) (fun c19 => ?_) (fun c19 => ?_)
  · have hV := jT1 hV c19
    refine lv_iload hx hb dX9_canBe_123 (lv_at hl 5 rfl) ?_
    refine lv_istore (lv' := [(7, .int v5), (6, .int s0), (0, .ref (a 0)), (1, .int v1), (3, .int v3), (4, .int v4), (5, .int v5)]) hx hb dX9_canBe_125 hl (by decide) rfl (fun ls hl => ?_)
    refine lv_iconst (v := 0) hx hb dX9_canBe_127 (by decide) ?_
    refine lv_istore (lv' := [(8, .int (0 : Int32)), (7, .int v5), (6, .int s0), (0, .ref (a 0)), (1, .int v1), (3, .int v3), (4, .int v4), (5, .int v5)]) hx hb dX9_canBe_128 hl (by decide) rfl (fun ls hl => ?_)
    exact B_X9_canBe_130 C  N a M r hP   N  v1 v3 v4 v5 s0 v5 (0 : Int32) _ (lv_sub hl [3, 4, 5, 6, 7, 2, 1, 0] rfl) hV
  · have hV := jF1 hV c19
    refine lv_iload_n hx hb dX9_canBe_119 rfl (lv_at hl 3 rfl) ?_
    refine lv_goto (tgt := 125) hx hb dX9_canBe_120 (by decide) ?_
    refine lv_istore (lv' := [(7, .int v3), (6, .int s0), (0, .ref (a 0)), (1, .int v1), (3, .int v3), (4, .int v4), (5, .int v5)]) hx hb dX9_canBe_125 hl (by decide) rfl (fun ls hl => ?_)
    refine lv_iconst (v := 0) hx hb dX9_canBe_127 (by decide) ?_
    refine lv_istore (lv' := [(8, .int (0 : Int32)), (7, .int v3), (6, .int s0), (0, .ref (a 0)), (1, .int v1), (3, .int v3), (4, .int v4), (5, .int v5)]) hx hb dX9_canBe_128 hl (by decide) rfl (fun ls hl => ?_)
    exact B_X9_canBe_130 C  N a M r hP   N  v1 v3 v4 v5 s0 v3 (0 : Int32) _ (lv_sub hl [3, 4, 5, 6, 7, 2, 1, 0] rfl) hV
def D_X9_canBe_3 (N : Nat)  (M : Nat → Nat → Int32) : Nat → Int32 → Int32 → Int32 → Int32 → Option Int32
  | 0, _, _, _, _ => none
  | n + 1, v1, v2, v3, v4 => (if inb (38 : Int32) 2169 = true then (if ((M 1) (38 : Int32).toNatClampNeg) ≤ v4 then ((F_X9_crews N M v3).bind (fun r21 => ((F_X9_d N M v1 (1 : Int32)).bind (fun r22 => (if inb (3 : Int32) 2169 = true then (if (r21 + r22) ≤ ((M 1) (3 : Int32).toNatClampNeg) then ((F_X9_firstOf N M v1).bind (fun r24 => ((F_X9_lastOf N M v1).bind (fun r25 => (if r24 = (-1 : Int32) then (D_X9_canBe_111 N  M   v1 v3 r24 r25 v3) else (if r24 ≤ v3 then (D_X9_canBe_111 N  M   v1 v3 r24 r25 r24) else (D_X9_canBe_111 N  M   v1 v3 r24 r25 v3))))))) else (some (0 : Int32))) else none))))) else ((F_X9_p N M v4 (2 : Int32)).bind (fun r29 => (if r29 = v3 then ((F_X9_p N M v4 (1 : Int32)).bind (fun r30 => (if r30 = v2 then (some (0 : Int32)) else ((F_X9_p N M v4 (0 : Int32)).bind (fun r31 => (if r31 = v1 then (some (0 : Int32)) else (D_X9_canBe_3 N  M  n  v1 v2 v3 (v4 + 1)))))))) else (D_X9_canBe_3 N  M  n  v1 v2 v3 (v4 + 1)))))) else none)
set_option maxHeartbeats 4000000 in
set_option maxRecDepth 100000 in
theorem B_X9_canBe_3 {p : Program} {l : Launch} {e : Env} {s : State} {m : MethodId} {args : Array Value} {below : List Frame} {meth : Method} {c : Code} {D : va_G} {G : Nat → ClassId} (C : Cx p s m args meth c cX9_canBe 12 RX9 (some .boolean) D G) (N : Nat) (a : Nat → Nat) (M : Nat → Nat → Int32) (r : Int32) (hP : va_P D vwCl (wM a G M) s.heap) : (∀ (n : Nat) (v1 : Int32) (v2 : Int32) (v3 : Int32) (v4 : Int32) (ls : Array Slot), lv_has ls 12 [(0, .ref (a 0)), (1, .int v1), (2, .int v2), (3, .int v3), (4, .int v4)] → D_X9_canBe_3 N  M  n v1 v2 v3 v4 = some r → W p l e ({ frames := 3, cells := 0, slots := 0, locals := 69 } : Room) s m args below meth c s.heap [] 0 0 (MQ below (QcRd (some (.int r))) args s 0 0 nofree) (F0 m 3 ls [])) := by
  have C := C
  obtain ⟨hx, hb, hr, hml, hts, hown, hlocks, hK0⟩ := id C
  have hK := hK0.1
  intro n
  induction n with
  | zero =>
    intro v1 v2 v3 v4 ls hl hV
    rw [D_X9_canBe_3] at hV
    cases hV
  | succ n ih =>
    intro v1 v2 v3 v4 ls hl hV
    rw [D_X9_canBe_3] at hV
    refine lv_iload hx hb dX9_canBe_3 (lv_at hl 4 rfl) ?_
    refine lv_aload_n hx hb dX9_canBe_5 rfl (lv_at hl 0 rfl) ?_
    refine va_get (D := D) (ci := 11) (v := .ref (a 1)) (C := RX9) (T := TX9) (N := 16) hx hb hts ju_X9 hown hK hP 0 rfl rfl 1 (by decide) (hts _ jq_6_1) (fun _ h9 => h9) rfl dX9_canBe_6 ?_
    refine lv_bipush (v := 38) hx hb dX9_canBe_9 (by decide) ?_
    obtain ⟨g20, hV⟩ := jIf hV
    refine va_iald (D := D) (n := 2169) (f := (M 1)) hx hb hK hP 1 0 rfl rfl (inb_of g20) dX9_canBe_11 ?_
    refine lv_icmp_ge (tgt := 56) hx hb dX9_canBe_12 (by decide) (fun c35 => ?_) (fun c35 => ?_)
    · have hV := jT1 hV c35
      refine lv_aload_n hx hb dX9_canBe_56 rfl (lv_at hl 0 rfl) ?_
      refine lv_iload_n hx hb dX9_canBe_57 rfl (lv_at hl 3 rfl) ?_
      obtain ⟨r21, hr21, hV⟩ := jBind hV
      refine jVpI C dX9_canBe_58 (k_X9_crews l D G a N M v3 r21 hr21) jy_X9_crews jq_16_22 jq_16_23 jq_17_0 ⟨rfl, rfl, Nat.le_of_ble_eq_true rfl, Nat.le_of_ble_eq_true rfl⟩ ⟨Nat.le_of_ble_eq_true rfl, Nat.le_of_ble_eq_true rfl⟩ hP  (ci := 11) (iw := 0) rfl rfl rfl hl (rest := []) rfl (Nat.le_of_ble_eq_true rfl) ?_
      refine lv_aload_n hx hb dX9_canBe_61 rfl (lv_at hl 0 rfl) ?_
      refine lv_iload_n hx hb dX9_canBe_62 rfl (lv_at hl 1 rfl) ?_
      refine lv_iconst (v := 1) hx hb dX9_canBe_63 (by decide) ?_
      obtain ⟨r22, hr22, hV⟩ := jBind hV
      refine jVpI C dX9_canBe_64 (k_X9_d l D G a N M v1 (1 : Int32) r22 hr22) jy_X9_d jq_17_2 jq_17_3 jq_17_4 ⟨rfl, rfl, Nat.le_of_ble_eq_true rfl, Nat.le_of_ble_eq_true rfl⟩ ⟨Nat.le_of_ble_eq_true rfl, Nat.le_of_ble_eq_true rfl⟩ hP  (ci := 11) (iw := 0) rfl rfl rfl hl (rest := [.int r21]) rfl (Nat.le_of_ble_eq_true rfl) ?_
      refine lv_iadd hx hb dX9_canBe_67 ?_
      refine lv_aload_n hx hb dX9_canBe_68 rfl (lv_at hl 0 rfl) ?_
      refine va_get (D := D) (ci := 11) (v := .ref (a 1)) (C := RX9) (T := TX9) (N := 16) hx hb hts ju_X9 hown hK hP 0 rfl rfl 1 (by decide) (hts _ jq_6_1) (fun _ h9 => h9) rfl dX9_canBe_69 ?_
      refine lv_iconst (v := 3) hx hb dX9_canBe_72 (by decide) ?_
      obtain ⟨g23, hV⟩ := jIf hV
      refine va_iald (D := D) (n := 2169) (f := (M 1)) hx hb hK hP 1 0 rfl rfl (inb_of g23) dX9_canBe_73 ?_
      refine lv_icmp_le (tgt := 79) hx hb dX9_canBe_74 (by decide) (fun c28 => ?_) (fun c28 => ?_)
      · have hV := jT1 hV c28
        refine lv_aload_n hx hb dX9_canBe_79 rfl (lv_at hl 0 rfl) ?_
        refine lv_iload_n hx hb dX9_canBe_80 rfl (lv_at hl 1 rfl) ?_
        obtain ⟨r24, hr24, hV⟩ := jBind hV
        refine jVpI C dX9_canBe_81 (k_X9_firstOf l D G a N M v1 r24 hr24) jy_X9_firstOf jq_17_20 jq_17_21 jq_17_22 ⟨rfl, rfl, Nat.le_of_ble_eq_true rfl, Nat.le_of_ble_eq_true rfl⟩ ⟨Nat.le_of_ble_eq_true rfl, Nat.le_of_ble_eq_true rfl⟩ hP  (ci := 11) (iw := 0) rfl rfl rfl hl (rest := []) rfl (Nat.le_of_ble_eq_true rfl) ?_
        refine lv_istore (lv' := [(4, .int r24), (0, .ref (a 0)), (1, .int v1), (2, .int v2), (3, .int v3)]) hx hb dX9_canBe_84 hl (by decide) rfl (fun ls hl => ?_)
        refine lv_aload_n hx hb dX9_canBe_86 rfl (lv_at hl 1 rfl) ?_
        refine lv_iload_n hx hb dX9_canBe_87 rfl (lv_at hl 2 rfl) ?_
        obtain ⟨r25, hr25, hV⟩ := jBind hV
        refine jVpI C dX9_canBe_88 (k_X9_lastOf l D G a N M v1 r25 hr25) jy_X9_lastOf jq_18_0 jq_18_1 jq_18_2 ⟨rfl, rfl, Nat.le_of_ble_eq_true rfl, Nat.le_of_ble_eq_true rfl⟩ ⟨Nat.le_of_ble_eq_true rfl, Nat.le_of_ble_eq_true rfl⟩ hP  (ci := 11) (iw := 0) rfl rfl rfl hl (rest := []) rfl (Nat.le_of_ble_eq_true rfl) ?_
        refine lv_istore (lv' := [(5, .int r25), (4, .int r24), (0, .ref (a 0)), (1, .int v1), (2, .int v2), (3, .int v3)]) hx hb dX9_canBe_91 hl (by decide) rfl (fun ls hl => ?_)
        refine lv_iload hx hb dX9_canBe_93 (lv_at hl 1 rfl) ?_
        refine lv_iconst (v := -1) hx hb dX9_canBe_95 (by decide) ?_
        refine lv_icmp_eq (tgt := 105) hx hb dX9_canBe_96 (by decide) (fun c27 => ?_) (fun c27 => ?_)
        · have hV := jT1 hV c27
          refine lv_iload_n hx hb dX9_canBe_105 rfl (lv_at hl 5 rfl) ?_
          refine lv_goto (tgt := 111) hx hb dX9_canBe_106 (by decide) ?_
          exact B_X9_canBe_111 C  N a M r hP    v1 v3 r24 r25 v3 _ (lv_sub hl [2, 3, 5, 1, 0] rfl) hV
        · have hV := jF1 hV c27
          refine lv_iload_n hx hb dX9_canBe_99 rfl (lv_at hl 5 rfl) ?_
          refine lv_iload hx hb dX9_canBe_100 (lv_at hl 1 rfl) ?_
          refine lv_icmp_ge (tgt := 109) hx hb dX9_canBe_102 (by decide) (fun c26 => ?_) (fun c26 => ?_)
          · have hV := jT1 hV c26
            refine lv_iload hx hb dX9_canBe_109 (lv_at hl 1 rfl) ?_
            exact B_X9_canBe_111 C  N a M r hP    v1 v3 r24 r25 r24 _ (lv_sub hl [2, 3, 5, 1, 0] rfl) hV
          · have hV := jF1 hV c26
            refine lv_iload_n hx hb dX9_canBe_105 rfl (lv_at hl 5 rfl) ?_
            refine lv_goto (tgt := 111) hx hb dX9_canBe_106 (by decide) ?_
            exact B_X9_canBe_111 C  N a M r hP    v1 v3 r24 r25 v3 _ (lv_sub hl [2, 3, 5, 1, 0] rfl) hV
      · have hV := jF1 hV c28
        refine lv_iconst (v := 0) hx hb dX9_canBe_77 (by decide) ?_
        exact pRet C rfl dX9_canBe_78 rfl (Option.some.inj hV)
    · have hV := jF1 hV c35
      refine lv_aload_n hx hb dX9_canBe_15 rfl (lv_at hl 0 rfl) ?_
      refine lv_iload hx hb dX9_canBe_16 (lv_at hl 4 rfl) ?_
      refine lv_iconst (v := 2) hx hb dX9_canBe_18 (by decide) ?_
      obtain ⟨r29, hr29, hV⟩ := jBind hV
      refine jVpI C dX9_canBe_19 (k_X9_p l D G a N M v4 (2 : Int32) r29 hr29) jy_X9_p jq_13_4 jq_13_5 jq_13_6 ⟨rfl, rfl, Nat.le_of_ble_eq_true rfl, Nat.le_of_ble_eq_true rfl⟩ ⟨Nat.le_of_ble_eq_true rfl, Nat.le_of_ble_eq_true rfl⟩ hP  (ci := 11) (iw := 0) rfl rfl rfl hl (rest := []) rfl (Nat.le_of_ble_eq_true rfl) ?_
      refine lv_iload_n hx hb dX9_canBe_22 rfl (lv_at hl 3 rfl) ?_
      refine lv_icmp_ne (tgt := 50) hx hb dX9_canBe_23 (by decide) (fun c34 => ?_) (fun c34 => ?_)
      · have hV := jF1 hV c34
        refine lv_iinc (v := (v4 + 1)) (lv' := [(4, .int (v4 + 1)), (0, .ref (a 0)), (1, .int v1), (2, .int v2), (3, .int v3)]) hx hb dX9_canBe_50 hl (k := 4) rfl rfl (by decide) rfl (fun ls hl => ?_)
        refine lv_goto (tgt := 3) hx hb dX9_canBe_53 (by decide) ?_
        exact ih  v1 v2 v3 (v4 + 1) _ (lv_sub hl [1, 2, 3, 4, 0] rfl) hV
      · have hV := jT1 hV c34
        refine lv_aload_n hx hb dX9_canBe_26 rfl (lv_at hl 0 rfl) ?_
        refine lv_iload hx hb dX9_canBe_27 (lv_at hl 4 rfl) ?_
        refine lv_iconst (v := 1) hx hb dX9_canBe_29 (by decide) ?_
        obtain ⟨r30, hr30, hV⟩ := jBind hV
        refine jVpI C dX9_canBe_30 (k_X9_p l D G a N M v4 (1 : Int32) r30 hr30) jy_X9_p jq_13_4 jq_13_5 jq_13_6 ⟨rfl, rfl, Nat.le_of_ble_eq_true rfl, Nat.le_of_ble_eq_true rfl⟩ ⟨Nat.le_of_ble_eq_true rfl, Nat.le_of_ble_eq_true rfl⟩ hP  (ci := 11) (iw := 0) rfl rfl rfl hl (rest := []) rfl (Nat.le_of_ble_eq_true rfl) ?_
        refine lv_iload_n hx hb dX9_canBe_33 rfl (lv_at hl 2 rfl) ?_
        refine lv_icmp_eq (tgt := 48) hx hb dX9_canBe_34 (by decide) (fun c33 => ?_) (fun c33 => ?_)
        · have hV := jT1 hV c33
          refine lv_iconst (v := 0) hx hb dX9_canBe_48 (by decide) ?_
          exact pRet C rfl dX9_canBe_49 rfl (Option.some.inj hV)
        · have hV := jF1 hV c33
          refine lv_aload_n hx hb dX9_canBe_37 rfl (lv_at hl 0 rfl) ?_
          refine lv_iload hx hb dX9_canBe_38 (lv_at hl 4 rfl) ?_
          refine lv_iconst (v := 0) hx hb dX9_canBe_40 (by decide) ?_
          obtain ⟨r31, hr31, hV⟩ := jBind hV
          refine jVpI C dX9_canBe_41 (k_X9_p l D G a N M v4 (0 : Int32) r31 hr31) jy_X9_p jq_13_4 jq_13_5 jq_13_6 ⟨rfl, rfl, Nat.le_of_ble_eq_true rfl, Nat.le_of_ble_eq_true rfl⟩ ⟨Nat.le_of_ble_eq_true rfl, Nat.le_of_ble_eq_true rfl⟩ hP  (ci := 11) (iw := 0) rfl rfl rfl hl (rest := []) rfl (Nat.le_of_ble_eq_true rfl) ?_
          refine lv_iload_n hx hb dX9_canBe_44 rfl (lv_at hl 1 rfl) ?_
          refine lv_icmp_ne (tgt := 50) hx hb dX9_canBe_45 (by decide) (fun c32 => ?_) (fun c32 => ?_)
          · have hV := jF1 hV c32
            refine lv_iinc (v := (v4 + 1)) (lv' := [(4, .int (v4 + 1)), (0, .ref (a 0)), (1, .int v1), (2, .int v2), (3, .int v3)]) hx hb dX9_canBe_50 hl (k := 4) rfl rfl (by decide) rfl (fun ls hl => ?_)
            refine lv_goto (tgt := 3) hx hb dX9_canBe_53 (by decide) ?_
            exact ih  v1 v2 v3 (v4 + 1) _ (lv_sub hl [1, 2, 3, 4, 0] rfl) hV
          · have hV := jT1 hV c32
            refine lv_iconst (v := 0) hx hb dX9_canBe_48 (by decide) ?_
            exact pRet C rfl dX9_canBe_49 rfl (Option.some.inj hV)
def F_X9_canBe (N : Nat)  (M : Nat → Nat → Int32) (v1 v2 v3 : Int32) : Option Int32 := (D_X9_canBe_3 N  M  N  v1 v2 v3 (0 : Int32))
set_option maxHeartbeats 4000000 in
set_option maxRecDepth 100000 in
theorem k_X9_canBe (l : Launch) (D : va_G) (G : Nat → ClassId) (a : Nat → Nat) (N : Nat) (M : Nat → Nat → Int32) (v1 v2 v3 : Int32) (r : Int32) (hV : F_X9_canBe N  M v1 v2 v3 = some r) : pM l yX9_canBe (jws yX9_canBe cX9_canBe 12 (some .boolean)) ({ frames := 3, cells := 0, slots := 0, locals := 69 } : Room) [.ref (a 0), .int v1, .int v2, .int v3] D G (wM a G M) (some (.int r)) := by
  refine pM_of (by decide +kernel) (Nat.le_of_ble_eq_true rfl) (fun p e s m args below meth c ls C hP hl => ?_)
  have C : Cx p s m args meth c cX9_canBe 12 RX9 (some .boolean) D G := C
  obtain ⟨hx, hb, hr, hml, hts, hown, hlocks, hK0⟩ := id C
  have hK := hK0.1
  have hl : lv_has ls 12 [(0, .ref (a 0)), (1, .int v1), (2, .int v2), (3, .int v3)] := hl
  rw [F_X9_canBe] at hV
  refine lv_iconst (v := 0) hx hb dX9_canBe_0 (by decide) ?_
  refine lv_istore (lv' := [(4, .int (0 : Int32)), (0, .ref (a 0)), (1, .int v1), (2, .int v2), (3, .int v3)]) hx hb dX9_canBe_1 hl (by decide) rfl (fun ls hl => ?_)
  exact B_X9_canBe_3 C  N a M r hP   N  v1 v2 v3 (0 : Int32) _ (lv_sub hl [1, 2, 3, 4, 0] rfl) hV
theorem jy_X9_nextDate : jY yX9_nextDate cX9_nextDate 5 (some .int) 3 := ⟨by decide +kernel, jq_29_8, jq_1_5⟩
def D_X9_nextDate_47 (N : Nat)  : Nat → (Nat → Nat → Int32) → Int32 → Int32 → Int32 → Option (Int32 × (Nat → Nat → Int32))
  | 0, _, _, _, _ => none
  | n + 1, M, v1, v2, v4 => (if (30 : Int32) ≤ v4 then (jlet (stF M 0 (3 : Int32)) (fun M1 => (some ((0 : Int32), M1)))) else ((F_X9_canBe N M v1 v2 v4).bind (fun r3 => (if r3 = 0 then (D_X9_nextDate_47 N   n M v1 v2 (v4 + 1)) else (some (v4, M))))))
set_option maxHeartbeats 4000000 in
set_option maxRecDepth 100000 in
theorem B_X9_nextDate_47 {p : Program} {l : Launch} {e : Env} {s : State} {m : MethodId} {args : Array Value} {below : List Frame} {meth : Method} {c : Code} {D : va_G} {G : Nat → ClassId} {A : Nat → Prop} (C : Cx p s m args meth c cX9_nextDate 5 RX9 (some .int) D G) (hA : ∀ q : Nat, s.heap.size ≤ q → A q) (N : Nat) (a : Nat → Nat) (r : (Int32 × (Nat → Nat → Int32))) : (∀ (n : Nat) (M : Nat → Nat → Int32) (v1 : Int32) (v2 : Int32) (v4 : Int32) (ls : Array Slot) (H : Heap) (locs : List Loc), va_P D vwCl (wM a G M) H → va_D A (wM a G M) → va_S A s.heap H locs → lv_has ls 5 [(0, .ref (a 0)), (1, .int v1), (2, .int v2), (4, .int v4)] → D_X9_nextDate_47 N   n M v1 v2 v4 = some r → W p l e ({ frames := 4, cells := 0, slots := 0, locals := 100 } : Room) s m args below meth c H locs 0 0 (MQ below (mQ D (wM a G r.2) (some (.int r.1)) A) args s 0 0 A) (F0 m 47 ls [])) := by
  have C := C
  obtain ⟨hx, hb, hr, hml, hts, hown, hlocks, hK0⟩ := id C
  have hK := hK0.1
  intro n
  induction n with
  | zero =>
    intro M v1 v2 v4 ls H locs hP hD hS hl hV
    rw [D_X9_nextDate_47] at hV
    cases hV
  | succ n ih =>
    intro M v1 v2 v4 ls H locs hP hD hS hl hV
    rw [D_X9_nextDate_47] at hV
    refine lv_iload hx hb dX9_nextDate_47 (lv_at hl 3 rfl) ?_
    refine lv_bipush (v := 30) hx hb dX9_nextDate_49 (by decide) ?_
    refine lv_icmp_ge (tgt := 74) hx hb dX9_nextDate_51 (by decide) (fun c5 => ?_) (fun c5 => ?_)
    · have hV := jT1 hV c5
      refine lv_aload_n hx hb dX9_nextDate_74 rfl (lv_at hl 0 rfl) ?_
      refine lv_iconst (v := 3) hx hb dX9_nextDate_75 (by decide) ?_
      refine va_put (D := D) (ci := 11) (v := .int (3 : Int32)) (ty := .int) (C := RX9) (T := TX9) (N := 16) hx hb hts ju_X9 tyX9 tyX9_ok nmX9 hown hK hP hD hS 0 rfl rfl 0 (by decide) (hts _ jq_15_2) (fun _ h9 => h9) rfl (by decide +kernel) rfl rfl (Nat.le_of_ble_eq_true rfl) dX9_nextDate_76 (fun H locs hP hD hS => ?_)
      obtain ⟨M1, e2, hV⟩ := jLet hV
      have hP : va_P D vwCl (wM a G M1) H := by rw [e2]; exact hP
      have hD : va_D A (wM a G M1) := by rw [e2]; exact hD
      refine lv_iconst (v := 0) hx hb dX9_nextDate_79 (by decide) ?_
      cases hV
      exact mRet C rfl dX9_nextDate_80 rfl rfl hP hS
    · have hV := jF1 hV c5
      refine lv_aload_n hx hb dX9_nextDate_54 rfl (lv_at hl 0 rfl) ?_
      refine lv_iload_n hx hb dX9_nextDate_55 rfl (lv_at hl 1 rfl) ?_
      refine lv_iload_n hx hb dX9_nextDate_56 rfl (lv_at hl 2 rfl) ?_
      refine lv_iload hx hb dX9_nextDate_57 (lv_at hl 3 rfl) ?_
      obtain ⟨r3, hr3, hV⟩ := jBind hV
      refine jVpI C dX9_nextDate_59 (k_X9_canBe l D G a N M v1 v2 v4 r3 hr3) jy_X9_canBe jq_29_9 jq_29_10 jq_29_11 ⟨rfl, rfl, Nat.le_of_ble_eq_true rfl, Nat.le_of_ble_eq_true rfl⟩ ⟨Nat.le_of_ble_eq_true rfl, Nat.le_of_ble_eq_true rfl⟩ hP  (ci := 11) (iw := 0) rfl rfl rfl hl (rest := []) rfl (Nat.le_of_ble_eq_true rfl) ?_
      refine lv_if_eq (tgt := 68) hx hb dX9_nextDate_62 (by decide) (fun c4 => ?_) (fun c4 => ?_)
      · have hV := jT1 hV c4
        refine lv_iinc (v := (v4 + 1)) (lv' := [(4, .int (v4 + 1)), (0, .ref (a 0)), (1, .int v1), (2, .int v2)]) hx hb dX9_nextDate_68 hl (k := 3) rfl rfl (by decide) rfl (fun ls hl => ?_)
        refine lv_goto (tgt := 47) hx hb dX9_nextDate_71 (by decide) ?_
        exact ih M v1 v2 (v4 + 1) _ _ _ hP hD hS (lv_sub hl [1, 2, 3, 0] rfl) hV
      · have hV := jF1 hV c4
        refine lv_iload hx hb dX9_nextDate_65 (lv_at hl 3 rfl) ?_
        cases hV
        exact mRet C rfl dX9_nextDate_67 rfl rfl hP hS
def D_X9_nextDate_16 (N : Nat)  (M : Nat → Nat → Int32) (v1 : Int32) (v2 : Int32) (v3 : Int32) : Option (Int32 × (Nat → Nat → Int32)) := (jlet (stF M 0 (1 : Int32)) (fun M6 => (if (M6 0 0) = 0 then (D_X9_nextDate_47 N   N M6 v1 v2 v3) else (some ((0 : Int32), M6)))))
set_option maxHeartbeats 4000000 in
set_option maxRecDepth 100000 in
theorem B_X9_nextDate_16 {p : Program} {l : Launch} {e : Env} {s : State} {m : MethodId} {args : Array Value} {below : List Frame} {meth : Method} {c : Code} {D : va_G} {G : Nat → ClassId} {A : Nat → Prop} (C : Cx p s m args meth c cX9_nextDate 5 RX9 (some .int) D G) (hA : ∀ q : Nat, s.heap.size ≤ q → A q) (N : Nat) (a : Nat → Nat) (r : (Int32 × (Nat → Nat → Int32))) : (∀ (M : Nat → Nat → Int32) (v1 : Int32) (v2 : Int32) (v3 : Int32) (ls : Array Slot) (H : Heap) (locs : List Loc), va_P D vwCl (wM a G M) H → va_D A (wM a G M) → va_S A s.heap H locs → lv_has ls 5 [(0, .ref (a 0)), (1, .int v1), (2, .int v2), (3, .int v3)] → D_X9_nextDate_16 N   M v1 v2 v3 = some r → W p l e ({ frames := 4, cells := 0, slots := 0, locals := 100 } : Room) s m args below meth c H locs 0 0 (MQ below (mQ D (wM a G r.2) (some (.int r.1)) A) args s 0 0 A) (F0 m 16 ls [.ref (a 0)])) := by
  have C := C
  obtain ⟨hx, hb, hr, hml, hts, hown, hlocks, hK0⟩ := id C
  have hK := hK0.1
  intro M v1 v2 v3 ls H locs hP hD hS hl hV
  rw [D_X9_nextDate_16] at hV
  refine lv_iconst (v := 1) hx hb dX9_nextDate_16 (by decide) ?_
  refine lv_goto (tgt := 32) hx hb dX9_nextDate_17 (by decide) ?_
  refine va_put (D := D) (ci := 11) (v := .int (1 : Int32)) (ty := .int) (C := RX9) (T := TX9) (N := 16) hx hb hts ju_X9 tyX9 tyX9_ok nmX9 hown hK hP hD hS 0 rfl rfl 0 (by decide) (hts _ jq_15_2) (fun _ h9 => h9) rfl (by decide +kernel) rfl rfl (Nat.le_of_ble_eq_true rfl) dX9_nextDate_32 (fun H locs hP hD hS => ?_)
  obtain ⟨M6, e8, hV⟩ := jLet hV
  have hP : va_P D vwCl (wM a G M6) H := by rw [e8]; exact hP
  have hD : va_D A (wM a G M6) := by rw [e8]; exact hD
  refine lv_aload_n hx hb dX9_nextDate_35 rfl (lv_at hl 0 rfl) ?_
  refine va_get (D := D) (ci := 11) (v := .int (M6 0 0)) (C := RX9) (T := TX9) (N := 16) hx hb hts ju_X9 hown hK hP 0 rfl rfl 0 (by decide) (hts _ jq_15_2) (fun _ h9 => h9) rfl dX9_nextDate_36 ?_
  refine lv_if_eq (tgt := 44) hx hb dX9_nextDate_39 (by decide) (fun c7 => ?_) (fun c7 => ?_)
  · have hV := jT1 hV c7
    refine lv_iload_n hx hb dX9_nextDate_44 rfl (lv_at hl 3 rfl) ?_
    refine lv_istore (lv' := [(4, .int v3), (0, .ref (a 0)), (1, .int v1), (2, .int v2), (3, .int v3)]) hx hb dX9_nextDate_45 hl (by decide) rfl (fun ls hl => ?_)
    exact B_X9_nextDate_47 C hA N a r   N M6 v1 v2 v3 _ _ _ hP hD hS (lv_sub hl [1, 2, 3, 0] rfl) hV
  · have hV := jF1 hV c7
    refine lv_iconst (v := 0) hx hb dX9_nextDate_42 (by decide) ?_
    cases hV
    exact mRet C rfl dX9_nextDate_43 rfl rfl hP hS
def F_X9_nextDate (N : Nat)  (M : Nat → Nat → Int32) (v1 v2 v3 : Int32) : Option (Int32 × (Nat → Nat → Int32)) := ((F_X9_isProduction N M v1).bind (fun r9 => (if r9 = 0 then (D_X9_nextDate_16 N   M v1 v2 v3) else ((F_X9_isStage N  v2).bind (fun r10 => (if r10 = 0 then (D_X9_nextDate_16 N   M v1 v2 v3) else ((F_X9_isDate N  v3).bind (fun r11 => (if r11 = 0 then (jlet (stF M 0 (2 : Int32)) (fun M12 => (if (M12 0 0) = 0 then (D_X9_nextDate_47 N   N M12 v1 v2 v3) else (some ((0 : Int32), M12))))) else (jlet (stF M 0 (0 : Int32)) (fun M15 => (if (M15 0 0) = 0 then (D_X9_nextDate_47 N   N M15 v1 v2 v3) else (some ((0 : Int32), M15))))))))))))))
set_option maxHeartbeats 4000000 in
set_option maxRecDepth 100000 in
theorem k_X9_nextDate (l : Launch) (D : va_G) (G : Nat → ClassId) (a : Nat → Nat) (N : Nat) (M : Nat → Nat → Int32) (v1 v2 v3 : Int32) (r : (Int32 × (Nat → Nat → Int32))) (hV : F_X9_nextDate N  M v1 v2 v3 = some r) : mM l yX9_nextDate (jws yX9_nextDate cX9_nextDate 5 (some .int)) ({ frames := 4, cells := 0, slots := 0, locals := 100 } : Room) [.ref (a 0), .int v1, .int v2, .int v3] D G (wM a G M) (wM a G r.2) (some (.int r.1)) := by
  refine mM_of (by decide +kernel) (Nat.le_of_ble_eq_true rfl) (fun p e s m args below meth c ls A C hP hD hA hl => ?_)
  have C : Cx p s m args meth c cX9_nextDate 5 RX9 (some .int) D G := C
  have hS : va_S A s.heap s.heap [] := va_S.rf
  obtain ⟨hx, hb, hr, hml, hts, hown, hlocks, hK0⟩ := id C
  have hK := hK0.1
  have hl : lv_has ls 5 [(0, .ref (a 0)), (1, .int v1), (2, .int v2), (3, .int v3)] := hl
  rw [F_X9_nextDate] at hV
  refine lv_aload_n hx hb dX9_nextDate_0 rfl (lv_at hl 0 rfl) ?_
  refine lv_aload_n hx hb dX9_nextDate_1 rfl (lv_at hl 0 rfl) ?_
  refine lv_iload_n hx hb dX9_nextDate_2 rfl (lv_at hl 1 rfl) ?_
  obtain ⟨r9, hr9, hV⟩ := jBind hV
  refine jVpI C dX9_nextDate_3 (k_X9_isProduction l D G a N M v1 r9 hr9) jy_X9_isProduction jq_22_1 jq_22_2 jq_22_3 ⟨rfl, rfl, Nat.le_of_ble_eq_true rfl, Nat.le_of_ble_eq_true rfl⟩ ⟨Nat.le_of_ble_eq_true rfl, Nat.le_of_ble_eq_true rfl⟩ hP  (ci := 11) (iw := 0) rfl rfl rfl hl (rest := [.ref (a 0)]) rfl (Nat.le_of_ble_eq_true rfl) ?_
  refine lv_if_eq (tgt := 16) hx hb dX9_nextDate_6 (by decide) (fun c20 => ?_) (fun c20 => ?_)
  · have hV := jT1 hV c20
    exact B_X9_nextDate_16 C hA N a r   M v1 v2 v3 _ _ _ hP hD hS (lv_sub hl [0, 1, 2, 3] rfl) hV
  · have hV := jF1 hV c20
    refine lv_iload_n hx hb dX9_nextDate_9 rfl (lv_at hl 2 rfl) ?_
    obtain ⟨r10, hr10, hV⟩ := jBind hV
    refine jSpI C dX9_nextDate_10 (k_X9_isStage l D G  N  v2 r10 hr10) jy_X9_isStage jq_12_22 jq_12_23 ⟨rfl, rfl, Nat.le_of_ble_eq_true rfl, Nat.le_of_ble_eq_true rfl⟩ ⟨Nat.le_of_ble_eq_true rfl, Nat.le_of_ble_eq_true rfl⟩ jE  hl (rest := [.ref (a 0)]) rfl (Nat.le_of_ble_eq_true rfl) ?_
    refine lv_if_ne (tgt := 20) hx hb dX9_nextDate_13 (by decide) (fun c19 => ?_) (fun c19 => ?_)
    · have hV := jF1 hV c19
      refine lv_iload_n hx hb dX9_nextDate_20 rfl (lv_at hl 3 rfl) ?_
      obtain ⟨r11, hr11, hV⟩ := jBind hV
      refine jSpI C dX9_nextDate_21 (k_X9_isDate l D G  N  v3 r11 hr11) jy_X9_isDate jq_24_8 jq_24_9 ⟨rfl, rfl, Nat.le_of_ble_eq_true rfl, Nat.le_of_ble_eq_true rfl⟩ ⟨Nat.le_of_ble_eq_true rfl, Nat.le_of_ble_eq_true rfl⟩ jE  hl (rest := [.ref (a 0)]) rfl (Nat.le_of_ble_eq_true rfl) ?_
      refine lv_if_eq (tgt := 31) hx hb dX9_nextDate_24 (by decide) (fun c18 => ?_) (fun c18 => ?_)
      · have hV := jT1 hV c18
        refine lv_iconst (v := 2) hx hb dX9_nextDate_31 (by decide) ?_
        refine va_put (D := D) (ci := 11) (v := .int (2 : Int32)) (ty := .int) (C := RX9) (T := TX9) (N := 16) hx hb hts ju_X9 tyX9 tyX9_ok nmX9 hown hK hP hD hS 0 rfl rfl 0 (by decide) (hts _ jq_15_2) (fun _ h9 => h9) rfl (by decide +kernel) rfl rfl (Nat.le_of_ble_eq_true rfl) dX9_nextDate_32 (fun H locs hP hD hS => ?_)
        obtain ⟨M12, e14, hV⟩ := jLet hV
        have hP : va_P D vwCl (wM a G M12) H := by rw [e14]; exact hP
        have hD : va_D A (wM a G M12) := by rw [e14]; exact hD
        refine lv_aload_n hx hb dX9_nextDate_35 rfl (lv_at hl 0 rfl) ?_
        refine va_get (D := D) (ci := 11) (v := .int (M12 0 0)) (C := RX9) (T := TX9) (N := 16) hx hb hts ju_X9 hown hK hP 0 rfl rfl 0 (by decide) (hts _ jq_15_2) (fun _ h9 => h9) rfl dX9_nextDate_36 ?_
        refine lv_if_eq (tgt := 44) hx hb dX9_nextDate_39 (by decide) (fun c13 => ?_) (fun c13 => ?_)
        · have hV := jT1 hV c13
          refine lv_iload_n hx hb dX9_nextDate_44 rfl (lv_at hl 3 rfl) ?_
          refine lv_istore (lv' := [(4, .int v3), (0, .ref (a 0)), (1, .int v1), (2, .int v2), (3, .int v3)]) hx hb dX9_nextDate_45 hl (by decide) rfl (fun ls hl => ?_)
          exact B_X9_nextDate_47 C hA N a r   N M12 v1 v2 v3 _ _ _ hP hD hS (lv_sub hl [1, 2, 3, 0] rfl) hV
        · have hV := jF1 hV c13
          refine lv_iconst (v := 0) hx hb dX9_nextDate_42 (by decide) ?_
          cases hV
          exact mRet C rfl dX9_nextDate_43 rfl rfl hP hS
      · have hV := jF1 hV c18
        refine lv_iconst (v := 0) hx hb dX9_nextDate_27 (by decide) ?_
        refine lv_goto (tgt := 32) hx hb dX9_nextDate_28 (by decide) ?_
        refine va_put (D := D) (ci := 11) (v := .int (0 : Int32)) (ty := .int) (C := RX9) (T := TX9) (N := 16) hx hb hts ju_X9 tyX9 tyX9_ok nmX9 hown hK hP hD hS 0 rfl rfl 0 (by decide) (hts _ jq_15_2) (fun _ h9 => h9) rfl (by decide +kernel) rfl rfl (Nat.le_of_ble_eq_true rfl) dX9_nextDate_32 (fun H locs hP hD hS => ?_)
        obtain ⟨M15, e17, hV⟩ := jLet hV
        have hP : va_P D vwCl (wM a G M15) H := by rw [e17]; exact hP
        have hD : va_D A (wM a G M15) := by rw [e17]; exact hD
        refine lv_aload_n hx hb dX9_nextDate_35 rfl (lv_at hl 0 rfl) ?_
        refine va_get (D := D) (ci := 11) (v := .int (M15 0 0)) (C := RX9) (T := TX9) (N := 16) hx hb hts ju_X9 hown hK hP 0 rfl rfl 0 (by decide) (hts _ jq_15_2) (fun _ h9 => h9) rfl dX9_nextDate_36 ?_
        refine lv_if_eq (tgt := 44) hx hb dX9_nextDate_39 (by decide) (fun c16 => ?_) (fun c16 => ?_)
        · have hV := jT1 hV c16
          refine lv_iload_n hx hb dX9_nextDate_44 rfl (lv_at hl 3 rfl) ?_
          refine lv_istore (lv' := [(4, .int v3), (0, .ref (a 0)), (1, .int v1), (2, .int v2), (3, .int v3)]) hx hb dX9_nextDate_45 hl (by decide) rfl (fun ls hl => ?_)
          exact B_X9_nextDate_47 C hA N a r   N M15 v1 v2 v3 _ _ _ hP hD hS (lv_sub hl [1, 2, 3, 0] rfl) hV
        · have hV := jF1 hV c16
          refine lv_iconst (v := 0) hx hb dX9_nextDate_42 (by decide) ?_
          cases hV
          exact mRet C rfl dX9_nextDate_43 rfl rfl hP hS
    · have hV := jT1 hV c19
      exact B_X9_nextDate_16 C hA N a r   M v1 v2 v3 _ _ _ hP hD hS (lv_sub hl [0, 1, 2, 3] rfl) hV
theorem jy_X9_bestMove : jY yX9_bestMove cX9_bestMove 7 (some .int) 1 := ⟨by decide +kernel, jq_30_10, jq_1_5⟩
def D_X9_bestMove_41 (N : Nat)  : Nat → (Nat → Nat → Int32) → Int32 → Int32 → Int32 → Int32 → Int32 → Option (Int32 × (Nat → Nat → Int32))
  | 0, _, _, _, _, _, _ => none
  | n + 1, M, v1, v2, v3, v4, v5 => (if (30 : Int32) ≤ v5 then (if inb (((39 : Int32) + ((4 : Int32) * v1)) + (2 : Int32)) 2169 = true then (jlet (stA M 1 (((39 : Int32) + ((4 : Int32) * v1)) + (2 : Int32)) v2) (fun M2 => (if v3 = (-1 : Int32) then (jlet (stF M2 0 (2 : Int32)) (fun M6 => (if (M6 0 0) = 0 then (some (v3, M6)) else (some ((0 : Int32), M6))))) else (jlet (stF M2 0 (0 : Int32)) (fun M3 => (if (M3 0 0) = 0 then (some (v3, M3)) else (some ((0 : Int32), M3)))))))) else none) else (if inb (((39 : Int32) + ((4 : Int32) * v1)) + (2 : Int32)) 2169 = true then (jlet (stA M 1 (((39 : Int32) + ((4 : Int32) * v1)) + (2 : Int32)) v5) (fun M12 => (if v5 = v2 then (D_X9_bestMove_41 N   n M12 v1 v2 v3 v4 (v5 + 1)) else ((F_X9_hinders N M12 v1).bind (fun r13 => (if r13.1 = 0 then ((F_X9_peakNow N r13.2 ).bind (fun r14 => (if v3 = (-1 : Int32) then (D_X9_bestMove_41 N   n r13.2 v1 v2 v5 r14 (v5 + 1)) else (if v4 ≤ r14 then (D_X9_bestMove_41 N   n r13.2 v1 v2 v3 v4 (v5 + 1)) else (D_X9_bestMove_41 N   n r13.2 v1 v2 v5 r14 (v5 + 1)))))) else (D_X9_bestMove_41 N   n r13.2 v1 v2 v3 v4 (v5 + 1)))))))) else none))
set_option maxHeartbeats 4000000 in
set_option maxRecDepth 100000 in
theorem B_X9_bestMove_41 {p : Program} {l : Launch} {e : Env} {s : State} {m : MethodId} {args : Array Value} {below : List Frame} {meth : Method} {c : Code} {D : va_G} {G : Nat → ClassId} {A : Nat → Prop} (C : Cx p s m args meth c cX9_bestMove 7 RX9 (some .int) D G) (hA : ∀ q : Nat, s.heap.size ≤ q → A q) (N : Nat) (a : Nat → Nat) (r : (Int32 × (Nat → Nat → Int32))) : (∀ (n : Nat) (M : Nat → Nat → Int32) (v1 : Int32) (v2 : Int32) (v3 : Int32) (v4 : Int32) (v5 : Int32) (ls : Array Slot) (H : Heap) (locs : List Loc), va_P D vwCl (wM a G M) H → va_D A (wM a G M) → va_S A s.heap H locs → lv_has ls 7 [(0, .ref (a 0)), (1, .int v1), (2, .int v2), (3, .int v3), (4, .int v4), (5, .int v5)] → D_X9_bestMove_41 N   n M v1 v2 v3 v4 v5 = some r → W p l e ({ frames := 5, cells := 0, slots := 0, locals := 113 } : Room) s m args below meth c H locs 0 0 (MQ below (mQ D (wM a G r.2) (some (.int r.1)) A) args s 0 0 A) (F0 m 41 ls [])) := by
  have C := C
  obtain ⟨hx, hb, hr, hml, hts, hown, hlocks, hK0⟩ := id C
  have hK := hK0.1
  intro n
  induction n with
  | zero =>
    intro M v1 v2 v3 v4 v5 ls H locs hP hD hS hl hV
    rw [D_X9_bestMove_41] at hV
    cases hV
  | succ n ih =>
    intro M v1 v2 v3 v4 v5 ls H locs hP hD hS hl hV
    rw [D_X9_bestMove_41] at hV
    refine lv_iload hx hb dX9_bestMove_41 (lv_at hl 5 rfl) ?_
    refine lv_bipush (v := 30) hx hb dX9_bestMove_43 (by decide) ?_
    refine lv_icmp_ge (tgt := 111) hx hb dX9_bestMove_45 (by decide) (fun c20 => ?_) (fun c20 => ?_)
    · have hV := jT1 hV c20
      refine lv_aload_n hx hb dX9_bestMove_111 rfl (lv_at hl 0 rfl) ?_
      refine va_get (D := D) (ci := 11) (v := .ref (a 1)) (C := RX9) (T := TX9) (N := 16) hx hb hts ju_X9 hown hK hP 0 rfl rfl 1 (by decide) (hts _ jq_6_1) (fun _ h9 => h9) rfl dX9_bestMove_112 ?_
      refine lv_bipush (v := 39) hx hb dX9_bestMove_115 (by decide) ?_
      refine lv_iconst (v := 4) hx hb dX9_bestMove_117 (by decide) ?_
      refine lv_iload_n hx hb dX9_bestMove_118 rfl (lv_at hl 1 rfl) ?_
      refine lv_imul hx hb dX9_bestMove_119 ?_
      refine lv_iadd hx hb dX9_bestMove_120 ?_
      refine lv_iconst (v := 2) hx hb dX9_bestMove_121 (by decide) ?_
      refine lv_iadd hx hb dX9_bestMove_122 ?_
      refine lv_iload_n hx hb dX9_bestMove_123 rfl (lv_at hl 2 rfl) ?_
      obtain ⟨g1, hV⟩ := jIf hV
      refine va_iast (D := D) (n := 2169) (f := (M 1)) hx hb hK hP hD hS 1 0 rfl rfl (inb_of g1) dX9_bestMove_124 (fun H locs hP hD hS => ?_)
      obtain ⟨M2, e10, hV⟩ := jLet hV
      have hP : va_P D vwCl (wM a G M2) H := by rw [e10]; exact hP
      have hD : va_D A (wM a G M2) := by rw [e10]; exact hD
      refine lv_aload_n hx hb dX9_bestMove_125 rfl (lv_at hl 0 rfl) ?_
      refine lv_iload_n hx hb dX9_bestMove_126 rfl (lv_at hl 3 rfl) ?_
      refine lv_iconst (v := -1) hx hb dX9_bestMove_127 (by decide) ?_
      refine lv_icmp_ne (tgt := 135) hx hb dX9_bestMove_128 (by decide) (fun c9 => ?_) (fun c9 => ?_)
      · have hV := jF1 hV c9
        refine lv_iconst (v := 0) hx hb dX9_bestMove_135 (by decide) ?_
        refine va_put (D := D) (ci := 11) (v := .int (0 : Int32)) (ty := .int) (C := RX9) (T := TX9) (N := 16) hx hb hts ju_X9 tyX9 tyX9_ok nmX9 hown hK hP hD hS 0 rfl rfl 0 (by decide) (hts _ jq_15_2) (fun _ h9 => h9) rfl (by decide +kernel) rfl rfl (Nat.le_of_ble_eq_true rfl) dX9_bestMove_136 (fun H locs hP hD hS => ?_)
        obtain ⟨M3, e5, hV⟩ := jLet hV
        have hP : va_P D vwCl (wM a G M3) H := by rw [e5]; exact hP
        have hD : va_D A (wM a G M3) := by rw [e5]; exact hD
        refine lv_aload_n hx hb dX9_bestMove_139 rfl (lv_at hl 0 rfl) ?_
        refine va_get (D := D) (ci := 11) (v := .int (M3 0 0)) (C := RX9) (T := TX9) (N := 16) hx hb hts ju_X9 hown hK hP 0 rfl rfl 0 (by decide) (hts _ jq_15_2) (fun _ h9 => h9) rfl dX9_bestMove_140 ?_
        refine lv_if_ne (tgt := 150) hx hb dX9_bestMove_143 (by decide) (fun c4 => ?_) (fun c4 => ?_)
        · have hV := jF1 hV c4
          refine lv_iconst (v := 0) hx hb dX9_bestMove_150 (by decide) ?_
          cases hV
          exact mRet C rfl dX9_bestMove_151 rfl rfl hP hS
        · have hV := jT1 hV c4
          refine lv_iload_n hx hb dX9_bestMove_146 rfl (lv_at hl 3 rfl) ?_
          refine lv_goto (tgt := 151) hx hb dX9_bestMove_147 (by decide) ?_
          cases hV
          exact mRet C rfl dX9_bestMove_151 rfl rfl hP hS
      · have hV := jT1 hV c9
        refine lv_iconst (v := 2) hx hb dX9_bestMove_131 (by decide) ?_
        refine lv_goto (tgt := 136) hx hb dX9_bestMove_132 (by decide) ?_
        refine va_put (D := D) (ci := 11) (v := .int (2 : Int32)) (ty := .int) (C := RX9) (T := TX9) (N := 16) hx hb hts ju_X9 tyX9 tyX9_ok nmX9 hown hK hP hD hS 0 rfl rfl 0 (by decide) (hts _ jq_15_2) (fun _ h9 => h9) rfl (by decide +kernel) rfl rfl (Nat.le_of_ble_eq_true rfl) dX9_bestMove_136 (fun H locs hP hD hS => ?_)
        obtain ⟨M6, e8, hV⟩ := jLet hV
        have hP : va_P D vwCl (wM a G M6) H := by rw [e8]; exact hP
        have hD : va_D A (wM a G M6) := by rw [e8]; exact hD
        refine lv_aload_n hx hb dX9_bestMove_139 rfl (lv_at hl 0 rfl) ?_
        refine va_get (D := D) (ci := 11) (v := .int (M6 0 0)) (C := RX9) (T := TX9) (N := 16) hx hb hts ju_X9 hown hK hP 0 rfl rfl 0 (by decide) (hts _ jq_15_2) (fun _ h9 => h9) rfl dX9_bestMove_140 ?_
        refine lv_if_ne (tgt := 150) hx hb dX9_bestMove_143 (by decide) (fun c7 => ?_) (fun c7 => ?_)
        · have hV := jF1 hV c7
          refine lv_iconst (v := 0) hx hb dX9_bestMove_150 (by decide) ?_
          cases hV
          exact mRet C rfl dX9_bestMove_151 rfl rfl hP hS
        · have hV := jT1 hV c7
          refine lv_iload_n hx hb dX9_bestMove_146 rfl (lv_at hl 3 rfl) ?_
          refine lv_goto (tgt := 151) hx hb dX9_bestMove_147 (by decide) ?_
          cases hV
          exact mRet C rfl dX9_bestMove_151 rfl rfl hP hS
    · have hV := jF1 hV c20
      refine lv_aload_n hx hb dX9_bestMove_48 rfl (lv_at hl 0 rfl) ?_
      refine va_get (D := D) (ci := 11) (v := .ref (a 1)) (C := RX9) (T := TX9) (N := 16) hx hb hts ju_X9 hown hK hP 0 rfl rfl 1 (by decide) (hts _ jq_6_1) (fun _ h9 => h9) rfl dX9_bestMove_49 ?_
      refine lv_bipush (v := 39) hx hb dX9_bestMove_52 (by decide) ?_
      refine lv_iconst (v := 4) hx hb dX9_bestMove_54 (by decide) ?_
      refine lv_iload_n hx hb dX9_bestMove_55 rfl (lv_at hl 1 rfl) ?_
      refine lv_imul hx hb dX9_bestMove_56 ?_
      refine lv_iadd hx hb dX9_bestMove_57 ?_
      refine lv_iconst (v := 2) hx hb dX9_bestMove_58 (by decide) ?_
      refine lv_iadd hx hb dX9_bestMove_59 ?_
      refine lv_iload hx hb dX9_bestMove_60 (lv_at hl 5 rfl) ?_
      obtain ⟨g11, hV⟩ := jIf hV
      refine va_iast (D := D) (n := 2169) (f := (M 1)) hx hb hK hP hD hS 1 0 rfl rfl (inb_of g11) dX9_bestMove_62 (fun H locs hP hD hS => ?_)
      obtain ⟨M12, e19, hV⟩ := jLet hV
      have hP : va_P D vwCl (wM a G M12) H := by rw [e19]; exact hP
      have hD : va_D A (wM a G M12) := by rw [e19]; exact hD
      refine lv_iload hx hb dX9_bestMove_63 (lv_at hl 5 rfl) ?_
      refine lv_iload_n hx hb dX9_bestMove_65 rfl (lv_at hl 2 rfl) ?_
      refine lv_icmp_eq (tgt := 105) hx hb dX9_bestMove_66 (by decide) (fun c18 => ?_) (fun c18 => ?_)
      · have hV := jT1 hV c18
        refine lv_iinc (v := (v5 + 1)) (lv' := [(5, .int (v5 + 1)), (0, .ref (a 0)), (1, .int v1), (2, .int v2), (3, .int v3), (4, .int v4)]) hx hb dX9_bestMove_105 hl (k := 5) rfl rfl (by decide) rfl (fun ls hl => ?_)
        refine lv_goto (tgt := 41) hx hb dX9_bestMove_108 (by decide) ?_
        exact ih M12 v1 v2 v3 v4 (v5 + 1) _ _ _ hP hD hS (lv_sub hl [1, 2, 3, 4, 5, 0] rfl) hV
      · have hV := jF1 hV c18
        refine lv_aload_n hx hb dX9_bestMove_69 rfl (lv_at hl 0 rfl) ?_
        refine lv_iload_n hx hb dX9_bestMove_70 rfl (lv_at hl 1 rfl) ?_
        obtain ⟨r13, hr13, hV⟩ := jBind hV
        refine jVmI C dX9_bestMove_71 (k_X9_hinders l D G a N M12 v1 r13 hr13) jy_X9_hinders jq_24_15 jq_24_16 jq_24_17 ⟨rfl, rfl, Nat.le_of_ble_eq_true rfl, Nat.le_of_ble_eq_true rfl⟩ ⟨Nat.le_of_ble_eq_true rfl, Nat.le_of_ble_eq_true rfl⟩ hP hD hA hS (ci := 11) (iw := 0) rfl rfl rfl hl (rest := []) rfl (Nat.le_of_ble_eq_true rfl) (fun H locs hQ hz hkp hS => ?_)
        have hP : va_P D vwCl (wM a G r13.2) H := hQ
        have hD : va_D A (wM a G r13.2) := jD (w := (wM a G M12)) rfl hD
        refine lv_if_eq (tgt := 80) hx hb dX9_bestMove_74 (by decide) (fun c17 => ?_) (fun c17 => ?_)
        · have hV := jT1 hV c17
          refine lv_aload_n hx hb dX9_bestMove_80 rfl (lv_at hl 0 rfl) ?_
          obtain ⟨r14, hr14, hV⟩ := jBind hV
          refine jVpI C dX9_bestMove_81 (k_X9_peakNow l D G a N r13.2  r14 hr14) jy_X9_peakNow jq_30_11 jq_30_12 jq_30_13 ⟨rfl, rfl, Nat.le_of_ble_eq_true rfl, Nat.le_of_ble_eq_true rfl⟩ ⟨Nat.le_of_ble_eq_true rfl, Nat.le_of_ble_eq_true rfl⟩ hP  (ci := 11) (iw := 0) rfl rfl rfl hl (rest := []) rfl (Nat.le_of_ble_eq_true rfl) ?_
          refine lv_istore (lv' := [(6, .int r14), (0, .ref (a 0)), (1, .int v1), (2, .int v2), (3, .int v3), (4, .int v4), (5, .int v5)]) hx hb dX9_bestMove_84 hl (by decide) rfl (fun ls hl => ?_)
          refine lv_iload_n hx hb dX9_bestMove_86 rfl (lv_at hl 4 rfl) ?_
          refine lv_iconst (v := -1) hx hb dX9_bestMove_87 (by decide) ?_
          refine lv_icmp_eq (tgt := 98) hx hb dX9_bestMove_88 (by decide) (fun c16 => ?_) (fun c16 => ?_)
          · have hV := jT1 hV c16
            refine lv_iload hx hb dX9_bestMove_98 (lv_at hl 6 rfl) ?_
            refine lv_istore_n (lv' := [(3, .int v5), (6, .int r14), (0, .ref (a 0)), (1, .int v1), (2, .int v2), (4, .int v4), (5, .int v5)]) hx hb dX9_bestMove_100 rfl hl (by decide) rfl (fun ls hl => ?_)
            refine lv_iload hx hb dX9_bestMove_101 (lv_at hl 1 rfl) ?_
            refine lv_istore (lv' := [(4, .int r14), (3, .int v5), (6, .int r14), (0, .ref (a 0)), (1, .int v1), (2, .int v2), (5, .int v5)]) hx hb dX9_bestMove_103 hl (by decide) rfl (fun ls hl => ?_)
            refine lv_iinc (v := (v5 + 1)) (lv' := [(5, .int (v5 + 1)), (4, .int r14), (3, .int v5), (6, .int r14), (0, .ref (a 0)), (1, .int v1), (2, .int v2)]) hx hb dX9_bestMove_105 hl (k := 6) rfl rfl (by decide) rfl (fun ls hl => ?_)
            refine lv_goto (tgt := 41) hx hb dX9_bestMove_108 (by decide) ?_
            exact ih r13.2 v1 v2 v5 r14 (v5 + 1) _ _ _ hP hD hS (lv_sub hl [4, 5, 6, 2, 1, 0] rfl) hV
          · have hV := jF1 hV c16
            refine lv_iload hx hb dX9_bestMove_91 (lv_at hl 0 rfl) ?_
            refine lv_iload hx hb dX9_bestMove_93 (lv_at hl 5 rfl) ?_
            refine lv_icmp_ge (tgt := 105) hx hb dX9_bestMove_95 (by decide) (fun c15 => ?_) (fun c15 => ?_)
            · have hV := jT1 hV c15
              refine lv_iinc (v := (v5 + 1)) (lv' := [(5, .int (v5 + 1)), (6, .int r14), (0, .ref (a 0)), (1, .int v1), (2, .int v2), (3, .int v3), (4, .int v4)]) hx hb dX9_bestMove_105 hl (k := 6) rfl rfl (by decide) rfl (fun ls hl => ?_)
              refine lv_goto (tgt := 41) hx hb dX9_bestMove_108 (by decide) ?_
              exact ih r13.2 v1 v2 v3 v4 (v5 + 1) _ _ _ hP hD hS (lv_sub hl [2, 3, 4, 5, 6, 0] rfl) hV
            · have hV := jF1 hV c15
              refine lv_iload hx hb dX9_bestMove_98 (lv_at hl 6 rfl) ?_
              refine lv_istore_n (lv' := [(3, .int v5), (6, .int r14), (0, .ref (a 0)), (1, .int v1), (2, .int v2), (4, .int v4), (5, .int v5)]) hx hb dX9_bestMove_100 rfl hl (by decide) rfl (fun ls hl => ?_)
              refine lv_iload hx hb dX9_bestMove_101 (lv_at hl 1 rfl) ?_
              refine lv_istore (lv' := [(4, .int r14), (3, .int v5), (6, .int r14), (0, .ref (a 0)), (1, .int v1), (2, .int v2), (5, .int v5)]) hx hb dX9_bestMove_103 hl (by decide) rfl (fun ls hl => ?_)
              refine lv_iinc (v := (v5 + 1)) (lv' := [(5, .int (v5 + 1)), (4, .int r14), (3, .int v5), (6, .int r14), (0, .ref (a 0)), (1, .int v1), (2, .int v2)]) hx hb dX9_bestMove_105 hl (k := 6) rfl rfl (by decide) rfl (fun ls hl => ?_)
              refine lv_goto (tgt := 41) hx hb dX9_bestMove_108 (by decide) ?_
              exact ih r13.2 v1 v2 v5 r14 (v5 + 1) _ _ _ hP hD hS (lv_sub hl [4, 5, 6, 2, 1, 0] rfl) hV
        · have hV := jF1 hV c17
          refine lv_goto (tgt := 105) hx hb dX9_bestMove_77 (by decide) ?_
          refine lv_iinc (v := (v5 + 1)) (lv' := [(5, .int (v5 + 1)), (0, .ref (a 0)), (1, .int v1), (2, .int v2), (3, .int v3), (4, .int v4)]) hx hb dX9_bestMove_105 hl (k := 5) rfl rfl (by decide) rfl (fun ls hl => ?_)
          refine lv_goto (tgt := 41) hx hb dX9_bestMove_108 (by decide) ?_
          exact ih r13.2 v1 v2 v3 v4 (v5 + 1) _ _ _ hP hD hS (lv_sub hl [1, 2, 3, 4, 5, 0] rfl) hV
def D_X9_bestMove_14 (N : Nat)  (M : Nat → Nat → Int32) (v1 : Int32) (s0 : Int32) : Option (Int32 × (Nat → Nat → Int32)) := (jlet (stF M 0 s0) (fun M21 => (if (M21 0 0) = 0 then ((F_X9_p N M21 v1 (2 : Int32)).bind (fun r22 => (D_X9_bestMove_41 N   N M21 v1 r22 (-1 : Int32) (0 : Int32) (0 : Int32)))) else (some ((0 : Int32), M21)))))
set_option maxHeartbeats 4000000 in
set_option maxRecDepth 100000 in
theorem B_X9_bestMove_14 {p : Program} {l : Launch} {e : Env} {s : State} {m : MethodId} {args : Array Value} {below : List Frame} {meth : Method} {c : Code} {D : va_G} {G : Nat → ClassId} {A : Nat → Prop} (C : Cx p s m args meth c cX9_bestMove 7 RX9 (some .int) D G) (hA : ∀ q : Nat, s.heap.size ≤ q → A q) (N : Nat) (a : Nat → Nat) (r : (Int32 × (Nat → Nat → Int32))) : (∀ (M : Nat → Nat → Int32) (v1 : Int32) (s0 : Int32) (ls : Array Slot) (H : Heap) (locs : List Loc), va_P D vwCl (wM a G M) H → va_D A (wM a G M) → va_S A s.heap H locs → lv_has ls 7 [(0, .ref (a 0)), (1, .int v1)] → D_X9_bestMove_14 N   M v1 s0 = some r → W p l e ({ frames := 5, cells := 0, slots := 0, locals := 113 } : Room) s m args below meth c H locs 0 0 (MQ below (mQ D (wM a G r.2) (some (.int r.1)) A) args s 0 0 A) (F0 m 14 ls [.int s0, .ref (a 0)])) := by
  have C := C
  obtain ⟨hx, hb, hr, hml, hts, hown, hlocks, hK0⟩ := id C
  have hK := hK0.1
  intro M v1 s0 ls H locs hP hD hS hl hV
  rw [D_X9_bestMove_14] at hV
  refine va_put (D := D) (ci := 11) (v := .int s0) (ty := .int) (C := RX9) (T := TX9) (N := 16) hx hb hts ju_X9 tyX9 tyX9_ok nmX9 hown hK hP hD hS 0 rfl rfl 0 (by decide) (hts _ jq_15_2) (fun _ h9 => h9) rfl (by decide +kernel) rfl rfl (Nat.le_of_ble_eq_true rfl) dX9_bestMove_14 (fun H locs hP hD hS => ?_)
  obtain ⟨M21, e24, hV⟩ := jLet hV
  have hP : va_P D vwCl (wM a G M21) H := by rw [e24]; exact hP
  have hD : va_D A (wM a G M21) := by rw [e24]; exact hD
  refine lv_aload_n hx hb dX9_bestMove_17 rfl (lv_at hl 0 rfl) ?_
  refine va_get (D := D) (ci := 11) (v := .int (M21 0 0)) (C := RX9) (T := TX9) (N := 16) hx hb hts ju_X9 hown hK hP 0 rfl rfl 0 (by decide) (hts _ jq_15_2) (fun _ h9 => h9) rfl dX9_bestMove_18 ?_
  refine lv_if_eq (tgt := 26) hx hb dX9_bestMove_21 (by decide) (fun c23 => ?_) (fun c23 => ?_)
  · have hV := jT1 hV c23
    refine lv_aload_n hx hb dX9_bestMove_26 rfl (lv_at hl 0 rfl) ?_
    refine lv_iload_n hx hb dX9_bestMove_27 rfl (lv_at hl 1 rfl) ?_
    refine lv_iconst (v := 2) hx hb dX9_bestMove_28 (by decide) ?_
    obtain ⟨r22, hr22, hV⟩ := jBind hV
    refine jVpI C dX9_bestMove_29 (k_X9_p l D G a N M21 v1 (2 : Int32) r22 hr22) jy_X9_p jq_13_4 jq_13_5 jq_13_6 ⟨rfl, rfl, Nat.le_of_ble_eq_true rfl, Nat.le_of_ble_eq_true rfl⟩ ⟨Nat.le_of_ble_eq_true rfl, Nat.le_of_ble_eq_true rfl⟩ hP  (ci := 11) (iw := 0) rfl rfl rfl hl (rest := []) rfl (Nat.le_of_ble_eq_true rfl) ?_
    refine lv_istore_n (lv' := [(2, .int r22), (0, .ref (a 0)), (1, .int v1)]) hx hb dX9_bestMove_32 rfl hl (by decide) rfl (fun ls hl => ?_)
    refine lv_iconst (v := -1) hx hb dX9_bestMove_33 (by decide) ?_
    refine lv_istore_n (lv' := [(3, .int (-1 : Int32)), (2, .int r22), (0, .ref (a 0)), (1, .int v1)]) hx hb dX9_bestMove_34 rfl hl (by decide) rfl (fun ls hl => ?_)
    refine lv_iconst (v := 0) hx hb dX9_bestMove_35 (by decide) ?_
    refine lv_istore (lv' := [(4, .int (0 : Int32)), (3, .int (-1 : Int32)), (2, .int r22), (0, .ref (a 0)), (1, .int v1)]) hx hb dX9_bestMove_36 hl (by decide) rfl (fun ls hl => ?_)
    refine lv_iconst (v := 0) hx hb dX9_bestMove_38 (by decide) ?_
    refine lv_istore (lv' := [(5, .int (0 : Int32)), (4, .int (0 : Int32)), (3, .int (-1 : Int32)), (2, .int r22), (0, .ref (a 0)), (1, .int v1)]) hx hb dX9_bestMove_39 hl (by decide) rfl (fun ls hl => ?_)
    exact B_X9_bestMove_41 C hA N a r   N M21 v1 r22 (-1 : Int32) (0 : Int32) (0 : Int32) _ _ _ hP hD hS (lv_sub hl [4, 5, 3, 2, 1, 0] rfl) hV
  · have hV := jF1 hV c23
    refine lv_iconst (v := 0) hx hb dX9_bestMove_24 (by decide) ?_
    cases hV
    exact mRet C rfl dX9_bestMove_25 rfl rfl hP hS
def F_X9_bestMove (N : Nat)  (M : Nat → Nat → Int32) (v1 : Int32) : Option (Int32 × (Nat → Nat → Int32)) := ((F_X9_isPerformance N M v1).bind (fun r25 => (if r25 = 0 then (D_X9_bestMove_14 N   M v1 (1 : Int32)) else (D_X9_bestMove_14 N   M v1 (0 : Int32)))))
set_option maxHeartbeats 4000000 in
set_option maxRecDepth 100000 in
theorem k_X9_bestMove (l : Launch) (D : va_G) (G : Nat → ClassId) (a : Nat → Nat) (N : Nat) (M : Nat → Nat → Int32) (v1 : Int32) (r : (Int32 × (Nat → Nat → Int32))) (hV : F_X9_bestMove N  M v1 = some r) : mM l yX9_bestMove (jws yX9_bestMove cX9_bestMove 7 (some .int)) ({ frames := 5, cells := 0, slots := 0, locals := 113 } : Room) [.ref (a 0), .int v1] D G (wM a G M) (wM a G r.2) (some (.int r.1)) := by
  refine mM_of (by decide +kernel) (Nat.le_of_ble_eq_true rfl) (fun p e s m args below meth c ls A C hP hD hA hl => ?_)
  have C : Cx p s m args meth c cX9_bestMove 7 RX9 (some .int) D G := C
  have hS : va_S A s.heap s.heap [] := va_S.rf
  obtain ⟨hx, hb, hr, hml, hts, hown, hlocks, hK0⟩ := id C
  have hK := hK0.1
  have hl : lv_has ls 7 [(0, .ref (a 0)), (1, .int v1)] := hl
  rw [F_X9_bestMove] at hV
  refine lv_aload_n hx hb dX9_bestMove_0 rfl (lv_at hl 0 rfl) ?_
  refine lv_aload_n hx hb dX9_bestMove_1 rfl (lv_at hl 0 rfl) ?_
  refine lv_iload_n hx hb dX9_bestMove_2 rfl (lv_at hl 1 rfl) ?_
  obtain ⟨r25, hr25, hV⟩ := jBind hV
  refine jVpI C dX9_bestMove_3 (k_X9_isPerformance l D G a N M v1 r25 hr25) jy_X9_isPerformance jq_26_1 jq_26_2 jq_26_3 ⟨rfl, rfl, Nat.le_of_ble_eq_true rfl, Nat.le_of_ble_eq_true rfl⟩ ⟨Nat.le_of_ble_eq_true rfl, Nat.le_of_ble_eq_true rfl⟩ hP  (ci := 11) (iw := 0) rfl rfl rfl hl (rest := [.ref (a 0)]) rfl (Nat.le_of_ble_eq_true rfl) ?_
  refine lv_if_eq (tgt := 13) hx hb dX9_bestMove_6 (by decide) (fun c26 => ?_) (fun c26 => ?_)
  · have hV := jT1 hV c26
    refine lv_iconst (v := 1) hx hb dX9_bestMove_13 (by decide) ?_
    exact B_X9_bestMove_14 C hA N a r   M v1 (1 : Int32) _ _ _ hP hD hS (lv_sub hl [0, 1] rfl) hV
  · have hV := jF1 hV c26
    refine lv_iconst (v := 0) hx hb dX9_bestMove_9 (by decide) ?_
    refine lv_goto (tgt := 14) hx hb dX9_bestMove_10 (by decide) ?_
    exact B_X9_bestMove_14 C hA N a r   M v1 (0 : Int32) _ _ _ hP hD hS (lv_sub hl [0, 1] rfl) hV
theorem jy_X9_load : jY yX9_load cX9_load 2 (some .int) 1 := ⟨by decide +kernel, jq_31_2, jq_1_5⟩
def D_X9_load_13 (N : Nat)  (M : Nat → Nat → Int32) (v1 : Int32) (s0 : Int32) : Option (Int32 × (Nat → Nat → Int32)) := (jlet (stF M 0 s0) (fun M1 => (if (M1 0 0) = 0 then ((F_X9_loadOf N M1 v1).bind (fun r2 => (some (r2, M1)))) else (some ((0 : Int32), M1)))))
set_option maxHeartbeats 4000000 in
set_option maxRecDepth 100000 in
theorem B_X9_load_13 {p : Program} {l : Launch} {e : Env} {s : State} {m : MethodId} {args : Array Value} {below : List Frame} {meth : Method} {c : Code} {D : va_G} {G : Nat → ClassId} {A : Nat → Prop} (C : Cx p s m args meth c cX9_load 2 RX9 (some .int) D G) (hA : ∀ q : Nat, s.heap.size ≤ q → A q) (N : Nat) (a : Nat → Nat) (r : (Int32 × (Nat → Nat → Int32))) : (∀ (M : Nat → Nat → Int32) (v1 : Int32) (s0 : Int32) (ls : Array Slot) (H : Heap) (locs : List Loc), va_P D vwCl (wM a G M) H → va_D A (wM a G M) → va_S A s.heap H locs → lv_has ls 2 [(0, .ref (a 0)), (1, .int v1)] → D_X9_load_13 N   M v1 s0 = some r → W p l e ({ frames := 3, cells := 0, slots := 0, locals := 69 } : Room) s m args below meth c H locs 0 0 (MQ below (mQ D (wM a G r.2) (some (.int r.1)) A) args s 0 0 A) (F0 m 13 ls [.int s0, .ref (a 0)])) := by
  have C := C
  obtain ⟨hx, hb, hr, hml, hts, hown, hlocks, hK0⟩ := id C
  have hK := hK0.1
  intro M v1 s0 ls H locs hP hD hS hl hV
  rw [D_X9_load_13] at hV
  refine va_put (D := D) (ci := 11) (v := .int s0) (ty := .int) (C := RX9) (T := TX9) (N := 16) hx hb hts ju_X9 tyX9 tyX9_ok nmX9 hown hK hP hD hS 0 rfl rfl 0 (by decide) (hts _ jq_15_2) (fun _ h9 => h9) rfl (by decide +kernel) rfl rfl (Nat.le_of_ble_eq_true rfl) dX9_load_13 (fun H locs hP hD hS => ?_)
  obtain ⟨M1, e4, hV⟩ := jLet hV
  have hP : va_P D vwCl (wM a G M1) H := by rw [e4]; exact hP
  have hD : va_D A (wM a G M1) := by rw [e4]; exact hD
  refine lv_aload_n hx hb dX9_load_16 rfl (lv_at hl 0 rfl) ?_
  refine va_get (D := D) (ci := 11) (v := .int (M1 0 0)) (C := RX9) (T := TX9) (N := 16) hx hb hts ju_X9 hown hK hP 0 rfl rfl 0 (by decide) (hts _ jq_15_2) (fun _ h9 => h9) rfl dX9_load_17 ?_
  refine lv_if_ne (tgt := 31) hx hb dX9_load_20 (by decide) (fun c3 => ?_) (fun c3 => ?_)
  · have hV := jF1 hV c3
    refine lv_iconst (v := 0) hx hb dX9_load_31 (by decide) ?_
    cases hV
    exact mRet C rfl dX9_load_32 rfl rfl hP hS
  · have hV := jT1 hV c3
    refine lv_aload_n hx hb dX9_load_23 rfl (lv_at hl 0 rfl) ?_
    refine lv_iload_n hx hb dX9_load_24 rfl (lv_at hl 1 rfl) ?_
    obtain ⟨r2, hr2, hV⟩ := jBind hV
    refine jVpI C dX9_load_25 (k_X9_loadOf l D G a N M1 v1 r2 hr2) jy_X9_loadOf jq_17_16 jq_17_17 jq_17_18 ⟨rfl, rfl, Nat.le_of_ble_eq_true rfl, Nat.le_of_ble_eq_true rfl⟩ ⟨Nat.le_of_ble_eq_true rfl, Nat.le_of_ble_eq_true rfl⟩ hP  (ci := 11) (iw := 0) rfl rfl rfl hl (rest := []) rfl (Nat.le_of_ble_eq_true rfl) ?_
    refine lv_goto (tgt := 32) hx hb dX9_load_28 (by decide) ?_
    cases hV
    exact mRet C rfl dX9_load_32 rfl rfl hP hS
def F_X9_load (N : Nat)  (M : Nat → Nat → Int32) (v1 : Int32) : Option (Int32 × (Nat → Nat → Int32)) := ((F_X9_isDate N  v1).bind (fun r5 => (if r5 = 0 then (D_X9_load_13 N   M v1 (1 : Int32)) else (D_X9_load_13 N   M v1 (0 : Int32)))))
set_option maxHeartbeats 4000000 in
set_option maxRecDepth 100000 in
theorem k_X9_load (l : Launch) (D : va_G) (G : Nat → ClassId) (a : Nat → Nat) (N : Nat) (M : Nat → Nat → Int32) (v1 : Int32) (r : (Int32 × (Nat → Nat → Int32))) (hV : F_X9_load N  M v1 = some r) : mM l yX9_load (jws yX9_load cX9_load 2 (some .int)) ({ frames := 3, cells := 0, slots := 0, locals := 69 } : Room) [.ref (a 0), .int v1] D G (wM a G M) (wM a G r.2) (some (.int r.1)) := by
  refine mM_of (by decide +kernel) (Nat.le_of_ble_eq_true rfl) (fun p e s m args below meth c ls A C hP hD hA hl => ?_)
  have C : Cx p s m args meth c cX9_load 2 RX9 (some .int) D G := C
  have hS : va_S A s.heap s.heap [] := va_S.rf
  obtain ⟨hx, hb, hr, hml, hts, hown, hlocks, hK0⟩ := id C
  have hK := hK0.1
  have hl : lv_has ls 2 [(0, .ref (a 0)), (1, .int v1)] := hl
  rw [F_X9_load] at hV
  refine lv_aload_n hx hb dX9_load_0 rfl (lv_at hl 0 rfl) ?_
  refine lv_iload_n hx hb dX9_load_1 rfl (lv_at hl 1 rfl) ?_
  obtain ⟨r5, hr5, hV⟩ := jBind hV
  refine jSpI C dX9_load_2 (k_X9_isDate l D G  N  v1 r5 hr5) jy_X9_isDate jq_24_8 jq_24_9 ⟨rfl, rfl, Nat.le_of_ble_eq_true rfl, Nat.le_of_ble_eq_true rfl⟩ ⟨Nat.le_of_ble_eq_true rfl, Nat.le_of_ble_eq_true rfl⟩ jE  hl (rest := [.ref (a 0)]) rfl (Nat.le_of_ble_eq_true rfl) ?_
  refine lv_if_eq (tgt := 12) hx hb dX9_load_5 (by decide) (fun c6 => ?_) (fun c6 => ?_)
  · have hV := jT1 hV c6
    refine lv_iconst (v := 1) hx hb dX9_load_12 (by decide) ?_
    exact B_X9_load_13 C hA N a r   M v1 (1 : Int32) _ _ _ hP hD hS (lv_sub hl [0, 1] rfl) hV
  · have hV := jF1 hV c6
    refine lv_iconst (v := 0) hx hb dX9_load_8 (by decide) ?_
    refine lv_goto (tgt := 13) hx hb dX9_load_9 (by decide) ?_
    exact B_X9_load_13 C hA N a r   M v1 (0 : Int32) _ _ _ hP hD hS (lv_sub hl [0, 1] rfl) hV
theorem jy_X9_peak : jY yX9_peak cX9_peak 1 (some .int) 0 := ⟨by decide +kernel, jq_31_11, jq_1_5⟩
def F_X9_peak (N : Nat)  (M : Nat → Nat → Int32) : Option (Int32 × (Nat → Nat → Int32)) := (jlet (stF M 0 (0 : Int32)) (fun M1 => ((F_X9_peakNow N M1 ).bind (fun r2 => (some (r2, M1))))))
set_option maxHeartbeats 4000000 in
set_option maxRecDepth 100000 in
theorem k_X9_peak (l : Launch) (D : va_G) (G : Nat → ClassId) (a : Nat → Nat) (N : Nat) (M : Nat → Nat → Int32) (r : (Int32 × (Nat → Nat → Int32))) (hV : F_X9_peak N  M  = some r) : mM l yX9_peak (jws yX9_peak cX9_peak 1 (some .int)) ({ frames := 4, cells := 0, slots := 0, locals := 92 } : Room) [.ref (a 0)] D G (wM a G M) (wM a G r.2) (some (.int r.1)) := by
  refine mM_of (by decide +kernel) (Nat.le_of_ble_eq_true rfl) (fun p e s m args below meth c ls A C hP hD hA hl => ?_)
  have C : Cx p s m args meth c cX9_peak 1 RX9 (some .int) D G := C
  have hS : va_S A s.heap s.heap [] := va_S.rf
  obtain ⟨hx, hb, hr, hml, hts, hown, hlocks, hK0⟩ := id C
  have hK := hK0.1
  have hl : lv_has ls 1 [(0, .ref (a 0))] := hl
  rw [F_X9_peak] at hV
  refine lv_aload_n hx hb dX9_peak_0 rfl (lv_at hl 0 rfl) ?_
  refine lv_iconst (v := 0) hx hb dX9_peak_1 (by decide) ?_
  refine va_put (D := D) (ci := 11) (v := .int (0 : Int32)) (ty := .int) (C := RX9) (T := TX9) (N := 16) hx hb hts ju_X9 tyX9 tyX9_ok nmX9 hown hK hP hD hS 0 rfl rfl 0 (by decide) (hts _ jq_15_2) (fun _ h9 => h9) rfl (by decide +kernel) rfl rfl (Nat.le_of_ble_eq_true rfl) dX9_peak_2 (fun H locs hP hD hS => ?_)
  obtain ⟨M1, e3, hV⟩ := jLet hV
  have hP : va_P D vwCl (wM a G M1) H := by rw [e3]; exact hP
  have hD : va_D A (wM a G M1) := by rw [e3]; exact hD
  refine lv_aload_n hx hb dX9_peak_5 rfl (lv_at hl 0 rfl) ?_
  obtain ⟨r2, hr2, hV⟩ := jBind hV
  refine jVpI C dX9_peak_6 (k_X9_peakNow l D G a N M1  r2 hr2) jy_X9_peakNow jq_30_11 jq_30_12 jq_30_13 ⟨rfl, rfl, Nat.le_of_ble_eq_true rfl, Nat.le_of_ble_eq_true rfl⟩ ⟨Nat.le_of_ble_eq_true rfl, Nat.le_of_ble_eq_true rfl⟩ hP  (ci := 11) (iw := 0) rfl rfl rfl hl (rest := []) rfl (Nat.le_of_ble_eq_true rfl) ?_
  cases hV
  exact mRet C rfl dX9_peak_9 rfl rfl hP hS
theorem jy_X9_sells : jY yX9_sells cX9_sells 4 (some .int) 2 := ⟨by decide +kernel, jq_32_6, jq_1_5⟩
def D_X9_sells_39 (N : Nat)  (M : Nat → Nat → Int32) (v1 : Int32) (v2 : Int32) (v3 : Int32) (s0 : Int32) : Option (Int32 × (Nat → Nat → Int32)) := ((F_X9_isRefused N M s0 (4 : Int32) v3).bind (fun r1 => (if r1.1 = 0 then (if inb (((39 : Int32) + ((4 : Int32) * v1)) + (3 : Int32)) 2169 = true then (if inb (((39 : Int32) + ((4 : Int32) * v1)) + (3 : Int32)) 2169 = true then (jlet (stA r1.2 1 (((39 : Int32) + ((4 : Int32) * v1)) + (3 : Int32)) (((r1.2 1) (((39 : Int32) + ((4 : Int32) * v1)) + (3 : Int32)).toNatClampNeg) + v2)) (fun M4 => (jlet (stF M4 6 (v3 - v2)) (fun M5 => (some ((0 : Int32), M5)))))) else none) else none) else (some ((4 : Int32), r1.2)))))
set_option maxHeartbeats 4000000 in
set_option maxRecDepth 100000 in
theorem B_X9_sells_39 {p : Program} {l : Launch} {e : Env} {s : State} {m : MethodId} {args : Array Value} {below : List Frame} {meth : Method} {c : Code} {D : va_G} {G : Nat → ClassId} {A : Nat → Prop} (C : Cx p s m args meth c cX9_sells 4 RX9 (some .int) D G) (hA : ∀ q : Nat, s.heap.size ≤ q → A q) (N : Nat) (a : Nat → Nat) (r : (Int32 × (Nat → Nat → Int32))) : (∀ (M : Nat → Nat → Int32) (v1 : Int32) (v2 : Int32) (v3 : Int32) (s0 : Int32) (ls : Array Slot) (H : Heap) (locs : List Loc), va_P D vwCl (wM a G M) H → va_D A (wM a G M) → va_S A s.heap H locs → lv_has ls 4 [(0, .ref (a 0)), (1, .int v1), (2, .int v2), (3, .int v3)] → D_X9_sells_39 N   M v1 v2 v3 s0 = some r → W p l e ({ frames := 3, cells := 0, slots := 0, locals := 66 } : Room) s m args below meth c H locs 0 0 (MQ below (mQ D (wM a G r.2) (some (.int r.1)) A) args s 0 0 A) (F0 m 39 ls [.int s0, .ref (a 0)])) := by
  have C := C
  obtain ⟨hx, hb, hr, hml, hts, hown, hlocks, hK0⟩ := id C
  have hK := hK0.1
  intro M v1 v2 v3 s0 ls H locs hP hD hS hl hV
  rw [D_X9_sells_39] at hV
  refine lv_iconst (v := 4) hx hb dX9_sells_39 (by decide) ?_
  refine lv_iload_n hx hb dX9_sells_40 rfl (lv_at hl 3 rfl) ?_
  obtain ⟨r1, hr1, hV⟩ := jBind hV
  refine jVmI C dX9_sells_41 (k_X9_isRefused l D G a N M s0 (4 : Int32) v3 r1 hr1) jy_X9_isRefused jq_13_20 jq_13_21 jq_13_22 ⟨rfl, rfl, Nat.le_of_ble_eq_true rfl, Nat.le_of_ble_eq_true rfl⟩ ⟨Nat.le_of_ble_eq_true rfl, Nat.le_of_ble_eq_true rfl⟩ hP hD hA hS (ci := 11) (iw := 0) rfl rfl rfl hl (rest := []) rfl (Nat.le_of_ble_eq_true rfl) (fun H locs hQ hz hkp hS => ?_)
  have hP : va_P D vwCl (wM a G r1.2) H := hQ
  have hD : va_D A (wM a G r1.2) := jD (w := (wM a G M)) rfl hD
  refine lv_if_eq (tgt := 49) hx hb dX9_sells_44 (by decide) (fun c8 => ?_) (fun c8 => ?_)
  · have hV := jT1 hV c8
    refine lv_aload_n hx hb dX9_sells_49 rfl (lv_at hl 0 rfl) ?_
    refine va_get (D := D) (ci := 11) (v := .ref (a 1)) (C := RX9) (T := TX9) (N := 16) hx hb hts ju_X9 hown hK hP 0 rfl rfl 1 (by decide) (hts _ jq_6_1) (fun _ h9 => h9) rfl dX9_sells_50 ?_
    refine lv_bipush (v := 39) hx hb dX9_sells_53 (by decide) ?_
    refine lv_iconst (v := 4) hx hb dX9_sells_55 (by decide) ?_
    refine lv_iload_n hx hb dX9_sells_56 rfl (lv_at hl 1 rfl) ?_
    refine lv_imul hx hb dX9_sells_57 ?_
    refine lv_iadd hx hb dX9_sells_58 ?_
    refine lv_iconst (v := 3) hx hb dX9_sells_59 (by decide) ?_
    refine lv_iadd hx hb dX9_sells_60 ?_
    refine lv_dup2_11 hx hb dX9_sells_61 rfl rfl ?_
    obtain ⟨g2, hV⟩ := jIf hV
    refine va_iald (D := D) (n := 2169) (f := (r1.2 1)) hx hb hK hP 1 0 rfl rfl (inb_of g2) dX9_sells_62 ?_
    refine lv_iload_n hx hb dX9_sells_63 rfl (lv_at hl 2 rfl) ?_
    refine lv_iadd hx hb dX9_sells_64 ?_
    obtain ⟨g3, hV⟩ := jIf hV
    refine va_iast (D := D) (n := 2169) (f := (r1.2 1)) hx hb hK hP hD hS 1 0 rfl rfl (inb_of g3) dX9_sells_65 (fun H locs hP hD hS => ?_)
    obtain ⟨M4, e7, hV⟩ := jLet hV
    have hP : va_P D vwCl (wM a G M4) H := by rw [e7]; exact hP
    have hD : va_D A (wM a G M4) := by rw [e7]; exact hD
    refine lv_aload_n hx hb dX9_sells_66 rfl (lv_at hl 0 rfl) ?_
    refine lv_iload_n hx hb dX9_sells_67 rfl (lv_at hl 3 rfl) ?_
    refine lv_iload_n hx hb dX9_sells_68 rfl (lv_at hl 2 rfl) ?_
    refine lv_isub hx hb dX9_sells_69 ?_
    refine va_put (D := D) (ci := 11) (v := .int (v3 - v2)) (ty := .int) (C := RX9) (T := TX9) (N := 16) hx hb hts ju_X9 tyX9 tyX9_ok nmX9 hown hK hP hD hS 0 rfl rfl 6 (by decide) (hts _ jq_12_21) (fun _ h9 => h9) rfl (by decide +kernel) rfl rfl (Nat.le_of_ble_eq_true rfl) dX9_sells_70 (fun H locs hP hD hS => ?_)
    obtain ⟨M5, e6, hV⟩ := jLet hV
    have hP : va_P D vwCl (wM a G M5) H := by rw [e6]; exact hP
    have hD : va_D A (wM a G M5) := by rw [e6]; exact hD
    refine lv_iconst (v := 0) hx hb dX9_sells_73 (by decide) ?_
    cases hV
    exact mRet C rfl dX9_sells_74 rfl rfl hP hS
  · have hV := jF1 hV c8
    refine lv_iconst (v := 4) hx hb dX9_sells_47 (by decide) ?_
    cases hV
    exact mRet C rfl dX9_sells_48 rfl rfl hP hS
def F_X9_sells (N : Nat)  (M : Nat → Nat → Int32) (v1 v2 : Int32) : Option (Int32 × (Nat → Nat → Int32)) := ((F_X9_isPerformance N M v1).bind (fun r9 => (if r9 = 0 then (some ((1 : Int32), M)) else ((F_X9_in N  v2 (1 : Int32) (99 : Int32)).bind (fun r10 => (if r10 = 0 then (some ((2 : Int32), M)) else ((F_X9_freeAt N M v1).bind (fun r11 => (if v2 ≤ r11 then (D_X9_sells_39 N   M v1 v2 r11 (0 : Int32)) else (D_X9_sells_39 N   M v1 v2 r11 (1 : Int32)))))))))))
set_option maxHeartbeats 4000000 in
set_option maxRecDepth 100000 in
theorem k_X9_sells (l : Launch) (D : va_G) (G : Nat → ClassId) (a : Nat → Nat) (N : Nat) (M : Nat → Nat → Int32) (v1 v2 : Int32) (r : (Int32 × (Nat → Nat → Int32))) (hV : F_X9_sells N  M v1 v2 = some r) : mM l yX9_sells (jws yX9_sells cX9_sells 4 (some .int)) ({ frames := 3, cells := 0, slots := 0, locals := 66 } : Room) [.ref (a 0), .int v1, .int v2] D G (wM a G M) (wM a G r.2) (some (.int r.1)) := by
  refine mM_of (by decide +kernel) (Nat.le_of_ble_eq_true rfl) (fun p e s m args below meth c ls A C hP hD hA hl => ?_)
  have C : Cx p s m args meth c cX9_sells 4 RX9 (some .int) D G := C
  have hS : va_S A s.heap s.heap [] := va_S.rf
  obtain ⟨hx, hb, hr, hml, hts, hown, hlocks, hK0⟩ := id C
  have hK := hK0.1
  have hl : lv_has ls 4 [(0, .ref (a 0)), (1, .int v1), (2, .int v2)] := hl
  rw [F_X9_sells] at hV
  refine lv_aload_n hx hb dX9_sells_0 rfl (lv_at hl 0 rfl) ?_
  refine lv_iload_n hx hb dX9_sells_1 rfl (lv_at hl 1 rfl) ?_
  obtain ⟨r9, hr9, hV⟩ := jBind hV
  refine jVpI C dX9_sells_2 (k_X9_isPerformance l D G a N M v1 r9 hr9) jy_X9_isPerformance jq_26_1 jq_26_2 jq_26_3 ⟨rfl, rfl, Nat.le_of_ble_eq_true rfl, Nat.le_of_ble_eq_true rfl⟩ ⟨Nat.le_of_ble_eq_true rfl, Nat.le_of_ble_eq_true rfl⟩ hP  (ci := 11) (iw := 0) rfl rfl rfl hl (rest := []) rfl (Nat.le_of_ble_eq_true rfl) ?_
  refine lv_if_ne (tgt := 10) hx hb dX9_sells_5 (by decide) (fun c14 => ?_) (fun c14 => ?_)
  · have hV := jF1 hV c14
    refine lv_iload_n hx hb dX9_sells_10 rfl (lv_at hl 2 rfl) ?_
    refine lv_iconst (v := 1) hx hb dX9_sells_11 (by decide) ?_
    refine lv_bipush (v := 99) hx hb dX9_sells_12 (by decide) ?_
    obtain ⟨r10, hr10, hV⟩ := jBind hV
    refine jSpI C dX9_sells_14 (k_X9_in l D G  N  v2 (1 : Int32) (99 : Int32) r10 hr10) jy_X9_in jq_13_1 jq_13_2 ⟨rfl, rfl, Nat.le_of_ble_eq_true rfl, Nat.le_of_ble_eq_true rfl⟩ ⟨Nat.le_of_ble_eq_true rfl, Nat.le_of_ble_eq_true rfl⟩ jE  hl (rest := []) rfl (Nat.le_of_ble_eq_true rfl) ?_
    refine lv_if_ne (tgt := 22) hx hb dX9_sells_17 (by decide) (fun c13 => ?_) (fun c13 => ?_)
    · have hV := jF1 hV c13
      refine lv_aload_n hx hb dX9_sells_22 rfl (lv_at hl 0 rfl) ?_
      refine lv_iload_n hx hb dX9_sells_23 rfl (lv_at hl 1 rfl) ?_
      obtain ⟨r11, hr11, hV⟩ := jBind hV
      refine jVpI C dX9_sells_24 (k_X9_freeAt l D G a N M v1 r11 hr11) jy_X9_freeAt jq_14_14 jq_14_15 jq_14_16 ⟨rfl, rfl, Nat.le_of_ble_eq_true rfl, Nat.le_of_ble_eq_true rfl⟩ ⟨Nat.le_of_ble_eq_true rfl, Nat.le_of_ble_eq_true rfl⟩ hP  (ci := 11) (iw := 0) rfl rfl rfl hl (rest := []) rfl (Nat.le_of_ble_eq_true rfl) ?_
      refine lv_istore_n (lv' := [(3, .int r11), (0, .ref (a 0)), (1, .int v1), (2, .int v2)]) hx hb dX9_sells_27 rfl hl (by decide) rfl (fun ls hl => ?_)
      refine lv_aload_n hx hb dX9_sells_28 rfl (lv_at hl 1 rfl) ?_
      refine lv_iload_n hx hb dX9_sells_29 rfl (lv_at hl 0 rfl) ?_
      refine lv_iload_n hx hb dX9_sells_30 rfl (lv_at hl 3 rfl) ?_
      refine lv_icmp_ge (tgt := 38) hx hb dX9_sells_31 (by decide) (fun c12 => ?_) (fun c12 => ?_)
      · have hV := jT1 hV c12
        refine lv_iconst (v := 0) hx hb dX9_sells_38 (by decide) ?_
        exact B_X9_sells_39 C hA N a r   M v1 v2 r11 (0 : Int32) _ _ _ hP hD hS (lv_sub hl [1, 2, 3, 0] rfl) hV
      · have hV := jF1 hV c12
        refine lv_iconst (v := 1) hx hb dX9_sells_34 (by decide) ?_
        refine lv_goto (tgt := 39) hx hb dX9_sells_35 (by decide) ?_
        exact B_X9_sells_39 C hA N a r   M v1 v2 r11 (1 : Int32) _ _ _ hP hD hS (lv_sub hl [1, 2, 3, 0] rfl) hV
    · have hV := jT1 hV c13
      refine lv_iconst (v := 2) hx hb dX9_sells_20 (by decide) ?_
      cases hV
      exact mRet C rfl dX9_sells_21 rfl rfl hP hS
  · have hV := jT1 hV c14
    refine lv_iconst (v := 1) hx hb dX9_sells_8 (by decide) ?_
    cases hV
    exact mRet C rfl dX9_sells_9 rfl rfl hP hS
theorem jy_X9_sell : jY yX9_sell cX9_sell 3 (some .int) 2 := ⟨by decide +kernel, jq_32_2, jq_1_5⟩
def F_X9_sell (N : Nat)  (M : Nat → Nat → Int32) (v1 v2 : Int32) : Option (Int32 × (Nat → Nat → Int32)) := ((F_X9_begins N M ).bind (fun r1 => ((F_X9_sells N r1 v1 v2).bind (fun r2 => ((F_X9_ends N r2.2 r2.1 (2 : Int32) (0 : Int32) (3 : Int32)).bind (fun r3 => (some (r3.1, r3.2))))))))
set_option maxHeartbeats 4000000 in
set_option maxRecDepth 100000 in
theorem k_X9_sell (l : Launch) (D : va_G) (G : Nat → ClassId) (a : Nat → Nat) (N : Nat) (M : Nat → Nat → Int32) (v1 v2 : Int32) (r : (Int32 × (Nat → Nat → Int32))) (hV : F_X9_sell N  M v1 v2 = some r) : mM l yX9_sell (jws yX9_sell cX9_sell 3 (some .int)) ({ frames := 4, cells := 0, slots := 0, locals := 89 } : Room) [.ref (a 0), .int v1, .int v2] D G (wM a G M) (wM a G r.2) (some (.int r.1)) := by
  refine mM_of (by decide +kernel) (Nat.le_of_ble_eq_true rfl) (fun p e s m args below meth c ls A C hP hD hA hl => ?_)
  have C : Cx p s m args meth c cX9_sell 3 RX9 (some .int) D G := C
  have hS : va_S A s.heap s.heap [] := va_S.rf
  obtain ⟨hx, hb, hr, hml, hts, hown, hlocks, hK0⟩ := id C
  have hK := hK0.1
  have hl : lv_has ls 3 [(0, .ref (a 0)), (1, .int v1), (2, .int v2)] := hl
  rw [F_X9_sell] at hV
  refine lv_aload_n hx hb dX9_sell_0 rfl (lv_at hl 0 rfl) ?_
  obtain ⟨r1, hr1, hV⟩ := jBind hV
  refine jVmV C dX9_sell_1 (k_X9_begins l D G a N M  r1 hr1) jy_X9_begins jq_12_9 jq_12_10 jq_12_11 ⟨rfl, rfl, Nat.le_of_ble_eq_true rfl, Nat.le_of_ble_eq_true rfl⟩ ⟨Nat.le_of_ble_eq_true rfl, Nat.le_of_ble_eq_true rfl⟩ hP hD hA hS (ci := 11) (iw := 0) rfl rfl rfl hl (rest := []) rfl (Nat.le_of_ble_eq_true rfl) (fun H locs hQ hz hkp hS => ?_)
  have hP : va_P D vwCl (wM a G r1) H := hQ
  have hD : va_D A (wM a G r1) := jD (w := (wM a G M)) rfl hD
  refine lv_aload_n hx hb dX9_sell_4 rfl (lv_at hl 0 rfl) ?_
  refine lv_aload_n hx hb dX9_sell_5 rfl (lv_at hl 0 rfl) ?_
  refine lv_iload_n hx hb dX9_sell_6 rfl (lv_at hl 1 rfl) ?_
  refine lv_iload_n hx hb dX9_sell_7 rfl (lv_at hl 2 rfl) ?_
  obtain ⟨r2, hr2, hV⟩ := jBind hV
  refine jVmI C dX9_sell_8 (k_X9_sells l D G a N r1 v1 v2 r2 hr2) jy_X9_sells jq_32_3 jq_32_4 jq_32_5 ⟨rfl, rfl, Nat.le_of_ble_eq_true rfl, Nat.le_of_ble_eq_true rfl⟩ ⟨Nat.le_of_ble_eq_true rfl, Nat.le_of_ble_eq_true rfl⟩ hP hD hA hS (ci := 11) (iw := 0) rfl rfl rfl hl (rest := [.ref (a 0)]) rfl (Nat.le_of_ble_eq_true rfl) (fun H locs hQ hz hkp hS => ?_)
  have hP : va_P D vwCl (wM a G r2.2) H := hQ
  have hD : va_D A (wM a G r2.2) := jD (w := (wM a G r1)) rfl hD
  refine lv_iconst (v := 2) hx hb dX9_sell_11 (by decide) ?_
  refine lv_iconst (v := 0) hx hb dX9_sell_12 (by decide) ?_
  refine lv_iconst (v := 3) hx hb dX9_sell_13 (by decide) ?_
  obtain ⟨r3, hr3, hV⟩ := jBind hV
  refine jVmI C dX9_sell_14 (k_X9_ends l D G a N r2.2 r2.1 (2 : Int32) (0 : Int32) (3 : Int32) r3 hr3) jy_X9_ends jq_14_22 jq_14_23 jq_15_0 ⟨rfl, rfl, Nat.le_of_ble_eq_true rfl, Nat.le_of_ble_eq_true rfl⟩ ⟨Nat.le_of_ble_eq_true rfl, Nat.le_of_ble_eq_true rfl⟩ hP hD hA hS (ci := 11) (iw := 0) rfl rfl rfl hl (rest := []) rfl (Nat.le_of_ble_eq_true rfl) (fun H locs hQ hz hkp hS => ?_)
  have hP : va_P D vwCl (wM a G r3.2) H := hQ
  have hD : va_D A (wM a G r3.2) := jD (w := (wM a G r2.2)) rfl hD
  cases hV
  exact mRet C rfl dX9_sell_17 rfl rfl hP hS
theorem jy_X9_refunds : jY yX9_refunds cX9_refunds 4 (some .int) 2 := ⟨by decide +kernel, jq_33_1, jq_1_5⟩
def D_X9_refunds_40 (N : Nat)  (M : Nat → Nat → Int32) (v1 : Int32) (v2 : Int32) (v3 : Int32) (s0 : Int32) : Option (Int32 × (Nat → Nat → Int32)) := ((F_X9_isRefused N M s0 (7 : Int32) v3).bind (fun r1 => (if r1.1 = 0 then (if inb (((39 : Int32) + ((4 : Int32) * v1)) + (3 : Int32)) 2169 = true then (if inb (((39 : Int32) + ((4 : Int32) * v1)) + (3 : Int32)) 2169 = true then (jlet (stA r1.2 1 (((39 : Int32) + ((4 : Int32) * v1)) + (3 : Int32)) (((r1.2 1) (((39 : Int32) + ((4 : Int32) * v1)) + (3 : Int32)).toNatClampNeg) - v2)) (fun M4 => ((F_X9_serves N M4 v1).bind (fun r5 => ((F_X9_p N r5 v1 (3 : Int32)).bind (fun r6 => (jlet (stF r5 6 r6) (fun M7 => (some ((0 : Int32), M7)))))))))) else none) else none) else (some ((4 : Int32), r1.2)))))
set_option maxHeartbeats 4000000 in
set_option maxRecDepth 100000 in
theorem B_X9_refunds_40 {p : Program} {l : Launch} {e : Env} {s : State} {m : MethodId} {args : Array Value} {below : List Frame} {meth : Method} {c : Code} {D : va_G} {G : Nat → ClassId} {A : Nat → Prop} (C : Cx p s m args meth c cX9_refunds 4 RX9 (some .int) D G) (hA : ∀ q : Nat, s.heap.size ≤ q → A q) (N : Nat) (a : Nat → Nat) (r : (Int32 × (Nat → Nat → Int32))) : (∀ (M : Nat → Nat → Int32) (v1 : Int32) (v2 : Int32) (v3 : Int32) (s0 : Int32) (ls : Array Slot) (H : Heap) (locs : List Loc), va_P D vwCl (wM a G M) H → va_D A (wM a G M) → va_S A s.heap H locs → lv_has ls 4 [(0, .ref (a 0)), (1, .int v1), (2, .int v2), (3, .int v3)] → D_X9_refunds_40 N   M v1 v2 v3 s0 = some r → W p l e ({ frames := 4, cells := 0, slots := 0, locals := 88 } : Room) s m args below meth c H locs 0 0 (MQ below (mQ D (wM a G r.2) (some (.int r.1)) A) args s 0 0 A) (F0 m 40 ls [.int s0, .ref (a 0)])) := by
  have C := C
  obtain ⟨hx, hb, hr, hml, hts, hown, hlocks, hK0⟩ := id C
  have hK := hK0.1
  intro M v1 v2 v3 s0 ls H locs hP hD hS hl hV
  rw [D_X9_refunds_40] at hV
  refine lv_bipush (v := 7) hx hb dX9_refunds_40 (by decide) ?_
  refine lv_iload_n hx hb dX9_refunds_42 rfl (lv_at hl 3 rfl) ?_
  obtain ⟨r1, hr1, hV⟩ := jBind hV
  refine jVmI C dX9_refunds_43 (k_X9_isRefused l D G a N M s0 (7 : Int32) v3 r1 hr1) jy_X9_isRefused jq_13_20 jq_13_21 jq_13_22 ⟨rfl, rfl, Nat.le_of_ble_eq_true rfl, Nat.le_of_ble_eq_true rfl⟩ ⟨Nat.le_of_ble_eq_true rfl, Nat.le_of_ble_eq_true rfl⟩ hP hD hA hS (ci := 11) (iw := 0) rfl rfl rfl hl (rest := []) rfl (Nat.le_of_ble_eq_true rfl) (fun H locs hQ hz hkp hS => ?_)
  have hP : va_P D vwCl (wM a G r1.2) H := hQ
  have hD : va_D A (wM a G r1.2) := jD (w := (wM a G M)) rfl hD
  refine lv_if_eq (tgt := 51) hx hb dX9_refunds_46 (by decide) (fun c10 => ?_) (fun c10 => ?_)
  · have hV := jT1 hV c10
    refine lv_aload_n hx hb dX9_refunds_51 rfl (lv_at hl 0 rfl) ?_
    refine va_get (D := D) (ci := 11) (v := .ref (a 1)) (C := RX9) (T := TX9) (N := 16) hx hb hts ju_X9 hown hK hP 0 rfl rfl 1 (by decide) (hts _ jq_6_1) (fun _ h9 => h9) rfl dX9_refunds_52 ?_
    refine lv_bipush (v := 39) hx hb dX9_refunds_55 (by decide) ?_
    refine lv_iconst (v := 4) hx hb dX9_refunds_57 (by decide) ?_
    refine lv_iload_n hx hb dX9_refunds_58 rfl (lv_at hl 1 rfl) ?_
    refine lv_imul hx hb dX9_refunds_59 ?_
    refine lv_iadd hx hb dX9_refunds_60 ?_
    refine lv_iconst (v := 3) hx hb dX9_refunds_61 (by decide) ?_
    refine lv_iadd hx hb dX9_refunds_62 ?_
    refine lv_dup2_11 hx hb dX9_refunds_63 rfl rfl ?_
    obtain ⟨g2, hV⟩ := jIf hV
    refine va_iald (D := D) (n := 2169) (f := (r1.2 1)) hx hb hK hP 1 0 rfl rfl (inb_of g2) dX9_refunds_64 ?_
    refine lv_iload_n hx hb dX9_refunds_65 rfl (lv_at hl 2 rfl) ?_
    refine lv_isub hx hb dX9_refunds_66 ?_
    obtain ⟨g3, hV⟩ := jIf hV
    refine va_iast (D := D) (n := 2169) (f := (r1.2 1)) hx hb hK hP hD hS 1 0 rfl rfl (inb_of g3) dX9_refunds_67 (fun H locs hP hD hS => ?_)
    obtain ⟨M4, e9, hV⟩ := jLet hV
    have hP : va_P D vwCl (wM a G M4) H := by rw [e9]; exact hP
    have hD : va_D A (wM a G M4) := by rw [e9]; exact hD
    refine lv_aload_n hx hb dX9_refunds_68 rfl (lv_at hl 0 rfl) ?_
    refine lv_iload_n hx hb dX9_refunds_69 rfl (lv_at hl 1 rfl) ?_
    obtain ⟨r5, hr5, hV⟩ := jBind hV
    refine jVmV C dX9_refunds_70 (k_X9_serves l D G a N M4 v1 r5 hr5) jy_X9_serves jq_14_2 jq_14_3 jq_14_4 ⟨rfl, rfl, Nat.le_of_ble_eq_true rfl, Nat.le_of_ble_eq_true rfl⟩ ⟨Nat.le_of_ble_eq_true rfl, Nat.le_of_ble_eq_true rfl⟩ hP hD hA hS (ci := 11) (iw := 0) rfl rfl rfl hl (rest := []) rfl (Nat.le_of_ble_eq_true rfl) (fun H locs hQ hz hkp hS => ?_)
    have hP : va_P D vwCl (wM a G r5) H := hQ
    have hD : va_D A (wM a G r5) := jD (w := (wM a G M4)) rfl hD
    refine lv_aload_n hx hb dX9_refunds_73 rfl (lv_at hl 0 rfl) ?_
    refine lv_aload_n hx hb dX9_refunds_74 rfl (lv_at hl 0 rfl) ?_
    refine lv_iload_n hx hb dX9_refunds_75 rfl (lv_at hl 1 rfl) ?_
    refine lv_iconst (v := 3) hx hb dX9_refunds_76 (by decide) ?_
    obtain ⟨r6, hr6, hV⟩ := jBind hV
    refine jVpI C dX9_refunds_77 (k_X9_p l D G a N r5 v1 (3 : Int32) r6 hr6) jy_X9_p jq_13_4 jq_13_5 jq_13_6 ⟨rfl, rfl, Nat.le_of_ble_eq_true rfl, Nat.le_of_ble_eq_true rfl⟩ ⟨Nat.le_of_ble_eq_true rfl, Nat.le_of_ble_eq_true rfl⟩ hP  (ci := 11) (iw := 0) rfl rfl rfl hl (rest := [.ref (a 0)]) rfl (Nat.le_of_ble_eq_true rfl) ?_
    refine va_put (D := D) (ci := 11) (v := .int r6) (ty := .int) (C := RX9) (T := TX9) (N := 16) hx hb hts ju_X9 tyX9 tyX9_ok nmX9 hown hK hP hD hS 0 rfl rfl 6 (by decide) (hts _ jq_12_21) (fun _ h9 => h9) rfl (by decide +kernel) rfl rfl (Nat.le_of_ble_eq_true rfl) dX9_refunds_80 (fun H locs hP hD hS => ?_)
    obtain ⟨M7, e8, hV⟩ := jLet hV
    have hP : va_P D vwCl (wM a G M7) H := by rw [e8]; exact hP
    have hD : va_D A (wM a G M7) := by rw [e8]; exact hD
    refine lv_iconst (v := 0) hx hb dX9_refunds_83 (by decide) ?_
    cases hV
    exact mRet C rfl dX9_refunds_84 rfl rfl hP hS
  · have hV := jF1 hV c10
    refine lv_iconst (v := 4) hx hb dX9_refunds_49 (by decide) ?_
    cases hV
    exact mRet C rfl dX9_refunds_50 rfl rfl hP hS
def F_X9_refunds (N : Nat)  (M : Nat → Nat → Int32) (v1 v2 : Int32) : Option (Int32 × (Nat → Nat → Int32)) := ((F_X9_isPerformance N M v1).bind (fun r11 => (if r11 = 0 then (some ((1 : Int32), M)) else ((F_X9_in N  v2 (1 : Int32) (99 : Int32)).bind (fun r12 => (if r12 = 0 then (some ((2 : Int32), M)) else ((F_X9_p N M v1 (3 : Int32)).bind (fun r13 => (if v2 ≤ r13 then (D_X9_refunds_40 N   M v1 v2 r13 (0 : Int32)) else (D_X9_refunds_40 N   M v1 v2 r13 (1 : Int32)))))))))))
set_option maxHeartbeats 4000000 in
set_option maxRecDepth 100000 in
theorem k_X9_refunds (l : Launch) (D : va_G) (G : Nat → ClassId) (a : Nat → Nat) (N : Nat) (M : Nat → Nat → Int32) (v1 v2 : Int32) (r : (Int32 × (Nat → Nat → Int32))) (hV : F_X9_refunds N  M v1 v2 = some r) : mM l yX9_refunds (jws yX9_refunds cX9_refunds 4 (some .int)) ({ frames := 4, cells := 0, slots := 0, locals := 88 } : Room) [.ref (a 0), .int v1, .int v2] D G (wM a G M) (wM a G r.2) (some (.int r.1)) := by
  refine mM_of (by decide +kernel) (Nat.le_of_ble_eq_true rfl) (fun p e s m args below meth c ls A C hP hD hA hl => ?_)
  have C : Cx p s m args meth c cX9_refunds 4 RX9 (some .int) D G := C
  have hS : va_S A s.heap s.heap [] := va_S.rf
  obtain ⟨hx, hb, hr, hml, hts, hown, hlocks, hK0⟩ := id C
  have hK := hK0.1
  have hl : lv_has ls 4 [(0, .ref (a 0)), (1, .int v1), (2, .int v2)] := hl
  rw [F_X9_refunds] at hV
  refine lv_aload_n hx hb dX9_refunds_0 rfl (lv_at hl 0 rfl) ?_
  refine lv_iload_n hx hb dX9_refunds_1 rfl (lv_at hl 1 rfl) ?_
  obtain ⟨r11, hr11, hV⟩ := jBind hV
  refine jVpI C dX9_refunds_2 (k_X9_isPerformance l D G a N M v1 r11 hr11) jy_X9_isPerformance jq_26_1 jq_26_2 jq_26_3 ⟨rfl, rfl, Nat.le_of_ble_eq_true rfl, Nat.le_of_ble_eq_true rfl⟩ ⟨Nat.le_of_ble_eq_true rfl, Nat.le_of_ble_eq_true rfl⟩ hP  (ci := 11) (iw := 0) rfl rfl rfl hl (rest := []) rfl (Nat.le_of_ble_eq_true rfl) ?_
  refine lv_if_ne (tgt := 10) hx hb dX9_refunds_5 (by decide) (fun c16 => ?_) (fun c16 => ?_)
  · have hV := jF1 hV c16
    refine lv_iload_n hx hb dX9_refunds_10 rfl (lv_at hl 2 rfl) ?_
    refine lv_iconst (v := 1) hx hb dX9_refunds_11 (by decide) ?_
    refine lv_bipush (v := 99) hx hb dX9_refunds_12 (by decide) ?_
    obtain ⟨r12, hr12, hV⟩ := jBind hV
    refine jSpI C dX9_refunds_14 (k_X9_in l D G  N  v2 (1 : Int32) (99 : Int32) r12 hr12) jy_X9_in jq_13_1 jq_13_2 ⟨rfl, rfl, Nat.le_of_ble_eq_true rfl, Nat.le_of_ble_eq_true rfl⟩ ⟨Nat.le_of_ble_eq_true rfl, Nat.le_of_ble_eq_true rfl⟩ jE  hl (rest := []) rfl (Nat.le_of_ble_eq_true rfl) ?_
    refine lv_if_ne (tgt := 22) hx hb dX9_refunds_17 (by decide) (fun c15 => ?_) (fun c15 => ?_)
    · have hV := jF1 hV c15
      refine lv_aload_n hx hb dX9_refunds_22 rfl (lv_at hl 0 rfl) ?_
      refine lv_iload_n hx hb dX9_refunds_23 rfl (lv_at hl 1 rfl) ?_
      refine lv_iconst (v := 3) hx hb dX9_refunds_24 (by decide) ?_
      obtain ⟨r13, hr13, hV⟩ := jBind hV
      refine jVpI C dX9_refunds_25 (k_X9_p l D G a N M v1 (3 : Int32) r13 hr13) jy_X9_p jq_13_4 jq_13_5 jq_13_6 ⟨rfl, rfl, Nat.le_of_ble_eq_true rfl, Nat.le_of_ble_eq_true rfl⟩ ⟨Nat.le_of_ble_eq_true rfl, Nat.le_of_ble_eq_true rfl⟩ hP  (ci := 11) (iw := 0) rfl rfl rfl hl (rest := []) rfl (Nat.le_of_ble_eq_true rfl) ?_
      refine lv_istore_n (lv' := [(3, .int r13), (0, .ref (a 0)), (1, .int v1), (2, .int v2)]) hx hb dX9_refunds_28 rfl hl (by decide) rfl (fun ls hl => ?_)
      refine lv_aload_n hx hb dX9_refunds_29 rfl (lv_at hl 1 rfl) ?_
      refine lv_iload_n hx hb dX9_refunds_30 rfl (lv_at hl 0 rfl) ?_
      refine lv_iload_n hx hb dX9_refunds_31 rfl (lv_at hl 3 rfl) ?_
      refine lv_icmp_ge (tgt := 39) hx hb dX9_refunds_32 (by decide) (fun c14 => ?_) (fun c14 => ?_)
      · have hV := jT1 hV c14
        refine lv_iconst (v := 0) hx hb dX9_refunds_39 (by decide) ?_
        exact B_X9_refunds_40 C hA N a r   M v1 v2 r13 (0 : Int32) _ _ _ hP hD hS (lv_sub hl [1, 2, 3, 0] rfl) hV
      · have hV := jF1 hV c14
        refine lv_iconst (v := 1) hx hb dX9_refunds_35 (by decide) ?_
        refine lv_goto (tgt := 40) hx hb dX9_refunds_36 (by decide) ?_
        exact B_X9_refunds_40 C hA N a r   M v1 v2 r13 (1 : Int32) _ _ _ hP hD hS (lv_sub hl [1, 2, 3, 0] rfl) hV
    · have hV := jT1 hV c15
      refine lv_iconst (v := 2) hx hb dX9_refunds_20 (by decide) ?_
      cases hV
      exact mRet C rfl dX9_refunds_21 rfl rfl hP hS
  · have hV := jT1 hV c16
    refine lv_iconst (v := 1) hx hb dX9_refunds_8 (by decide) ?_
    cases hV
    exact mRet C rfl dX9_refunds_9 rfl rfl hP hS
theorem jy_X9_refund : jY yX9_refund cX9_refund 3 (some .int) 2 := ⟨by decide +kernel, jq_32_21, jq_1_5⟩
def F_X9_refund (N : Nat)  (M : Nat → Nat → Int32) (v1 v2 : Int32) : Option (Int32 × (Nat → Nat → Int32)) := ((F_X9_begins N M ).bind (fun r1 => ((F_X9_refunds N r1 v1 v2).bind (fun r2 => ((F_X9_ends N r2.2 r2.1 (2 : Int32) (0 : Int32) (3 : Int32)).bind (fun r3 => (some (r3.1, r3.2))))))))
set_option maxHeartbeats 4000000 in
set_option maxRecDepth 100000 in
theorem k_X9_refund (l : Launch) (D : va_G) (G : Nat → ClassId) (a : Nat → Nat) (N : Nat) (M : Nat → Nat → Int32) (v1 v2 : Int32) (r : (Int32 × (Nat → Nat → Int32))) (hV : F_X9_refund N  M v1 v2 = some r) : mM l yX9_refund (jws yX9_refund cX9_refund 3 (some .int)) ({ frames := 5, cells := 0, slots := 0, locals := 111 } : Room) [.ref (a 0), .int v1, .int v2] D G (wM a G M) (wM a G r.2) (some (.int r.1)) := by
  refine mM_of (by decide +kernel) (Nat.le_of_ble_eq_true rfl) (fun p e s m args below meth c ls A C hP hD hA hl => ?_)
  have C : Cx p s m args meth c cX9_refund 3 RX9 (some .int) D G := C
  have hS : va_S A s.heap s.heap [] := va_S.rf
  obtain ⟨hx, hb, hr, hml, hts, hown, hlocks, hK0⟩ := id C
  have hK := hK0.1
  have hl : lv_has ls 3 [(0, .ref (a 0)), (1, .int v1), (2, .int v2)] := hl
  rw [F_X9_refund] at hV
  refine lv_aload_n hx hb dX9_refund_0 rfl (lv_at hl 0 rfl) ?_
  obtain ⟨r1, hr1, hV⟩ := jBind hV
  refine jVmV C dX9_refund_1 (k_X9_begins l D G a N M  r1 hr1) jy_X9_begins jq_12_9 jq_12_10 jq_12_11 ⟨rfl, rfl, Nat.le_of_ble_eq_true rfl, Nat.le_of_ble_eq_true rfl⟩ ⟨Nat.le_of_ble_eq_true rfl, Nat.le_of_ble_eq_true rfl⟩ hP hD hA hS (ci := 11) (iw := 0) rfl rfl rfl hl (rest := []) rfl (Nat.le_of_ble_eq_true rfl) (fun H locs hQ hz hkp hS => ?_)
  have hP : va_P D vwCl (wM a G r1) H := hQ
  have hD : va_D A (wM a G r1) := jD (w := (wM a G M)) rfl hD
  refine lv_aload_n hx hb dX9_refund_4 rfl (lv_at hl 0 rfl) ?_
  refine lv_aload_n hx hb dX9_refund_5 rfl (lv_at hl 0 rfl) ?_
  refine lv_iload_n hx hb dX9_refund_6 rfl (lv_at hl 1 rfl) ?_
  refine lv_iload_n hx hb dX9_refund_7 rfl (lv_at hl 2 rfl) ?_
  obtain ⟨r2, hr2, hV⟩ := jBind hV
  refine jVmI C dX9_refund_8 (k_X9_refunds l D G a N r1 v1 v2 r2 hr2) jy_X9_refunds jq_32_22 jq_32_23 jq_33_0 ⟨rfl, rfl, Nat.le_of_ble_eq_true rfl, Nat.le_of_ble_eq_true rfl⟩ ⟨Nat.le_of_ble_eq_true rfl, Nat.le_of_ble_eq_true rfl⟩ hP hD hA hS (ci := 11) (iw := 0) rfl rfl rfl hl (rest := [.ref (a 0)]) rfl (Nat.le_of_ble_eq_true rfl) (fun H locs hQ hz hkp hS => ?_)
  have hP : va_P D vwCl (wM a G r2.2) H := hQ
  have hD : va_D A (wM a G r2.2) := jD (w := (wM a G r1)) rfl hD
  refine lv_iconst (v := 2) hx hb dX9_refund_11 (by decide) ?_
  refine lv_iconst (v := 0) hx hb dX9_refund_12 (by decide) ?_
  refine lv_iconst (v := 3) hx hb dX9_refund_13 (by decide) ?_
  obtain ⟨r3, hr3, hV⟩ := jBind hV
  refine jVmI C dX9_refund_14 (k_X9_ends l D G a N r2.2 r2.1 (2 : Int32) (0 : Int32) (3 : Int32) r3 hr3) jy_X9_ends jq_14_22 jq_14_23 jq_15_0 ⟨rfl, rfl, Nat.le_of_ble_eq_true rfl, Nat.le_of_ble_eq_true rfl⟩ ⟨Nat.le_of_ble_eq_true rfl, Nat.le_of_ble_eq_true rfl⟩ hP hD hA hS (ci := 11) (iw := 0) rfl rfl rfl hl (rest := []) rfl (Nat.le_of_ble_eq_true rfl) (fun H locs hQ hz hkp hS => ?_)
  have hP : va_P D vwCl (wM a G r3.2) H := hQ
  have hD : va_D A (wM a G r3.2) := jD (w := (wM a G r2.2)) rfl hD
  cases hV
  exact mRet C rfl dX9_refund_17 rfl rfl hP hS
theorem jy_X9_requests : jY yX9_requests cX9_requests 6 (some .int) 3 := ⟨by decide +kernel, jq_34_4, jq_1_5⟩
def D_X9_requests_75 (N : Nat)  : Nat → (Nat → Nat → Int32) → Int32 → Int32 → Int32 → Int32 → Int32 → Option (Int32 × (Nat → Nat → Int32))
  | 0, _, _, _, _, _, _ => none
  | n + 1, M, v1, v2, v3, v4, v5 => (if v4 ≤ v5 then (if inb (((181 : Int32) + ((3 : Int32) * v4)) + (0 : Int32)) 2169 = true then (jlet (stA M 1 (((181 : Int32) + ((3 : Int32) * v4)) + (0 : Int32)) v1) (fun M2 => (if inb (((181 : Int32) + ((3 : Int32) * v4)) + (1 : Int32)) 2169 = true then (jlet (stA M2 1 (((181 : Int32) + ((3 : Int32) * v4)) + (1 : Int32)) v2) (fun M4 => (if inb (((181 : Int32) + ((3 : Int32) * v4)) + (2 : Int32)) 2169 = true then (jlet (stA M4 1 (((181 : Int32) + ((3 : Int32) * v4)) + (2 : Int32)) v3) (fun M6 => (if inb (180 : Int32) 2169 = true then (if inb (180 : Int32) 2169 = true then (jlet (stA M6 1 (180 : Int32) (((M6 1) (180 : Int32).toNatClampNeg) + (1 : Int32))) (fun M9 => (some ((0 : Int32), M9)))) else none) else none))) else none))) else none))) else none) else ((F_X9_r N M v5 (0 : Int32)).bind (fun r14 => (if r14 = v1 then ((F_X9_r N M v5 (2 : Int32)).bind (fun r17 => (if r17 < v3 then (jlet (stF M 6 ((M 0 6) + (0 : Int32))) (fun M18 => (D_X9_requests_75 N   n M18 v1 v2 v3 v4 (v5 + 1)))) else (jlet (stF M 6 ((M 0 6) + (1 : Int32))) (fun M20 => (D_X9_requests_75 N   n M20 v1 v2 v3 v4 (v5 + 1))))))) else (jlet (stF M 6 ((M 0 6) + (0 : Int32))) (fun M15 => (D_X9_requests_75 N   n M15 v1 v2 v3 v4 (v5 + 1))))))))
set_option maxHeartbeats 4000000 in
set_option maxRecDepth 100000 in
theorem B_X9_requests_75 {p : Program} {l : Launch} {e : Env} {s : State} {m : MethodId} {args : Array Value} {below : List Frame} {meth : Method} {c : Code} {D : va_G} {G : Nat → ClassId} {A : Nat → Prop} (C : Cx p s m args meth c cX9_requests 6 RX9 (some .int) D G) (hA : ∀ q : Nat, s.heap.size ≤ q → A q) (N : Nat) (a : Nat → Nat) (r : (Int32 × (Nat → Nat → Int32))) : (∀ (n : Nat) (M : Nat → Nat → Int32) (v1 : Int32) (v2 : Int32) (v3 : Int32) (v4 : Int32) (v5 : Int32) (ls : Array Slot) (H : Heap) (locs : List Loc), va_P D vwCl (wM a G M) H → va_D A (wM a G M) → va_S A s.heap H locs → lv_has ls 6 [(0, .ref (a 0)), (1, .int v1), (2, .int v2), (3, .int v3), (4, .int v4), (5, .int v5)] → D_X9_requests_75 N   n M v1 v2 v3 v4 v5 = some r → W p l e ({ frames := 2, cells := 0, slots := 0, locals := 43 } : Room) s m args below meth c H locs 0 0 (MQ below (mQ D (wM a G r.2) (some (.int r.1)) A) args s 0 0 A) (F0 m 75 ls [])) := by
  have C := C
  obtain ⟨hx, hb, hr, hml, hts, hown, hlocks, hK0⟩ := id C
  have hK := hK0.1
  intro n
  induction n with
  | zero =>
    intro M v1 v2 v3 v4 v5 ls H locs hP hD hS hl hV
    rw [D_X9_requests_75] at hV
    cases hV
  | succ n ih =>
    intro M v1 v2 v3 v4 v5 ls H locs hP hD hS hl hV
    rw [D_X9_requests_75] at hV
    refine lv_iload hx hb dX9_requests_75 (lv_at hl 5 rfl) ?_
    refine lv_iload hx hb dX9_requests_77 (lv_at hl 4 rfl) ?_
    refine lv_icmp_ge (tgt := 124) hx hb dX9_requests_79 (by decide) (fun c24 => ?_) (fun c24 => ?_)
    · have hV := jT1 hV c24
      refine lv_aload_n hx hb dX9_requests_124 rfl (lv_at hl 0 rfl) ?_
      refine va_get (D := D) (ci := 11) (v := .ref (a 1)) (C := RX9) (T := TX9) (N := 16) hx hb hts ju_X9 hown hK hP 0 rfl rfl 1 (by decide) (hts _ jq_6_1) (fun _ h9 => h9) rfl dX9_requests_125 ?_
      refine lv_sipush (v := 181) hx hb dX9_requests_128 (by decide) ?_
      refine lv_iconst (v := 3) hx hb dX9_requests_131 (by decide) ?_
      refine lv_iload hx hb dX9_requests_132 (lv_at hl 4 rfl) ?_
      refine lv_imul hx hb dX9_requests_134 ?_
      refine lv_iadd hx hb dX9_requests_135 ?_
      refine lv_iconst (v := 0) hx hb dX9_requests_136 (by decide) ?_
      refine lv_iadd hx hb dX9_requests_137 ?_
      refine lv_iload_n hx hb dX9_requests_138 rfl (lv_at hl 1 rfl) ?_
      obtain ⟨g1, hV⟩ := jIf hV
      refine va_iast (D := D) (n := 2169) (f := (M 1)) hx hb hK hP hD hS 1 0 rfl rfl (inb_of g1) dX9_requests_139 (fun H locs hP hD hS => ?_)
      obtain ⟨M2, e13, hV⟩ := jLet hV
      have hP : va_P D vwCl (wM a G M2) H := by rw [e13]; exact hP
      have hD : va_D A (wM a G M2) := by rw [e13]; exact hD
      refine lv_aload_n hx hb dX9_requests_140 rfl (lv_at hl 0 rfl) ?_
      refine va_get (D := D) (ci := 11) (v := .ref (a 1)) (C := RX9) (T := TX9) (N := 16) hx hb hts ju_X9 hown hK hP 0 rfl rfl 1 (by decide) (hts _ jq_6_1) (fun _ h9 => h9) rfl dX9_requests_141 ?_
      refine lv_sipush (v := 181) hx hb dX9_requests_144 (by decide) ?_
      refine lv_iconst (v := 3) hx hb dX9_requests_147 (by decide) ?_
      refine lv_iload hx hb dX9_requests_148 (lv_at hl 4 rfl) ?_
      refine lv_imul hx hb dX9_requests_150 ?_
      refine lv_iadd hx hb dX9_requests_151 ?_
      refine lv_iconst (v := 1) hx hb dX9_requests_152 (by decide) ?_
      refine lv_iadd hx hb dX9_requests_153 ?_
      refine lv_iload_n hx hb dX9_requests_154 rfl (lv_at hl 2 rfl) ?_
      obtain ⟨g3, hV⟩ := jIf hV
      refine va_iast (D := D) (n := 2169) (f := (M2 1)) hx hb hK hP hD hS 1 0 rfl rfl (inb_of g3) dX9_requests_155 (fun H locs hP hD hS => ?_)
      obtain ⟨M4, e12, hV⟩ := jLet hV
      have hP : va_P D vwCl (wM a G M4) H := by rw [e12]; exact hP
      have hD : va_D A (wM a G M4) := by rw [e12]; exact hD
      refine lv_aload_n hx hb dX9_requests_156 rfl (lv_at hl 0 rfl) ?_
      refine va_get (D := D) (ci := 11) (v := .ref (a 1)) (C := RX9) (T := TX9) (N := 16) hx hb hts ju_X9 hown hK hP 0 rfl rfl 1 (by decide) (hts _ jq_6_1) (fun _ h9 => h9) rfl dX9_requests_157 ?_
      refine lv_sipush (v := 181) hx hb dX9_requests_160 (by decide) ?_
      refine lv_iconst (v := 3) hx hb dX9_requests_163 (by decide) ?_
      refine lv_iload hx hb dX9_requests_164 (lv_at hl 4 rfl) ?_
      refine lv_imul hx hb dX9_requests_166 ?_
      refine lv_iadd hx hb dX9_requests_167 ?_
      refine lv_iconst (v := 2) hx hb dX9_requests_168 (by decide) ?_
      refine lv_iadd hx hb dX9_requests_169 ?_
      refine lv_iload_n hx hb dX9_requests_170 rfl (lv_at hl 3 rfl) ?_
      obtain ⟨g5, hV⟩ := jIf hV
      refine va_iast (D := D) (n := 2169) (f := (M4 1)) hx hb hK hP hD hS 1 0 rfl rfl (inb_of g5) dX9_requests_171 (fun H locs hP hD hS => ?_)
      obtain ⟨M6, e11, hV⟩ := jLet hV
      have hP : va_P D vwCl (wM a G M6) H := by rw [e11]; exact hP
      have hD : va_D A (wM a G M6) := by rw [e11]; exact hD
      refine lv_aload_n hx hb dX9_requests_172 rfl (lv_at hl 0 rfl) ?_
      refine va_get (D := D) (ci := 11) (v := .ref (a 1)) (C := RX9) (T := TX9) (N := 16) hx hb hts ju_X9 hown hK hP 0 rfl rfl 1 (by decide) (hts _ jq_6_1) (fun _ h9 => h9) rfl dX9_requests_173 ?_
      refine lv_sipush (v := 180) hx hb dX9_requests_176 (by decide) ?_
      refine lv_dup2_11 hx hb dX9_requests_179 rfl rfl ?_
      obtain ⟨g7, hV⟩ := jIf hV
      refine va_iald (D := D) (n := 2169) (f := (M6 1)) hx hb hK hP 1 0 rfl rfl (inb_of g7) dX9_requests_180 ?_
      refine lv_iconst (v := 1) hx hb dX9_requests_181 (by decide) ?_
      refine lv_iadd hx hb dX9_requests_182 ?_
      obtain ⟨g8, hV⟩ := jIf hV
      refine va_iast (D := D) (n := 2169) (f := (M6 1)) hx hb hK hP hD hS 1 0 rfl rfl (inb_of g8) dX9_requests_183 (fun H locs hP hD hS => ?_)
      obtain ⟨M9, e10, hV⟩ := jLet hV
      have hP : va_P D vwCl (wM a G M9) H := by rw [e10]; exact hP
      have hD : va_D A (wM a G M9) := by rw [e10]; exact hD
      refine lv_iconst (v := 0) hx hb dX9_requests_184 (by decide) ?_
      cases hV
      exact mRet C rfl dX9_requests_185 rfl rfl hP hS
    · have hV := jF1 hV c24
      refine lv_aload_n hx hb dX9_requests_82 rfl (lv_at hl 0 rfl) ?_
      refine lv_dup hx hb dX9_requests_83 rfl ?_
      refine va_get (D := D) (ci := 11) (v := .int (M 0 6)) (C := RX9) (T := TX9) (N := 16) hx hb hts ju_X9 hown hK hP 0 rfl rfl 6 (by decide) (hts _ jq_12_21) (fun _ h9 => h9) rfl dX9_requests_84 ?_
      refine lv_aload_n hx hb dX9_requests_87 rfl (lv_at hl 0 rfl) ?_
      refine lv_iload hx hb dX9_requests_88 (lv_at hl 5 rfl) ?_
      refine lv_iconst (v := 0) hx hb dX9_requests_90 (by decide) ?_
      obtain ⟨r14, hr14, hV⟩ := jBind hV
      refine jVpI C dX9_requests_91 (k_X9_r l D G a N M v5 (0 : Int32) r14 hr14) jy_X9_r jq_14_10 jq_14_11 jq_14_12 ⟨rfl, rfl, Nat.le_of_ble_eq_true rfl, Nat.le_of_ble_eq_true rfl⟩ ⟨Nat.le_of_ble_eq_true rfl, Nat.le_of_ble_eq_true rfl⟩ hP  (ci := 11) (iw := 0) rfl rfl rfl hl (rest := [.int (M 0 6), .ref (a 0)]) rfl (Nat.le_of_ble_eq_true rfl) ?_
      refine lv_iload_n hx hb dX9_requests_94 rfl (lv_at hl 1 rfl) ?_
      refine lv_icmp_ne (tgt := 113) hx hb dX9_requests_95 (by decide) (fun c23 => ?_) (fun c23 => ?_)
      · have hV := jF1 hV c23
        refine lv_iconst (v := 0) hx hb dX9_requests_113 (by decide) ?_
        refine lv_iadd hx hb dX9_requests_114 ?_
        refine va_put (D := D) (ci := 11) (v := .int ((M 0 6) + (0 : Int32))) (ty := .int) (C := RX9) (T := TX9) (N := 16) hx hb hts ju_X9 tyX9 tyX9_ok nmX9 hown hK hP hD hS 0 rfl rfl 6 (by decide) (hts _ jq_12_21) (fun _ h9 => h9) rfl (by decide +kernel) rfl rfl (Nat.le_of_ble_eq_true rfl) dX9_requests_115 (fun H locs hP hD hS => ?_)
        obtain ⟨M15, e16, hV⟩ := jLet hV
        have hP : va_P D vwCl (wM a G M15) H := by rw [e16]; exact hP
        have hD : va_D A (wM a G M15) := by rw [e16]; exact hD
        refine lv_iinc (v := (v5 + 1)) (lv' := [(5, .int (v5 + 1)), (0, .ref (a 0)), (1, .int v1), (2, .int v2), (3, .int v3), (4, .int v4)]) hx hb dX9_requests_118 hl (k := 5) rfl rfl (by decide) rfl (fun ls hl => ?_)
        refine lv_goto (tgt := 75) hx hb dX9_requests_121 (by decide) ?_
        exact ih M15 v1 v2 v3 v4 (v5 + 1) _ _ _ hP hD hS (lv_sub hl [1, 2, 3, 4, 5, 0] rfl) hV
      · have hV := jT1 hV c23
        refine lv_aload_n hx hb dX9_requests_98 rfl (lv_at hl 0 rfl) ?_
        refine lv_iload hx hb dX9_requests_99 (lv_at hl 5 rfl) ?_
        refine lv_iconst (v := 2) hx hb dX9_requests_101 (by decide) ?_
        obtain ⟨r17, hr17, hV⟩ := jBind hV
        refine jVpI C dX9_requests_102 (k_X9_r l D G a N M v5 (2 : Int32) r17 hr17) jy_X9_r jq_14_10 jq_14_11 jq_14_12 ⟨rfl, rfl, Nat.le_of_ble_eq_true rfl, Nat.le_of_ble_eq_true rfl⟩ ⟨Nat.le_of_ble_eq_true rfl, Nat.le_of_ble_eq_true rfl⟩ hP  (ci := 11) (iw := 0) rfl rfl rfl hl (rest := [.int (M 0 6), .ref (a 0)]) rfl (Nat.le_of_ble_eq_true rfl) ?_
        refine lv_iload_n hx hb dX9_requests_105 rfl (lv_at hl 3 rfl) ?_
        refine lv_icmp_lt (tgt := 113) hx hb dX9_requests_106 (by decide) (fun c22 => ?_) (fun c22 => ?_)
        · have hV := jT1 hV c22
          refine lv_iconst (v := 0) hx hb dX9_requests_113 (by decide) ?_
          refine lv_iadd hx hb dX9_requests_114 ?_
          refine va_put (D := D) (ci := 11) (v := .int ((M 0 6) + (0 : Int32))) (ty := .int) (C := RX9) (T := TX9) (N := 16) hx hb hts ju_X9 tyX9 tyX9_ok nmX9 hown hK hP hD hS 0 rfl rfl 6 (by decide) (hts _ jq_12_21) (fun _ h9 => h9) rfl (by decide +kernel) rfl rfl (Nat.le_of_ble_eq_true rfl) dX9_requests_115 (fun H locs hP hD hS => ?_)
          obtain ⟨M18, e19, hV⟩ := jLet hV
          have hP : va_P D vwCl (wM a G M18) H := by rw [e19]; exact hP
          have hD : va_D A (wM a G M18) := by rw [e19]; exact hD
          refine lv_iinc (v := (v5 + 1)) (lv' := [(5, .int (v5 + 1)), (0, .ref (a 0)), (1, .int v1), (2, .int v2), (3, .int v3), (4, .int v4)]) hx hb dX9_requests_118 hl (k := 5) rfl rfl (by decide) rfl (fun ls hl => ?_)
          refine lv_goto (tgt := 75) hx hb dX9_requests_121 (by decide) ?_
          exact ih M18 v1 v2 v3 v4 (v5 + 1) _ _ _ hP hD hS (lv_sub hl [1, 2, 3, 4, 5, 0] rfl) hV
        · have hV := jF1 hV c22
          refine lv_iconst (v := 1) hx hb dX9_requests_109 (by decide) ?_
          refine lv_goto (tgt := 114) hx hb dX9_requests_110 (by decide) ?_
          refine lv_iadd hx hb dX9_requests_114 ?_
          refine va_put (D := D) (ci := 11) (v := .int ((M 0 6) + (1 : Int32))) (ty := .int) (C := RX9) (T := TX9) (N := 16) hx hb hts ju_X9 tyX9 tyX9_ok nmX9 hown hK hP hD hS 0 rfl rfl 6 (by decide) (hts _ jq_12_21) (fun _ h9 => h9) rfl (by decide +kernel) rfl rfl (Nat.le_of_ble_eq_true rfl) dX9_requests_115 (fun H locs hP hD hS => ?_)
          obtain ⟨M20, e21, hV⟩ := jLet hV
          have hP : va_P D vwCl (wM a G M20) H := by rw [e21]; exact hP
          have hD : va_D A (wM a G M20) := by rw [e21]; exact hD
          refine lv_iinc (v := (v5 + 1)) (lv' := [(5, .int (v5 + 1)), (0, .ref (a 0)), (1, .int v1), (2, .int v2), (3, .int v3), (4, .int v4)]) hx hb dX9_requests_118 hl (k := 5) rfl rfl (by decide) rfl (fun ls hl => ?_)
          refine lv_goto (tgt := 75) hx hb dX9_requests_121 (by decide) ?_
          exact ih M20 v1 v2 v3 v4 (v5 + 1) _ _ _ hP hD hS (lv_sub hl [1, 2, 3, 4, 5, 0] rfl) hV
def D_X9_requests_55 (N : Nat)  (M : Nat → Nat → Int32) (v1 : Int32) (v2 : Int32) (v3 : Int32) (v4 : Int32) (s0 : Int32) : Option (Int32 × (Nat → Nat → Int32)) := ((F_X9_isRefused N M s0 (8 : Int32) (20 : Int32)).bind (fun r25 => (if r25.1 = 0 then (jlet (stF r25.2 6 (0 : Int32)) (fun M26 => (D_X9_requests_75 N   N M26 v1 v2 v3 v4 (0 : Int32)))) else (some ((4 : Int32), r25.2)))))
set_option maxHeartbeats 4000000 in
set_option maxRecDepth 100000 in
theorem B_X9_requests_55 {p : Program} {l : Launch} {e : Env} {s : State} {m : MethodId} {args : Array Value} {below : List Frame} {meth : Method} {c : Code} {D : va_G} {G : Nat → ClassId} {A : Nat → Prop} (C : Cx p s m args meth c cX9_requests 6 RX9 (some .int) D G) (hA : ∀ q : Nat, s.heap.size ≤ q → A q) (N : Nat) (a : Nat → Nat) (r : (Int32 × (Nat → Nat → Int32))) : (∀ (M : Nat → Nat → Int32) (v1 : Int32) (v2 : Int32) (v3 : Int32) (v4 : Int32) (s0 : Int32) (ls : Array Slot) (H : Heap) (locs : List Loc), va_P D vwCl (wM a G M) H → va_D A (wM a G M) → va_S A s.heap H locs → lv_has ls 6 [(0, .ref (a 0)), (1, .int v1), (2, .int v2), (3, .int v3), (4, .int v4)] → D_X9_requests_55 N   M v1 v2 v3 v4 s0 = some r → W p l e ({ frames := 2, cells := 0, slots := 0, locals := 43 } : Room) s m args below meth c H locs 0 0 (MQ below (mQ D (wM a G r.2) (some (.int r.1)) A) args s 0 0 A) (F0 m 55 ls [.int s0, .ref (a 0)])) := by
  have C := C
  obtain ⟨hx, hb, hr, hml, hts, hown, hlocks, hK0⟩ := id C
  have hK := hK0.1
  intro M v1 v2 v3 v4 s0 ls H locs hP hD hS hl hV
  rw [D_X9_requests_55] at hV
  refine lv_bipush (v := 8) hx hb dX9_requests_55 (by decide) ?_
  refine lv_bipush (v := 20) hx hb dX9_requests_57 (by decide) ?_
  obtain ⟨r25, hr25, hV⟩ := jBind hV
  refine jVmI C dX9_requests_59 (k_X9_isRefused l D G a N M s0 (8 : Int32) (20 : Int32) r25 hr25) jy_X9_isRefused jq_13_20 jq_13_21 jq_13_22 ⟨rfl, rfl, Nat.le_of_ble_eq_true rfl, Nat.le_of_ble_eq_true rfl⟩ ⟨Nat.le_of_ble_eq_true rfl, Nat.le_of_ble_eq_true rfl⟩ hP hD hA hS (ci := 11) (iw := 0) rfl rfl rfl hl (rest := []) rfl (Nat.le_of_ble_eq_true rfl) (fun H locs hQ hz hkp hS => ?_)
  have hP : va_P D vwCl (wM a G r25.2) H := hQ
  have hD : va_D A (wM a G r25.2) := jD (w := (wM a G M)) rfl hD
  refine lv_if_eq (tgt := 67) hx hb dX9_requests_62 (by decide) (fun c28 => ?_) (fun c28 => ?_)
  · have hV := jT1 hV c28
    refine lv_aload_n hx hb dX9_requests_67 rfl (lv_at hl 0 rfl) ?_
    refine lv_iconst (v := 0) hx hb dX9_requests_68 (by decide) ?_
    refine va_put (D := D) (ci := 11) (v := .int (0 : Int32)) (ty := .int) (C := RX9) (T := TX9) (N := 16) hx hb hts ju_X9 tyX9 tyX9_ok nmX9 hown hK hP hD hS 0 rfl rfl 6 (by decide) (hts _ jq_12_21) (fun _ h9 => h9) rfl (by decide +kernel) rfl rfl (Nat.le_of_ble_eq_true rfl) dX9_requests_69 (fun H locs hP hD hS => ?_)
    obtain ⟨M26, e27, hV⟩ := jLet hV
    have hP : va_P D vwCl (wM a G M26) H := by rw [e27]; exact hP
    have hD : va_D A (wM a G M26) := by rw [e27]; exact hD
    refine lv_iconst (v := 0) hx hb dX9_requests_72 (by decide) ?_
    refine lv_istore (lv' := [(5, .int (0 : Int32)), (0, .ref (a 0)), (1, .int v1), (2, .int v2), (3, .int v3), (4, .int v4)]) hx hb dX9_requests_73 hl (by decide) rfl (fun ls hl => ?_)
    exact B_X9_requests_75 C hA N a r   N M26 v1 v2 v3 v4 (0 : Int32) _ _ _ hP hD hS (lv_sub hl [1, 2, 3, 4, 5, 0] rfl) hV
  · have hV := jF1 hV c28
    refine lv_iconst (v := 4) hx hb dX9_requests_65 (by decide) ?_
    cases hV
    exact mRet C rfl dX9_requests_66 rfl rfl hP hS
def F_X9_requests (N : Nat)  (M : Nat → Nat → Int32) (v1 v2 v3 : Int32) : Option (Int32 × (Nat → Nat → Int32)) := ((F_X9_isPerformance N M v1).bind (fun r29 => (if r29 = 0 then (some ((1 : Int32), M)) else ((F_X9_in N  v2 (1 : Int32) (99 : Int32)).bind (fun r30 => (if r30 = 0 then (some ((2 : Int32), M)) else ((F_X9_in N  v3 (0 : Int32) (9 : Int32)).bind (fun r31 => (if r31 = 0 then (some ((2 : Int32), M)) else (if inb (180 : Int32) 2169 = true then (if ((M 1) (180 : Int32).toNatClampNeg) = (20 : Int32) then (D_X9_requests_55 N   M v1 v2 v3 ((M 1) (180 : Int32).toNatClampNeg) (1 : Int32)) else (D_X9_requests_55 N   M v1 v2 v3 ((M 1) (180 : Int32).toNatClampNeg) (0 : Int32))) else none))))))))))
set_option maxHeartbeats 4000000 in
set_option maxRecDepth 100000 in
theorem k_X9_requests (l : Launch) (D : va_G) (G : Nat → ClassId) (a : Nat → Nat) (N : Nat) (M : Nat → Nat → Int32) (v1 v2 v3 : Int32) (r : (Int32 × (Nat → Nat → Int32))) (hV : F_X9_requests N  M v1 v2 v3 = some r) : mM l yX9_requests (jws yX9_requests cX9_requests 6 (some .int)) ({ frames := 2, cells := 0, slots := 0, locals := 43 } : Room) [.ref (a 0), .int v1, .int v2, .int v3] D G (wM a G M) (wM a G r.2) (some (.int r.1)) := by
  refine mM_of (by decide +kernel) (Nat.le_of_ble_eq_true rfl) (fun p e s m args below meth c ls A C hP hD hA hl => ?_)
  have C : Cx p s m args meth c cX9_requests 6 RX9 (some .int) D G := C
  have hS : va_S A s.heap s.heap [] := va_S.rf
  obtain ⟨hx, hb, hr, hml, hts, hown, hlocks, hK0⟩ := id C
  have hK := hK0.1
  have hl : lv_has ls 6 [(0, .ref (a 0)), (1, .int v1), (2, .int v2), (3, .int v3)] := hl
  rw [F_X9_requests] at hV
  refine lv_aload_n hx hb dX9_requests_0 rfl (lv_at hl 0 rfl) ?_
  refine lv_iload_n hx hb dX9_requests_1 rfl (lv_at hl 1 rfl) ?_
  obtain ⟨r29, hr29, hV⟩ := jBind hV
  refine jVpI C dX9_requests_2 (k_X9_isPerformance l D G a N M v1 r29 hr29) jy_X9_isPerformance jq_26_1 jq_26_2 jq_26_3 ⟨rfl, rfl, Nat.le_of_ble_eq_true rfl, Nat.le_of_ble_eq_true rfl⟩ ⟨Nat.le_of_ble_eq_true rfl, Nat.le_of_ble_eq_true rfl⟩ hP  (ci := 11) (iw := 0) rfl rfl rfl hl (rest := []) rfl (Nat.le_of_ble_eq_true rfl) ?_
  refine lv_if_ne (tgt := 10) hx hb dX9_requests_5 (by decide) (fun c36 => ?_) (fun c36 => ?_)
  · have hV := jF1 hV c36
    refine lv_iload_n hx hb dX9_requests_10 rfl (lv_at hl 2 rfl) ?_
    refine lv_iconst (v := 1) hx hb dX9_requests_11 (by decide) ?_
    refine lv_bipush (v := 99) hx hb dX9_requests_12 (by decide) ?_
    obtain ⟨r30, hr30, hV⟩ := jBind hV
    refine jSpI C dX9_requests_14 (k_X9_in l D G  N  v2 (1 : Int32) (99 : Int32) r30 hr30) jy_X9_in jq_13_1 jq_13_2 ⟨rfl, rfl, Nat.le_of_ble_eq_true rfl, Nat.le_of_ble_eq_true rfl⟩ ⟨Nat.le_of_ble_eq_true rfl, Nat.le_of_ble_eq_true rfl⟩ jE  hl (rest := []) rfl (Nat.le_of_ble_eq_true rfl) ?_
    refine lv_if_eq (tgt := 30) hx hb dX9_requests_17 (by decide) (fun c35 => ?_) (fun c35 => ?_)
    · have hV := jT1 hV c35
      refine lv_iconst (v := 2) hx hb dX9_requests_30 (by decide) ?_
      cases hV
      exact mRet C rfl dX9_requests_31 rfl rfl hP hS
    · have hV := jF1 hV c35
      refine lv_iload_n hx hb dX9_requests_20 rfl (lv_at hl 3 rfl) ?_
      refine lv_iconst (v := 0) hx hb dX9_requests_21 (by decide) ?_
      refine lv_bipush (v := 9) hx hb dX9_requests_22 (by decide) ?_
      obtain ⟨r31, hr31, hV⟩ := jBind hV
      refine jSpI C dX9_requests_24 (k_X9_in l D G  N  v3 (0 : Int32) (9 : Int32) r31 hr31) jy_X9_in jq_13_1 jq_13_2 ⟨rfl, rfl, Nat.le_of_ble_eq_true rfl, Nat.le_of_ble_eq_true rfl⟩ ⟨Nat.le_of_ble_eq_true rfl, Nat.le_of_ble_eq_true rfl⟩ jE  hl (rest := []) rfl (Nat.le_of_ble_eq_true rfl) ?_
      refine lv_if_ne (tgt := 32) hx hb dX9_requests_27 (by decide) (fun c34 => ?_) (fun c34 => ?_)
      · have hV := jF1 hV c34
        refine lv_aload_n hx hb dX9_requests_32 rfl (lv_at hl 0 rfl) ?_
        refine va_get (D := D) (ci := 11) (v := .ref (a 1)) (C := RX9) (T := TX9) (N := 16) hx hb hts ju_X9 hown hK hP 0 rfl rfl 1 (by decide) (hts _ jq_6_1) (fun _ h9 => h9) rfl dX9_requests_33 ?_
        refine lv_sipush (v := 180) hx hb dX9_requests_36 (by decide) ?_
        obtain ⟨g32, hV⟩ := jIf hV
        refine va_iald (D := D) (n := 2169) (f := (M 1)) hx hb hK hP 1 0 rfl rfl (inb_of g32) dX9_requests_39 ?_
        refine lv_istore (lv' := [(4, .int ((M 1) (180 : Int32).toNatClampNeg)), (0, .ref (a 0)), (1, .int v1), (2, .int v2), (3, .int v3)]) hx hb dX9_requests_40 hl (by decide) rfl (fun ls hl => ?_)
        refine lv_aload_n hx hb dX9_requests_42 rfl (lv_at hl 1 rfl) ?_
        refine lv_iload hx hb dX9_requests_43 (lv_at hl 0 rfl) ?_
        refine lv_bipush (v := 20) hx hb dX9_requests_45 (by decide) ?_
        refine lv_icmp_ne (tgt := 54) hx hb dX9_requests_47 (by decide) (fun c33 => ?_) (fun c33 => ?_)
        · have hV := jF1 hV c33
          refine lv_iconst (v := 0) hx hb dX9_requests_54 (by decide) ?_
          exact B_X9_requests_55 C hA N a r   M v1 v2 v3 ((M 1) (180 : Int32).toNatClampNeg) (0 : Int32) _ _ _ hP hD hS (lv_sub hl [1, 2, 3, 4, 0] rfl) hV
        · have hV := jT1 hV c33
          refine lv_iconst (v := 1) hx hb dX9_requests_50 (by decide) ?_
          refine lv_goto (tgt := 55) hx hb dX9_requests_51 (by decide) ?_
          exact B_X9_requests_55 C hA N a r   M v1 v2 v3 ((M 1) (180 : Int32).toNatClampNeg) (1 : Int32) _ _ _ hP hD hS (lv_sub hl [1, 2, 3, 4, 0] rfl) hV
      · have hV := jT1 hV c34
        refine lv_iconst (v := 2) hx hb dX9_requests_30 (by decide) ?_
        cases hV
        exact mRet C rfl dX9_requests_31 rfl rfl hP hS
  · have hV := jT1 hV c36
    refine lv_iconst (v := 1) hx hb dX9_requests_8 (by decide) ?_
    cases hV
    exact mRet C rfl dX9_requests_9 rfl rfl hP hS
