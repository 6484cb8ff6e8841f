theorem jy_X4_countFor : jY yX4_countFor cX4_countFor 4 (some .int) 1 := ⟨by decide +kernel, jq_18_23, jq_3_8⟩
def D_X4_countFor_4 (N : Nat)  (M : Nat → Nat → Int32) : Nat → Int32 → Int32 → Int32 → Option Int32
  | 0, _, _, _ => none
  | n + 1, v1, v2, v3 => (if (M 0 5) ≤ v3 then (some v2) else (if (rg 20 (M 15) v3) = v1 then (D_X4_countFor_4 N  M  n  v1 (v2 + 1) (v3 + 1)) else (D_X4_countFor_4 N  M  n  v1 v2 (v3 + 1))))
set_option maxHeartbeats 4000000 in
set_option maxRecDepth 100000 in
theorem B_X4_countFor_4 {p : Program} {l : Launch} {e : Env} {s : State} {m : MethodId} {args : Array Value} {below : List Frame} {meth : Method} {c : Code} {D : va_G} {G : Nat → ClassId} (C : Cx p s m args meth c cX4_countFor 4 RX4 (some .int) D G) (N : Nat) (a : Nat → Nat) (M : Nat → Nat → Int32) (r : Int32) (hP : va_P D vwCl (wReqs a G M) s.heap) : (∀ (n : Nat) (v1 : Int32) (v2 : Int32) (v3 : Int32) (ls : Array Slot), lv_has ls 4 [(0, .ref (a 39)), (1, .int v1), (2, .int v2), (3, .int v3)] → D_X4_countFor_4 N  M  n v1 v2 v3 = some r → W p l e ({ frames := 1, cells := 0, slots := 0, locals := 21 } : Room) s m args below meth c s.heap [] 0 0 (MQ below (QcRd (some (.int r))) args s 0 0 nofree) (F0 m 4 ls [])) := by
  have C := C
  obtain ⟨hx, hb, hr, hml, hts, hown, hlocks, hK0⟩ := id C
  have hK := hK0.1
  intro n
  induction n with
  | zero =>
    intro v1 v2 v3 ls hl hV
    rw [D_X4_countFor_4] at hV
    cases hV
  | succ n ih =>
    intro v1 v2 v3 ls hl hV
    rw [D_X4_countFor_4] at hV
    refine lv_iload_n hx hb dX4_countFor_4 rfl (lv_at hl 3 rfl) ?_
    refine lv_aload_n hx hb dX4_countFor_5 rfl (lv_at hl 0 rfl) ?_
    refine va_get (D := D) (ci := 6) (v := .int (M 0 5)) (C := RX4) (T := TX4) (N := 4) hx hb hts ju_X4 hown hK hP 0 rfl rfl 0 (by decide) (hts _ jq_10_14) (fun _ h9 => h9) rfl dX4_countFor_6 ?_
    refine lv_icmp_ge (tgt := 33) hx hb dX4_countFor_9 (by decide) (fun c3 => ?_) (fun c3 => ?_)
    · have hV := jT1 hV c3
      refine lv_iload_n hx hb dX4_countFor_33 rfl (lv_at hl 2 rfl) ?_
      exact pRet C rfl dX4_countFor_34 rfl (Option.some.inj hV)
    · have hV := jF1 hV c3
      refine lv_aload_n hx hb dX4_countFor_12 rfl (lv_at hl 0 rfl) ?_
      refine va_get (D := D) (ci := 6) (v := .ref (a 30)) (C := RX4) (T := TX4) (N := 4) hx hb hts ju_X4 hown hK hP 0 rfl rfl 1 (by decide) (hts _ jq_4_23) (fun _ h9 => h9) rfl dX4_countFor_13 ?_
      refine lv_iload_n hx hb dX4_countFor_16 rfl (lv_at hl 3 rfl) ?_
      refine jVpI C dX4_countFor_17 (kt_X5_get l D G (a 30) (a 31) 20 (Nat.le_of_ble_eq_true rfl) (M 15) v3) jy_X5_get jq_18_9 jq_6_13 jq_6_14 ⟨rfl, rfl, Nat.le_of_ble_eq_true rfl, Nat.le_of_ble_eq_true rfl⟩ ⟨Nat.le_of_ble_eq_true rfl, Nat.le_of_ble_eq_true rfl⟩ (sX4_15 hP)  (ci := 7) (iw := 0) rfl rfl rfl hl (rest := []) rfl (Nat.le_of_ble_eq_true rfl) ?_
      refine lv_iload_n hx hb dX4_countFor_20 rfl (lv_at hl 1 rfl) ?_
      refine lv_icmp_ne (tgt := 27) hx hb dX4_countFor_21 (by decide) (fun c2 => ?_) (fun c2 => ?_)
      · have hV := jF1 hV c2
        refine lv_iinc (v := (v3 + 1)) (lv' := [(3, .int (v3 + 1)), (0, .ref (a 39)), (1, .int v1), (2, .int v2)]) hx hb dX4_countFor_27 hl (k := 3) rfl rfl (by decide) rfl (fun ls hl => ?_)
        refine lv_goto (tgt := 4) hx hb dX4_countFor_30 (by decide) ?_
        exact ih  v1 v2 (v3 + 1) _ (lv_sub hl [1, 2, 3, 0] rfl) hV
      · have hV := jT1 hV c2
        refine lv_iinc (v := (v2 + 1)) (lv' := [(2, .int (v2 + 1)), (0, .ref (a 39)), (1, .int v1), (3, .int v3)]) hx hb dX4_countFor_24 hl (k := 2) rfl rfl (by decide) rfl (fun ls hl => ?_)
        refine lv_iinc (v := (v3 + 1)) (lv' := [(3, .int (v3 + 1)), (2, .int (v2 + 1)), (0, .ref (a 39)), (1, .int v1)]) hx hb dX4_countFor_27 hl (k := 3) rfl rfl (by decide) rfl (fun ls hl => ?_)
        refine lv_goto (tgt := 4) hx hb dX4_countFor_30 (by decide) ?_
        exact ih  v1 (v2 + 1) (v3 + 1) _ (lv_sub hl [2, 3, 1, 0] rfl) hV
def F_X4_countFor (N : Nat)  (M : Nat → Nat → Int32) (v1 : Int32) : Option Int32 := (D_X4_countFor_4 N  M  N  v1 (0 : Int32) (0 : Int32))
set_option maxHeartbeats 4000000 in
set_option maxRecDepth 100000 in
theorem k_X4_countFor (l : Launch) (D : va_G) (G : Nat → ClassId) (a : Nat → Nat) (N : Nat) (M : Nat → Nat → Int32) (v1 : Int32) (r : Int32) (hV : F_X4_countFor N  M v1 = some r) : pM l yX4_countFor (jws yX4_countFor cX4_countFor 4 (some .int)) ({ frames := 1, cells := 0, slots := 0, locals := 21 } : Room) [.ref (a 39), .int v1] D G (wReqs a G M) (some (.int r)) := by
  refine pM_of (by decide +kernel) (Nat.le_of_ble_eq_true rfl) (fun p e s m args below meth c ls C hP hl => ?_)
  have C : Cx p s m args meth c cX4_countFor 4 RX4 (some .int) D G := C
  obtain ⟨hx, hb, hr, hml, hts, hown, hlocks, hK0⟩ := id C
  have hK := hK0.1
  have hl : lv_has ls 4 [(0, .ref (a 39)), (1, .int v1)] := hl
  rw [F_X4_countFor] at hV
  refine lv_iconst (v := 0) hx hb dX4_countFor_0 (by decide) ?_
  refine lv_istore_n (lv' := [(2, .int (0 : Int32)), (0, .ref (a 39)), (1, .int v1)]) hx hb dX4_countFor_1 rfl hl (by decide) rfl (fun ls hl => ?_)
  refine lv_iconst (v := 0) hx hb dX4_countFor_2 (by decide) ?_
  refine lv_istore_n (lv' := [(3, .int (0 : Int32)), (2, .int (0 : Int32)), (0, .ref (a 39)), (1, .int v1)]) hx hb dX4_countFor_3 rfl hl (by decide) rfl (fun ls hl => ?_)
  exact B_X4_countFor_4 C  N a M r hP   N  v1 (0 : Int32) (0 : Int32) _ (lv_sub hl [2, 3, 1, 0] rfl) hV
theorem jy_X4_find : jY yX4_find cX4_find 5 (some .int) 2 := ⟨by decide +kernel, jq_20_0, jq_3_8⟩
def D_X4_find_5 (N : Nat)  (M : Nat → Nat → Int32) : Nat → Int32 → Int32 → Int32 → Int32 → Option Int32
  | 0, _, _, _, _ => none
  | n + 1, v1, v2, v3, v4 => (if (M 0 5) ≤ v4 then (some (-1 : Int32)) else (if (rg 20 (M 15) v4) = v1 then (if v3 = v2 then (some v4) else (D_X4_find_5 N  M  n  v1 v2 (v3 + 1) (v4 + 1))) else (D_X4_find_5 N  M  n  v1 v2 v3 (v4 + 1))))
set_option maxHeartbeats 4000000 in
set_option maxRecDepth 100000 in
theorem B_X4_find_5 {p : Program} {l : Launch} {e : Env} {s : State} {m : MethodId} {args : Array Value} {below : List Frame} {meth : Method} {c : Code} {D : va_G} {G : Nat → ClassId} (C : Cx p s m args meth c cX4_find 5 RX4 (some .int) D G) (N : Nat) (a : Nat → Nat) (M : Nat → Nat → Int32) (r : Int32) (hP : va_P D vwCl (wReqs a G M) s.heap) : (∀ (n : Nat) (v1 : Int32) (v2 : Int32) (v3 : Int32) (v4 : Int32) (ls : Array Slot), lv_has ls 5 [(0, .ref (a 39)), (1, .int v1), (2, .int v2), (3, .int v3), (4, .int v4)] → D_X4_find_5 N  M  n v1 v2 v3 v4 = some r → W p l e ({ frames := 1, cells := 0, slots := 0, locals := 21 } : Room) s m args below meth c s.heap [] 0 0 (MQ below (QcRd (some (.int r))) args s 0 0 nofree) (F0 m 5 ls [])) := by
  have C := C
  obtain ⟨hx, hb, hr, hml, hts, hown, hlocks, hK0⟩ := id C
  have hK := hK0.1
  intro n
  induction n with
  | zero =>
    intro v1 v2 v3 v4 ls hl hV
    rw [D_X4_find_5] at hV
    cases hV
  | succ n ih =>
    intro v1 v2 v3 v4 ls hl hV
    rw [D_X4_find_5] at hV
    refine lv_iload hx hb dX4_find_5 (lv_at hl 4 rfl) ?_
    refine lv_aload_n hx hb dX4_find_7 rfl (lv_at hl 0 rfl) ?_
    refine va_get (D := D) (ci := 6) (v := .int (M 0 5)) (C := RX4) (T := TX4) (N := 4) hx hb hts ju_X4 hown hK hP 0 rfl rfl 0 (by decide) (hts _ jq_10_14) (fun _ h9 => h9) rfl dX4_find_8 ?_
    refine lv_icmp_ge (tgt := 44) hx hb dX4_find_11 (by decide) (fun c4 => ?_) (fun c4 => ?_)
    · have hV := jT1 hV c4
      refine lv_iconst (v := -1) hx hb dX4_find_44 (by decide) ?_
      exact pRet C rfl dX4_find_45 rfl (Option.some.inj hV)
    · have hV := jF1 hV c4
      refine lv_aload_n hx hb dX4_find_14 rfl (lv_at hl 0 rfl) ?_
      refine va_get (D := D) (ci := 6) (v := .ref (a 30)) (C := RX4) (T := TX4) (N := 4) hx hb hts ju_X4 hown hK hP 0 rfl rfl 1 (by decide) (hts _ jq_4_23) (fun _ h9 => h9) rfl dX4_find_15 ?_
      refine lv_iload hx hb dX4_find_18 (lv_at hl 4 rfl) ?_
      refine jVpI C dX4_find_20 (kt_X5_get l D G (a 30) (a 31) 20 (Nat.le_of_ble_eq_true rfl) (M 15) v4) jy_X5_get jq_18_9 jq_6_13 jq_6_14 ⟨rfl, rfl, Nat.le_of_ble_eq_true rfl, Nat.le_of_ble_eq_true rfl⟩ ⟨Nat.le_of_ble_eq_true rfl, Nat.le_of_ble_eq_true rfl⟩ (sX4_15 hP)  (ci := 7) (iw := 0) rfl rfl rfl hl (rest := []) rfl (Nat.le_of_ble_eq_true rfl) ?_
      refine lv_iload_n hx hb dX4_find_23 rfl (lv_at hl 1 rfl) ?_
      refine lv_icmp_ne (tgt := 38) hx hb dX4_find_24 (by decide) (fun c3 => ?_) (fun c3 => ?_)
      · have hV := jF1 hV c3
        refine lv_iinc (v := (v4 + 1)) (lv' := [(4, .int (v4 + 1)), (0, .ref (a 39)), (1, .int v1), (2, .int v2), (3, .int v3)]) hx hb dX4_find_38 hl (k := 4) rfl rfl (by decide) rfl (fun ls hl => ?_)
        refine lv_goto (tgt := 5) hx hb dX4_find_41 (by decide) ?_
        exact ih  v1 v2 v3 (v4 + 1) _ (lv_sub hl [1, 2, 3, 4, 0] rfl) hV
      · have hV := jT1 hV c3
        refine lv_iload_n hx hb dX4_find_27 rfl (lv_at hl 3 rfl) ?_
        refine lv_iload_n hx hb dX4_find_28 rfl (lv_at hl 2 rfl) ?_
        refine lv_icmp_ne (tgt := 35) hx hb dX4_find_29 (by decide) (fun c2 => ?_) (fun c2 => ?_)
        · have hV := jF1 hV c2
          refine lv_iinc (v := (v3 + 1)) (lv' := [(3, .int (v3 + 1)), (0, .ref (a 39)), (1, .int v1), (2, .int v2), (4, .int v4)]) hx hb dX4_find_35 hl (k := 3) rfl rfl (by decide) rfl (fun ls hl => ?_)
          refine lv_iinc (v := (v4 + 1)) (lv' := [(4, .int (v4 + 1)), (3, .int (v3 + 1)), (0, .ref (a 39)), (1, .int v1), (2, .int v2)]) hx hb dX4_find_38 hl (k := 4) rfl rfl (by decide) rfl (fun ls hl => ?_)
          refine lv_goto (tgt := 5) hx hb dX4_find_41 (by decide) ?_
          exact ih  v1 v2 (v3 + 1) (v4 + 1) _ (lv_sub hl [2, 3, 4, 1, 0] rfl) hV
        · have hV := jT1 hV c2
          refine lv_iload hx hb dX4_find_32 (lv_at hl 4 rfl) ?_
          exact pRet C rfl dX4_find_34 rfl (Option.some.inj hV)
def F_X4_find (N : Nat)  (M : Nat → Nat → Int32) (v1 v2 : Int32) : Option Int32 := (D_X4_find_5 N  M  N  v1 v2 (0 : Int32) (0 : Int32))
set_option maxHeartbeats 4000000 in
set_option maxRecDepth 100000 in
theorem k_X4_find (l : Launch) (D : va_G) (G : Nat → ClassId) (a : Nat → Nat) (N : Nat) (M : Nat → Nat → Int32) (v1 v2 : Int32) (r : Int32) (hV : F_X4_find N  M v1 v2 = some r) : pM l yX4_find (jws yX4_find cX4_find 5 (some .int)) ({ frames := 1, cells := 0, slots := 0, locals := 21 } : Room) [.ref (a 39), .int v1, .int v2] D G (wReqs a G M) (some (.int r)) := by
  refine pM_of (by decide +kernel) (Nat.le_of_ble_eq_true rfl) (fun p e s m args below meth c ls C hP hl => ?_)
  have C : Cx p s m args meth c cX4_find 5 RX4 (some .int) D G := C
  obtain ⟨hx, hb, hr, hml, hts, hown, hlocks, hK0⟩ := id C
  have hK := hK0.1
  have hl : lv_has ls 5 [(0, .ref (a 39)), (1, .int v1), (2, .int v2)] := hl
  rw [F_X4_find] at hV
  refine lv_iconst (v := 0) hx hb dX4_find_0 (by decide) ?_
  refine lv_istore_n (lv' := [(3, .int (0 : Int32)), (0, .ref (a 39)), (1, .int v1), (2, .int v2)]) hx hb dX4_find_1 rfl hl (by decide) rfl (fun ls hl => ?_)
  refine lv_iconst (v := 0) hx hb dX4_find_2 (by decide) ?_
  refine lv_istore (lv' := [(4, .int (0 : Int32)), (3, .int (0 : Int32)), (0, .ref (a 39)), (1, .int v1), (2, .int v2)]) hx hb dX4_find_3 hl (by decide) rfl (fun ls hl => ?_)
  exact B_X4_find_5 C  N a M r hP   N  v1 v2 (0 : Int32) (0 : Int32) _ (lv_sub hl [2, 3, 4, 1, 0] rfl) hV
theorem jy_X4_add : jY yX4_add cX4_add 6 (some .int) 3 := ⟨by decide +kernel, jq_18_8, jq_3_8⟩
def D_X4_add_53 (N : Nat)  (M : Nat → Nat → Int32) (v1 : Int32) (v2 : Int32) (v3 : Int32) (v4 : Int32) (v5 : Int32) : Option (Int32 × (Nat → Nat → Int32)) := ((F_X5_insertAt N 20 (M 15) v5 v1).bind (fun r1 => (jlet (u1 M 15 r1) (fun M2 => ((F_X5_insertAt N 20 (M2 16) v5 v2).bind (fun r3 => (jlet (u1 M2 16 r3) (fun M4 => ((F_X5_insertAt N 20 (M4 17) v5 v3).bind (fun r5 => (jlet (u1 M4 17 r5) (fun M6 => (jlet (stF M6 5 ((M6 0 5) + (1 : Int32))) (fun M7 => (some (v4, M7))))))))))))))))
set_option maxHeartbeats 4000000 in
set_option maxRecDepth 100000 in
theorem B_X4_add_53 {p : Program} {l : Launch} {e : Env} {s : State} {m : MethodId} {args : Array Value} {below : List Frame} {meth : Method} {c : Code} {D : va_G} {G : Nat → ClassId} {A : Nat → Prop} (C : Cx p s m args meth c cX4_add 6 RX4 (some .int) D G) (hA : ∀ q : Nat, s.heap.size ≤ q → A q) (N : Nat) (a : Nat → Nat) (r : (Int32 × (Nat → Nat → Int32))) : (∀ (M : Nat → Nat → Int32) (v1 : Int32) (v2 : Int32) (v3 : Int32) (v4 : Int32) (v5 : Int32) (ls : Array Slot) (H : Heap) (locs : List Loc), va_P D vwCl (wReqs a G M) H → va_D A (wReqs a G M) → va_S A s.heap H locs → lv_has ls 6 [(0, .ref (a 39)), (1, .int v1), (2, .int v2), (3, .int v3), (4, .int v4), (5, .int v5)] → D_X4_add_53 N   M v1 v2 v3 v4 v5 = some r → W p l e ({ frames := 2, cells := 0, slots := 0, locals := 45 } : Room) s m args below meth c H locs 0 0 (MQ below (mQ D (wReqs a G r.2) (some (.int r.1)) A) args s 0 0 A) (F0 m 53 ls [])) := by
  have C := C
  obtain ⟨hx, hb, hr, hml, hts, hown, hlocks, hK0⟩ := id C
  have hK := hK0.1
  intro M v1 v2 v3 v4 v5 ls H locs hP hD hS hl hV
  rw [D_X4_add_53] at hV
  refine lv_aload_n hx hb dX4_add_53 rfl (lv_at hl 0 rfl) ?_
  refine va_get (D := D) (ci := 6) (v := .ref (a 30)) (C := RX4) (T := TX4) (N := 4) hx hb hts ju_X4 hown hK hP 0 rfl rfl 1 (by decide) (hts _ jq_4_23) (fun _ h9 => h9) rfl dX4_add_54 ?_
  refine lv_iload hx hb dX4_add_57 (lv_at hl 5 rfl) ?_
  refine lv_iload_n hx hb dX4_add_59 rfl (lv_at hl 1 rfl) ?_
  obtain ⟨r1, hr1, hV⟩ := jBind hV
  refine jVmV C dX4_add_60 (k_X5_insertAt l D G (a 30) (a 31) 20 N (M 15) v5 v1 r1 hr1) jy_X5_insertAt jq_18_10 jq_18_11 jq_18_12 ⟨rfl, rfl, Nat.le_of_ble_eq_true rfl, Nat.le_of_ble_eq_true rfl⟩ ⟨Nat.le_of_ble_eq_true rfl, Nat.le_of_ble_eq_true rfl⟩ (sX4_15 hP) (dX4_15 hD) hA hS (ci := 7) (iw := 0) rfl rfl rfl hl (rest := []) rfl (Nat.le_of_ble_eq_true rfl) (fun H locs hQ hz hkp hS => ?_)
  obtain ⟨M2, e11, hV⟩ := jLet hV
  have hP : va_P D vwCl (wReqs a G M2) H := by rw [e11]; exact jX4_15 hP hD hkp hQ
  have hD : va_D A (wReqs a G M2) := jD (w := (wReqs a G M)) rfl hD
  refine lv_aload_n hx hb dX4_add_63 rfl (lv_at hl 0 rfl) ?_
  refine va_get (D := D) (ci := 6) (v := .ref (a 32)) (C := RX4) (T := TX4) (N := 4) hx hb hts ju_X4 hown hK hP 0 rfl rfl 2 (by decide) (hts _ jq_5_0) (fun _ h9 => h9) rfl dX4_add_64 ?_
  refine lv_iload hx hb dX4_add_67 (lv_at hl 5 rfl) ?_
  refine lv_iload_n hx hb dX4_add_69 rfl (lv_at hl 2 rfl) ?_
  obtain ⟨r3, hr3, hV⟩ := jBind hV
  refine jVmV C dX4_add_70 (k_X5_insertAt l D G (a 32) (a 33) 20 N (M2 16) v5 v2 r3 hr3) jy_X5_insertAt jq_18_10 jq_18_11 jq_18_12 ⟨rfl, rfl, Nat.le_of_ble_eq_true rfl, Nat.le_of_ble_eq_true rfl⟩ ⟨Nat.le_of_ble_eq_true rfl, Nat.le_of_ble_eq_true rfl⟩ (sX4_16 hP) (dX4_16 hD) hA hS (ci := 7) (iw := 0) rfl rfl rfl hl (rest := []) rfl (Nat.le_of_ble_eq_true rfl) (fun H locs hQ hz hkp hS => ?_)
  obtain ⟨M4, e10, hV⟩ := jLet hV
  have hP : va_P D vwCl (wReqs a G M4) H := by rw [e10]; exact jX4_16 hP hD hkp hQ
  have hD : va_D A (wReqs a G M4) := jD (w := (wReqs a G M2)) rfl hD
  refine lv_aload_n hx hb dX4_add_73 rfl (lv_at hl 0 rfl) ?_
  refine va_get (D := D) (ci := 6) (v := .ref (a 34)) (C := RX4) (T := TX4) (N := 4) hx hb hts ju_X4 hown hK hP 0 rfl rfl 3 (by decide) (hts _ jq_5_1) (fun _ h9 => h9) rfl dX4_add_74 ?_
  refine lv_iload hx hb dX4_add_77 (lv_at hl 5 rfl) ?_
  refine lv_iload_n hx hb dX4_add_79 rfl (lv_at hl 3 rfl) ?_
  obtain ⟨r5, hr5, hV⟩ := jBind hV
  refine jVmV C dX4_add_80 (k_X5_insertAt l D G (a 34) (a 35) 20 N (M4 17) v5 v3 r5 hr5) jy_X5_insertAt jq_18_10 jq_18_11 jq_18_12 ⟨rfl, rfl, Nat.le_of_ble_eq_true rfl, Nat.le_of_ble_eq_true rfl⟩ ⟨Nat.le_of_ble_eq_true rfl, Nat.le_of_ble_eq_true rfl⟩ (sX4_17 hP) (dX4_17 hD) hA hS (ci := 7) (iw := 0) rfl rfl rfl hl (rest := []) rfl (Nat.le_of_ble_eq_true rfl) (fun H locs hQ hz hkp hS => ?_)
  obtain ⟨M6, e9, hV⟩ := jLet hV
  have hP : va_P D vwCl (wReqs a G M6) H := by rw [e9]; exact jX4_17 hP hD hkp hQ
  have hD : va_D A (wReqs a G M6) := jD (w := (wReqs a G M4)) rfl hD
  refine lv_aload_n hx hb dX4_add_83 rfl (lv_at hl 0 rfl) ?_
  refine lv_dup hx hb dX4_add_84 rfl ?_
  refine va_get (D := D) (ci := 6) (v := .int (M6 0 5)) (C := RX4) (T := TX4) (N := 4) hx hb hts ju_X4 hown hK hP 0 rfl rfl 0 (by decide) (hts _ jq_10_14) (fun _ h9 => h9) rfl dX4_add_85 ?_
  refine lv_iconst (v := 1) hx hb dX4_add_88 (by decide) ?_
  refine lv_iadd hx hb dX4_add_89 ?_
  refine va_put (D := D) (ci := 6) (v := .int ((M6 0 5) + (1 : Int32))) (ty := .int) (C := RX4) (T := TX4) (N := 4) hx hb hts ju_X4 tyX4 tyX4_ok nmX4 hown hK hP hD hS 0 rfl rfl 0 (by decide) (hts _ jq_10_14) (fun _ h9 => h9) rfl (by decide +kernel) rfl rfl (Nat.le_of_ble_eq_true rfl) dX4_add_90 (fun H locs hP hD hS => ?_)
  obtain ⟨M7, e8, hV⟩ := jLet hV
  have hP : va_P D vwCl (wReqs a G M7) H := by rw [e8]; exact hP
  have hD : va_D A (wReqs a G M7) := by rw [e8]; exact hD
  refine lv_iload hx hb dX4_add_93 (lv_at hl 4 rfl) ?_
  cases hV
  exact mRet C rfl dX4_add_95 rfl rfl hP hS
def D_X4_add_6 (N : Nat)  : Nat → (Nat → Nat → Int32) → Int32 → Int32 → Int32 → Int32 → Int32 → Option (Int32 × (Nat → Nat → Int32))
  | 0, _, _, _, _, _, _ => none
  | n + 1, M, v1, v2, v3, v4, v5 => (if (M 0 5) ≤ v5 then (D_X4_add_53 N   M v1 v2 v3 v4 v5) else (if (rg 20 (M 15) v5) = v1 then (if v3 ≤ (rg 20 (M 17) v5) then (D_X4_add_6 N   n M v1 v2 v3 (v4 + 1) (v5 + 1)) else (D_X4_add_53 N   M v1 v2 v3 v4 v5)) else (D_X4_add_6 N   n M v1 v2 v3 v4 (v5 + 1))))
set_option maxHeartbeats 4000000 in
set_option maxRecDepth 100000 in
theorem B_X4_add_6 {p : Program} {l : Launch} {e : Env} {s : State} {m : MethodId} {args : Array Value} {below : List Frame} {meth : Method} {c : Code} {D : va_G} {G : Nat → ClassId} {A : Nat → Prop} (C : Cx p s m args meth c cX4_add 6 RX4 (some .int) D G) (hA : ∀ q : Nat, s.heap.size ≤ q → A q) (N : Nat) (a : Nat → Nat) (r : (Int32 × (Nat → Nat → Int32))) : (∀ (n : Nat) (M : Nat → Nat → Int32) (v1 : Int32) (v2 : Int32) (v3 : Int32) (v4 : Int32) (v5 : Int32) (ls : Array Slot) (H : Heap) (locs : List Loc), va_P D vwCl (wReqs a G M) H → va_D A (wReqs a G M) → va_S A s.heap H locs → lv_has ls 6 [(0, .ref (a 39)), (1, .int v1), (2, .int v2), (3, .int v3), (4, .int v4), (5, .int v5)] → D_X4_add_6 N   n M v1 v2 v3 v4 v5 = some r → W p l e ({ frames := 2, cells := 0, slots := 0, locals := 45 } : Room) s m args below meth c H locs 0 0 (MQ below (mQ D (wReqs a G r.2) (some (.int r.1)) A) args s 0 0 A) (F0 m 6 ls [])) := by
  have C := C
  obtain ⟨hx, hb, hr, hml, hts, hown, hlocks, hK0⟩ := id C
  have hK := hK0.1
  intro n
  induction n with
  | zero =>
    intro M v1 v2 v3 v4 v5 ls H locs hP hD hS hl hV
    rw [D_X4_add_6] at hV
    cases hV
  | succ n ih =>
    intro M v1 v2 v3 v4 v5 ls H locs hP hD hS hl hV
    rw [D_X4_add_6] at hV
    refine lv_iload hx hb dX4_add_6 (lv_at hl 5 rfl) ?_
    refine lv_aload_n hx hb dX4_add_8 rfl (lv_at hl 0 rfl) ?_
    refine va_get (D := D) (ci := 6) (v := .int (M 0 5)) (C := RX4) (T := TX4) (N := 4) hx hb hts ju_X4 hown hK hP 0 rfl rfl 0 (by decide) (hts _ jq_10_14) (fun _ h9 => h9) rfl dX4_add_9 ?_
    refine lv_icmp_ge (tgt := 53) hx hb dX4_add_12 (by decide) (fun c16 => ?_) (fun c16 => ?_)
    · have hV := jT1 hV c16
      exact B_X4_add_53 C hA N a r   M v1 v2 v3 v4 v5 _ _ _ hP hD hS (lv_sub hl [0, 1, 2, 3, 4, 5] rfl) hV
    · have hV := jF1 hV c16
      refine lv_aload_n hx hb dX4_add_15 rfl (lv_at hl 0 rfl) ?_
      refine va_get (D := D) (ci := 6) (v := .ref (a 30)) (C := RX4) (T := TX4) (N := 4) hx hb hts ju_X4 hown hK hP 0 rfl rfl 1 (by decide) (hts _ jq_4_23) (fun _ h9 => h9) rfl dX4_add_16 ?_
      refine lv_iload hx hb dX4_add_19 (lv_at hl 5 rfl) ?_
      refine jVpI C dX4_add_21 (kt_X5_get l D G (a 30) (a 31) 20 (Nat.le_of_ble_eq_true rfl) (M 15) v5) jy_X5_get jq_18_9 jq_6_13 jq_6_14 ⟨rfl, rfl, Nat.le_of_ble_eq_true rfl, Nat.le_of_ble_eq_true rfl⟩ ⟨Nat.le_of_ble_eq_true rfl, Nat.le_of_ble_eq_true rfl⟩ (sX4_15 hP)  (ci := 7) (iw := 0) rfl rfl rfl hl (rest := []) rfl (Nat.le_of_ble_eq_true rfl) ?_
      refine lv_iload_n hx hb dX4_add_24 rfl (lv_at hl 1 rfl) ?_
      refine lv_icmp_ne (tgt := 47) hx hb dX4_add_25 (by decide) (fun c15 => ?_) (fun c15 => ?_)
      · have hV := jF1 hV c15
        refine lv_iinc (v := (v5 + 1)) (lv' := [(5, .int (v5 + 1)), (0, .ref (a 39)), (1, .int v1), (2, .int v2), (3, .int v3), (4, .int v4)]) hx hb dX4_add_47 hl (k := 5) rfl rfl (by decide) rfl (fun ls hl => ?_)
        refine lv_goto (tgt := 6) hx hb dX4_add_50 (by decide) ?_
        exact ih M v1 v2 v3 v4 (v5 + 1) _ _ _ hP hD hS (lv_sub hl [1, 2, 3, 4, 5, 0] rfl) hV
      · have hV := jT1 hV c15
        refine lv_aload_n hx hb dX4_add_28 rfl (lv_at hl 0 rfl) ?_
        refine va_get (D := D) (ci := 6) (v := .ref (a 34)) (C := RX4) (T := TX4) (N := 4) hx hb hts ju_X4 hown hK hP 0 rfl rfl 3 (by decide) (hts _ jq_5_1) (fun _ h9 => h9) rfl dX4_add_29 ?_
        refine lv_iload hx hb dX4_add_32 (lv_at hl 5 rfl) ?_
        refine jVpI C dX4_add_34 (kt_X5_get l D G (a 34) (a 35) 20 (Nat.le_of_ble_eq_true rfl) (M 17) v5) jy_X5_get jq_18_9 jq_6_13 jq_6_14 ⟨rfl, rfl, Nat.le_of_ble_eq_true rfl, Nat.le_of_ble_eq_true rfl⟩ ⟨Nat.le_of_ble_eq_true rfl, Nat.le_of_ble_eq_true rfl⟩ (sX4_17 hP)  (ci := 7) (iw := 0) rfl rfl rfl hl (rest := []) rfl (Nat.le_of_ble_eq_true rfl) ?_
        refine lv_iload_n hx hb dX4_add_37 rfl (lv_at hl 3 rfl) ?_
        refine lv_icmp_ge (tgt := 44) hx hb dX4_add_38 (by decide) (fun c14 => ?_) (fun c14 => ?_)
        · have hV := jT1 hV c14
          refine lv_iinc (v := (v4 + 1)) (lv' := [(4, .int (v4 + 1)), (0, .ref (a 39)), (1, .int v1), (2, .int v2), (3, .int v3), (5, .int v5)]) hx hb dX4_add_44 hl (k := 4) rfl rfl (by decide) rfl (fun ls hl => ?_)
          refine lv_iinc (v := (v5 + 1)) (lv' := [(5, .int (v5 + 1)), (4, .int (v4 + 1)), (0, .ref (a 39)), (1, .int v1), (2, .int v2), (3, .int v3)]) hx hb dX4_add_47 hl (k := 5) rfl rfl (by decide) rfl (fun ls hl => ?_)
          refine lv_goto (tgt := 6) hx hb dX4_add_50 (by decide) ?_
          exact ih M v1 v2 v3 (v4 + 1) (v5 + 1) _ _ _ hP hD hS (lv_sub hl [2, 3, 4, 5, 1, 0] rfl) hV
        · have hV := jF1 hV c14
          refine lv_goto (tgt := 53) hx hb dX4_add_41 (by decide) ?_
          exact B_X4_add_53 C hA N a r   M v1 v2 v3 v4 v5 _ _ _ hP hD hS (lv_sub hl [0, 1, 2, 3, 4, 5] rfl) hV
def F_X4_add (N : Nat)  (M : Nat → Nat → Int32) (v1 v2 v3 : Int32) : Option (Int32 × (Nat → Nat → Int32)) := (D_X4_add_6 N   N M v1 v2 v3 (0 : Int32) (0 : Int32))
set_option maxHeartbeats 4000000 in
set_option maxRecDepth 100000 in
theorem k_X4_add (l : Launch) (D : va_G) (G : Nat → ClassId) (a : Nat → Nat) (N : Nat) (M : Nat → Nat → Int32) (v1 v2 v3 : Int32) (r : (Int32 × (Nat → Nat → Int32))) (hV : F_X4_add N  M v1 v2 v3 = some r) : mM l yX4_add (jws yX4_add cX4_add 6 (some .int)) ({ frames := 2, cells := 0, slots := 0, locals := 45 } : Room) [.ref (a 39), .int v1, .int v2, .int v3] D G (wReqs a G M) (wReqs a G r.2) (some (.int r.1)) := by
  refine mM_of (by decide +kernel) (Nat.le_of_ble_eq_true rfl) (fun p e s m args below meth c ls A C hP hD hA hl => ?_)
  have C : Cx p s m args meth c cX4_add 6 RX4 (some .int) D G := C
  have hS : va_S A s.heap s.heap [] := va_S.rf
  obtain ⟨hx, hb, hr, hml, hts, hown, hlocks, hK0⟩ := id C
  have hK := hK0.1
  have hl : lv_has ls 6 [(0, .ref (a 39)), (1, .int v1), (2, .int v2), (3, .int v3)] := hl
  rw [F_X4_add] at hV
  refine lv_iconst (v := 0) hx hb dX4_add_0 (by decide) ?_
  refine lv_istore (lv' := [(4, .int (0 : Int32)), (0, .ref (a 39)), (1, .int v1), (2, .int v2), (3, .int v3)]) hx hb dX4_add_1 hl (by decide) rfl (fun ls hl => ?_)
  refine lv_iconst (v := 0) hx hb dX4_add_3 (by decide) ?_
  refine lv_istore (lv' := [(5, .int (0 : Int32)), (4, .int (0 : Int32)), (0, .ref (a 39)), (1, .int v1), (2, .int v2), (3, .int v3)]) hx hb dX4_add_4 hl (by decide) rfl (fun ls hl => ?_)
  exact B_X4_add_6 C hA N a r   N M v1 v2 v3 (0 : Int32) (0 : Int32) _ _ _ hP hD hS (lv_sub hl [2, 3, 4, 5, 1, 0] rfl) hV
