abbrev wM (a : Nat → Nat) (G : Nat → ClassId) (M : Nat → Nat → Int32) : va_W := [(a 0, .inr (11, [.int (M 0 0), .ref (a 1), .int (M 0 2), .int (M 0 3), .int (M 0 4), .int (M 0 5), .int (M 0 6), .int (M 0 7), .int (M 0 8), .ref (a 2), .int (M 0 10), .int (M 0 11), .int (M 0 12), .int (M 0 13), .ref (a 3), .int (M 0 15)])), (a 1, .inl (G 0, 2169, .inl (M 1))), (a 2, .inl (G 1, 60, .inl (M 2))), (a 3, .inl (G 0, 244, .inl (M 3)))]
theorem jy_X9_thrown : jY yX9_thrown cX9_thrown 1 (some .int) 0 := ⟨by decide +kernel, jq_15_11, jq_1_5⟩
def F_X9_thrown (N : Nat)  (M : Nat → Nat → Int32) : Option Int32 := (some (M 0 0))
set_option maxHeartbeats 4000000 in
set_option maxRecDepth 100000 in
theorem k_X9_thrown (l : Launch) (D : va_G) (G : Nat → ClassId) (a : Nat → Nat) (N : Nat) (M : Nat → Nat → Int32) (r : Int32) (hV : F_X9_thrown N  M  = some r) : pM l yX9_thrown (jws yX9_thrown cX9_thrown 1 (some .int)) ({ frames := 0, cells := 0, slots := 0, locals := 0 } : Room) [.ref (a 0)] D G (wM a G M) (some (.int r)) := by
  refine pM_of (by decide +kernel) (Nat.le_of_ble_eq_true rfl) (fun p e s m args below meth c ls C hP hl => ?_)
  have C : Cx p s m args meth c cX9_thrown 1 RX9 (some .int) D G := C
  obtain ⟨hx, hb, hr, hml, hts, hown, hlocks, hK0⟩ := id C
  have hK := hK0.1
  have hl : lv_has ls 1 [(0, .ref (a 0))] := hl
  rw [F_X9_thrown] at hV
  refine lv_aload_n hx hb dX9_thrown_0 rfl (lv_at hl 0 rfl) ?_
  refine va_get (D := D) (ci := 11) (v := .int (M 0 0)) (C := RX9) (T := TX9) (N := 16) hx hb hts ju_X9 hown hK hP 0 rfl rfl 0 (by decide) (hts _ jq_15_2) (fun _ h9 => h9) rfl dX9_thrown_1 ?_
  exact pRet C rfl dX9_thrown_4 rfl (Option.some.inj hV)
theorem jy_X9_in : jY yX9_in cX9_in 3 (some .boolean) 3 := ⟨by decide +kernel, jq_13_3, jq_1_5⟩
def F_X9_in (N : Nat)  (v0 v1 v2 : Int32) : Option Int32 := (if v0 < v1 then (some (0 : Int32)) else (if v2 < v0 then (some (0 : Int32)) else (some (1 : Int32))))
set_option maxHeartbeats 4000000 in
set_option maxRecDepth 100000 in
theorem k_X9_in (l : Launch) (D : va_G) (G : Nat → ClassId)  (N : Nat) (v0 v1 v2 : Int32) (r : Int32) (hV : F_X9_in N  v0 v1 v2 = some r) : pM l yX9_in (jws yX9_in cX9_in 3 (some .boolean)) ({ frames := 0, cells := 0, slots := 0, locals := 0 } : Room) [.int v0, .int v1, .int v2] D G ([] : va_W) (some (.int r)) := by
  refine pM_of (by decide +kernel) (Nat.le_of_ble_eq_true rfl) (fun p e s m args below meth c ls C hP hl => ?_)
  have C : Cx p s m args meth c cX9_in 3 RX9 (some .boolean) D G := C
  obtain ⟨hx, hb, hr, hml, hts, hown, hlocks, hK0⟩ := id C
  have hK := hK0.1
  have hl : lv_has ls 3 [(0, .int v0), (1, .int v1), (2, .int v2)] := hl
  rw [F_X9_in] at hV
  refine lv_iload_n hx hb dX9_in_0 rfl (lv_at hl 0 rfl) ?_
  refine lv_iload_n hx hb dX9_in_1 rfl (lv_at hl 1 rfl) ?_
  refine lv_icmp_lt (tgt := 14) hx hb dX9_in_2 (by decide) (fun c2 => ?_) (fun c2 => ?_)
  · have hV := jT1 hV c2
    refine lv_iconst (v := 0) hx hb dX9_in_14 (by decide) ?_
    exact pRet C rfl dX9_in_15 rfl (Option.some.inj hV)
  · have hV := jF1 hV c2
    refine lv_iload_n hx hb dX9_in_5 rfl (lv_at hl 0 rfl) ?_
    refine lv_iload_n hx hb dX9_in_6 rfl (lv_at hl 2 rfl) ?_
    refine lv_icmp_gt (tgt := 14) hx hb dX9_in_7 (by decide) (fun c1 => ?_) (fun c1 => ?_)
    · have hV := jT1 hV c1
      refine lv_iconst (v := 0) hx hb dX9_in_14 (by decide) ?_
      exact pRet C rfl dX9_in_15 rfl (Option.some.inj hV)
    · have hV := jF1 hV c1
      refine lv_iconst (v := 1) hx hb dX9_in_10 (by decide) ?_
      refine lv_goto (tgt := 15) hx hb dX9_in_11 (by decide) ?_
      exact pRet C rfl dX9_in_15 rfl (Option.some.inj hV)
theorem jy_X9_copies : jY yX9_copies cX9_copies 4 none 2 := ⟨by decide +kernel, jq_12_16, jq_1_5⟩
def D_X9_copies_2 (N : Nat)  : Nat → (Nat → Nat → Int32) → Int32 → Int32 → Int32 → Option (Nat → Nat → Int32)
  | 0, _, _, _, _ => none
  | n + 1, M, v1, v2, v3 => (if (241 : Int32) ≤ v3 then (some M) else (if inb (((241 : Int32) * v1) + v3) 2169 = true then (if inb (((241 : Int32) * v2) + v3) 2169 = true then (jlet (stA M 1 (((241 : Int32) * v2) + v3) ((M 1) (((241 : Int32) * v1) + v3).toNatClampNeg)) (fun M3 => (D_X9_copies_2 N   n M3 v1 v2 (v3 + 1)))) else none) else none))
set_option maxHeartbeats 4000000 in
set_option maxRecDepth 100000 in
theorem B_X9_copies_2 {p : Program} {l : Launch} {e : Env} {s : State} {m : MethodId} {args : Array Value} {below : List Frame} {meth : Method} {c : Code} {D : va_G} {G : Nat → ClassId} {A : Nat → Prop} (C : Cx p s m args meth c cX9_copies 4 RX9 none D G) (hA : ∀ q : Nat, s.heap.size ≤ q → A q) (N : Nat) (a : Nat → Nat) (r : (Nat → Nat → Int32)) : (∀ (n : Nat) (M : Nat → Nat → Int32) (v1 : Int32) (v2 : Int32) (v3 : Int32) (ls : Array Slot) (H : Heap) (locs : List Loc), va_P D vwCl (wM a G M) H → va_D A (wM a G M) → va_S A s.heap H locs → lv_has ls 4 [(0, .ref (a 0)), (1, .int v1), (2, .int v2), (3, .int v3)] → D_X9_copies_2 N   n M v1 v2 v3 = some r → W p l e ({ frames := 0, cells := 0, slots := 0, locals := 0 } : Room) s m args below meth c H locs 0 0 (MQ below (mQ D (wM a G r) none A) args s 0 0 A) (F0 m 2 ls [])) := by
  have C := C
  obtain ⟨hx, hb, hr, hml, hts, hown, hlocks, hK0⟩ := id C
  have hK := hK0.1
  intro n
  induction n with
  | zero =>
    intro M v1 v2 v3 ls H locs hP hD hS hl hV
    rw [D_X9_copies_2] at hV
    cases hV
  | succ n ih =>
    intro M v1 v2 v3 ls H locs hP hD hS hl hV
    rw [D_X9_copies_2] at hV
    refine lv_iload_n hx hb dX9_copies_2 rfl (lv_at hl 3 rfl) ?_
    refine lv_sipush (v := 241) hx hb dX9_copies_3 (by decide) ?_
    refine lv_icmp_ge (tgt := 39) hx hb dX9_copies_6 (by decide) (fun c5 => ?_) (fun c5 => ?_)
    · have hV := jT1 hV c5
      cases hV
      exact mRetV C dX9_copies_39 hP hS
    · have hV := jF1 hV c5
      refine lv_aload_n hx hb dX9_copies_9 rfl (lv_at hl 0 rfl) ?_
      refine va_get (D := D) (ci := 11) (v := .ref (a 1)) (C := RX9) (T := TX9) (N := 16) hx hb hts ju_X9 hown hK hP 0 rfl rfl 1 (by decide) (hts _ jq_6_1) (fun _ h9 => h9) rfl dX9_copies_10 ?_
      refine lv_sipush (v := 241) hx hb dX9_copies_13 (by decide) ?_
      refine lv_iload_n hx hb dX9_copies_16 rfl (lv_at hl 2 rfl) ?_
      refine lv_imul hx hb dX9_copies_17 ?_
      refine lv_iload_n hx hb dX9_copies_18 rfl (lv_at hl 3 rfl) ?_
      refine lv_iadd hx hb dX9_copies_19 ?_
      refine lv_aload_n hx hb dX9_copies_20 rfl (lv_at hl 0 rfl) ?_
      refine va_get (D := D) (ci := 11) (v := .ref (a 1)) (C := RX9) (T := TX9) (N := 16) hx hb hts ju_X9 hown hK hP 0 rfl rfl 1 (by decide) (hts _ jq_6_1) (fun _ h9 => h9) rfl dX9_copies_21 ?_
      refine lv_sipush (v := 241) hx hb dX9_copies_24 (by decide) ?_
      refine lv_iload_n hx hb dX9_copies_27 rfl (lv_at hl 1 rfl) ?_
      refine lv_imul hx hb dX9_copies_28 ?_
      refine lv_iload_n hx hb dX9_copies_29 rfl (lv_at hl 3 rfl) ?_
      refine lv_iadd hx hb dX9_copies_30 ?_
      obtain ⟨g1, hV⟩ := jIf hV
      refine va_iald (D := D) (n := 2169) (f := (M 1)) hx hb hK hP 1 0 rfl rfl (inb_of g1) dX9_copies_31 ?_
      obtain ⟨g2, hV⟩ := jIf hV
      refine va_iast (D := D) (n := 2169) (f := (M 1)) hx hb hK hP hD hS 1 0 rfl rfl (inb_of g2) dX9_copies_32 (fun H locs hP hD hS => ?_)
      obtain ⟨M3, e4, hV⟩ := jLet hV
      have hP : va_P D vwCl (wM a G M3) H := by rw [e4]; exact hP
      have hD : va_D A (wM a G M3) := by rw [e4]; exact hD
      refine lv_iinc (v := (v3 + 1)) (lv' := [(3, .int (v3 + 1)), (0, .ref (a 0)), (1, .int v1), (2, .int v2)]) hx hb dX9_copies_33 hl (k := 3) rfl rfl (by decide) rfl (fun ls hl => ?_)
      refine lv_goto (tgt := 2) hx hb dX9_copies_36 (by decide) ?_
      exact ih M3 v1 v2 (v3 + 1) _ _ _ hP hD hS (lv_sub hl [1, 2, 3, 0] rfl) hV
def F_X9_copies (N : Nat)  (M : Nat → Nat → Int32) (v1 v2 : Int32) : Option (Nat → Nat → Int32) := (D_X9_copies_2 N   N M v1 v2 (0 : Int32))
set_option maxHeartbeats 4000000 in
set_option maxRecDepth 100000 in
theorem k_X9_copies (l : Launch) (D : va_G) (G : Nat → ClassId) (a : Nat → Nat) (N : Nat) (M : Nat → Nat → Int32) (v1 v2 : Int32) (r : (Nat → Nat → Int32)) (hV : F_X9_copies N  M v1 v2 = some r) : mM l yX9_copies (jws yX9_copies cX9_copies 4 none) ({ frames := 0, cells := 0, slots := 0, locals := 0 } : Room) [.ref (a 0), .int v1, .int v2] D G (wM a G M) (wM a G r) none := by
  refine mM_of (by decide +kernel) (Nat.le_of_ble_eq_true rfl) (fun p e s m args below meth c ls A C hP hD hA hl => ?_)
  have C : Cx p s m args meth c cX9_copies 4 RX9 none D G := C
  have hS : va_S A s.heap s.heap [] := va_S.rf
  obtain ⟨hx, hb, hr, hml, hts, hown, hlocks, hK0⟩ := id C
  have hK := hK0.1
  have hl : lv_has ls 4 [(0, .ref (a 0)), (1, .int v1), (2, .int v2)] := hl
  rw [F_X9_copies] at hV
  refine lv_iconst (v := 0) hx hb dX9_copies_0 (by decide) ?_
  refine lv_istore_n (lv' := [(3, .int (0 : Int32)), (0, .ref (a 0)), (1, .int v1), (2, .int v2)]) hx hb dX9_copies_1 rfl hl (by decide) rfl (fun ls hl => ?_)
  exact B_X9_copies_2 C hA N a r   N M v1 v2 (0 : Int32) _ _ _ hP hD hS (lv_sub hl [1, 2, 3, 0] rfl) hV
theorem jy_X9_begins : jY yX9_begins cX9_begins 1 none 0 := ⟨by decide +kernel, jq_12_12, jq_1_5⟩
def F_X9_begins (N : Nat)  (M : Nat → Nat → Int32) : Option (Nat → Nat → Int32) := ((F_X9_copies N M (0 : Int32) (8 : Int32)).bind (fun r1 => (some r1)))
set_option maxHeartbeats 4000000 in
set_option maxRecDepth 100000 in
theorem k_X9_begins (l : Launch) (D : va_G) (G : Nat → ClassId) (a : Nat → Nat) (N : Nat) (M : Nat → Nat → Int32) (r : (Nat → Nat → Int32)) (hV : F_X9_begins N  M  = some r) : mM l yX9_begins (jws yX9_begins cX9_begins 1 none) ({ frames := 1, cells := 0, slots := 0, locals := 23 } : Room) [.ref (a 0)] D G (wM a G M) (wM a G r) none := by
  refine mM_of (by decide +kernel) (Nat.le_of_ble_eq_true rfl) (fun p e s m args below meth c ls A C hP hD hA hl => ?_)
  have C : Cx p s m args meth c cX9_begins 1 RX9 none D G := C
  have hS : va_S A s.heap s.heap [] := va_S.rf
  obtain ⟨hx, hb, hr, hml, hts, hown, hlocks, hK0⟩ := id C
  have hK := hK0.1
  have hl : lv_has ls 1 [(0, .ref (a 0))] := hl
  rw [F_X9_begins] at hV
  refine lv_aload_n hx hb dX9_begins_0 rfl (lv_at hl 0 rfl) ?_
  refine lv_iconst (v := 0) hx hb dX9_begins_1 (by decide) ?_
  refine lv_bipush (v := 8) hx hb dX9_begins_2 (by decide) ?_
  obtain ⟨r1, hr1, hV⟩ := jBind hV
  refine jVmV C dX9_begins_4 (k_X9_copies l D G a N M (0 : Int32) (8 : Int32) r1 hr1) jy_X9_copies jq_12_13 jq_12_14 jq_12_15 ⟨rfl, rfl, Nat.le_of_ble_eq_true rfl, Nat.le_of_ble_eq_true rfl⟩ ⟨Nat.le_of_ble_eq_true rfl, Nat.le_of_ble_eq_true rfl⟩ hP hD hA hS (ci := 11) (iw := 0) rfl rfl rfl hl (rest := []) rfl (Nat.le_of_ble_eq_true rfl) (fun H locs hQ hz hkp hS => ?_)
  have hP : va_P D vwCl (wM a G r1) H := hQ
  have hD : va_D A (wM a G r1) := jD (w := (wM a G M)) rfl hD
  cases hV
  exact mRetV C dX9_begins_7 hP hS
theorem jy_X9_keeps : jY yX9_keeps cX9_keeps 2 none 0 := ⟨by decide +kernel, jq_15_6, jq_1_5⟩
def D_X9_keeps_41 (N : Nat)  (M : Nat → Nat → Int32) : Option (Nat → Nat → Int32) := (jlet (stF M 2 ((M 0 2) + (1 : Int32))) (fun M1 => ((F_X9_copies N M1 (8 : Int32) (M1 0 2)).bind (fun r2 => (some r2)))))
set_option maxHeartbeats 4000000 in
set_option maxRecDepth 100000 in
theorem B_X9_keeps_41 {p : Program} {l : Launch} {e : Env} {s : State} {m : MethodId} {args : Array Value} {below : List Frame} {meth : Method} {c : Code} {D : va_G} {G : Nat → ClassId} {A : Nat → Prop} (C : Cx p s m args meth c cX9_keeps 2 RX9 none D G) (hA : ∀ q : Nat, s.heap.size ≤ q → A q) (N : Nat) (a : Nat → Nat) (r : (Nat → Nat → Int32)) : (∀ (M : Nat → Nat → Int32) (ls : Array Slot) (H : Heap) (locs : List Loc), va_P D vwCl (wM a G M) H → va_D A (wM a G M) → va_S A s.heap H locs → lv_has ls 2 [(0, .ref (a 0))] → D_X9_keeps_41 N   M  = some r → W p l e ({ frames := 1, cells := 0, slots := 0, locals := 23 } : Room) s m args below meth c H locs 0 0 (MQ below (mQ D (wM a G r) none A) args s 0 0 A) (F0 m 41 ls [])) := by
  have C := C
  obtain ⟨hx, hb, hr, hml, hts, hown, hlocks, hK0⟩ := id C
  have hK := hK0.1
  intro M ls H locs hP hD hS hl hV
  rw [D_X9_keeps_41] at hV
  refine lv_aload_n hx hb dX9_keeps_41 rfl (lv_at hl 0 rfl) ?_
  refine lv_dup hx hb dX9_keeps_42 rfl ?_
  refine va_get (D := D) (ci := 11) (v := .int (M 0 2)) (C := RX9) (T := TX9) (N := 16) hx hb hts ju_X9 hown hK hP 0 rfl rfl 2 (by decide) (hts _ jq_15_7) (fun _ h9 => h9) rfl dX9_keeps_43 ?_
  refine lv_iconst (v := 1) hx hb dX9_keeps_46 (by decide) ?_
  refine lv_iadd hx hb dX9_keeps_47 ?_
  refine va_put (D := D) (ci := 11) (v := .int ((M 0 2) + (1 : Int32))) (ty := .int) (C := RX9) (T := TX9) (N := 16) hx hb hts ju_X9 tyX9 tyX9_ok nmX9 hown hK hP hD hS 0 rfl rfl 2 (by decide) (hts _ jq_15_7) (fun _ h9 => h9) rfl (by decide +kernel) rfl rfl (Nat.le_of_ble_eq_true rfl) dX9_keeps_48 (fun H locs hP hD hS => ?_)
  obtain ⟨M1, e3, hV⟩ := jLet hV
  have hP : va_P D vwCl (wM a G M1) H := by rw [e3]; exact hP
  have hD : va_D A (wM a G M1) := by rw [e3]; exact hD
  refine lv_aload_n hx hb dX9_keeps_51 rfl (lv_at hl 0 rfl) ?_
  refine lv_bipush (v := 8) hx hb dX9_keeps_52 (by decide) ?_
  refine lv_aload_n hx hb dX9_keeps_54 rfl (lv_at hl 0 rfl) ?_
  refine va_get (D := D) (ci := 11) (v := .int (M1 0 2)) (C := RX9) (T := TX9) (N := 16) hx hb hts ju_X9 hown hK hP 0 rfl rfl 2 (by decide) (hts _ jq_15_7) (fun _ h9 => h9) rfl dX9_keeps_55 ?_
  obtain ⟨r2, hr2, hV⟩ := jBind hV
  refine jVmV C dX9_keeps_58 (k_X9_copies l D G a N M1 (8 : Int32) (M1 0 2) r2 hr2) jy_X9_copies jq_12_13 jq_12_14 jq_12_15 ⟨rfl, rfl, Nat.le_of_ble_eq_true rfl, Nat.le_of_ble_eq_true rfl⟩ ⟨Nat.le_of_ble_eq_true rfl, Nat.le_of_ble_eq_true rfl⟩ hP hD hA hS (ci := 11) (iw := 0) rfl rfl rfl hl (rest := []) rfl (Nat.le_of_ble_eq_true rfl) (fun H locs hQ hz hkp hS => ?_)
  have hP : va_P D vwCl (wM a G r2) H := hQ
  have hD : va_D A (wM a G r2) := jD (w := (wM a G M1)) rfl hD
  cases hV
  exact mRetV C dX9_keeps_61 hP hS
def D_X9_keeps_11 (N : Nat)  : Nat → (Nat → Nat → Int32) → Int32 → Option (Nat → Nat → Int32)
  | 0, _, _ => none
  | n + 1, M, v1 => (if (6 : Int32) ≤ v1 then (jlet (stF M 2 ((M 0 2) - (1 : Int32))) (fun M4 => (D_X9_keeps_41 N   M4 ))) else ((F_X9_copies N M (v1 + (1 : Int32)) v1).bind (fun r6 => (D_X9_keeps_11 N   n r6 (v1 + 1)))))
set_option maxHeartbeats 4000000 in
set_option maxRecDepth 100000 in
theorem B_X9_keeps_11 {p : Program} {l : Launch} {e : Env} {s : State} {m : MethodId} {args : Array Value} {below : List Frame} {meth : Method} {c : Code} {D : va_G} {G : Nat → ClassId} {A : Nat → Prop} (C : Cx p s m args meth c cX9_keeps 2 RX9 none D G) (hA : ∀ q : Nat, s.heap.size ≤ q → A q) (N : Nat) (a : Nat → Nat) (r : (Nat → Nat → Int32)) : (∀ (n : Nat) (M : Nat → Nat → Int32) (v1 : Int32) (ls : Array Slot) (H : Heap) (locs : List Loc), va_P D vwCl (wM a G M) H → va_D A (wM a G M) → va_S A s.heap H locs → lv_has ls 2 [(0, .ref (a 0)), (1, .int v1)] → D_X9_keeps_11 N   n M v1 = some r → W p l e ({ frames := 1, cells := 0, slots := 0, locals := 23 } : Room) s m args below meth c H locs 0 0 (MQ below (mQ D (wM a G r) none A) args s 0 0 A) (F0 m 11 ls [])) := by
  have C := C
  obtain ⟨hx, hb, hr, hml, hts, hown, hlocks, hK0⟩ := id C
  have hK := hK0.1
  intro n
  induction n with
  | zero =>
    intro M v1 ls H locs hP hD hS hl hV
    rw [D_X9_keeps_11] at hV
    cases hV
  | succ n ih =>
    intro M v1 ls H locs hP hD hS hl hV
    rw [D_X9_keeps_11] at hV
    refine lv_iload_n hx hb dX9_keeps_11 rfl (lv_at hl 1 rfl) ?_
    refine lv_bipush (v := 6) hx hb dX9_keeps_12 (by decide) ?_
    refine lv_icmp_ge (tgt := 31) hx hb dX9_keeps_14 (by decide) (fun c7 => ?_) (fun c7 => ?_)
    · have hV := jT1 hV c7
      refine lv_aload_n hx hb dX9_keeps_31 rfl (lv_at hl 0 rfl) ?_
      refine lv_dup hx hb dX9_keeps_32 rfl ?_
      refine va_get (D := D) (ci := 11) (v := .int (M 0 2)) (C := RX9) (T := TX9) (N := 16) hx hb hts ju_X9 hown hK hP 0 rfl rfl 2 (by decide) (hts _ jq_15_7) (fun _ h9 => h9) rfl dX9_keeps_33 ?_
      refine lv_iconst (v := 1) hx hb dX9_keeps_36 (by decide) ?_
      refine lv_isub hx hb dX9_keeps_37 ?_
      refine va_put (D := D) (ci := 11) (v := .int ((M 0 2) - (1 : Int32))) (ty := .int) (C := RX9) (T := TX9) (N := 16) hx hb hts ju_X9 tyX9 tyX9_ok nmX9 hown hK hP hD hS 0 rfl rfl 2 (by decide) (hts _ jq_15_7) (fun _ h9 => h9) rfl (by decide +kernel) rfl rfl (Nat.le_of_ble_eq_true rfl) dX9_keeps_38 (fun H locs hP hD hS => ?_)
      obtain ⟨M4, e5, hV⟩ := jLet hV
      have hP : va_P D vwCl (wM a G M4) H := by rw [e5]; exact hP
      have hD : va_D A (wM a G M4) := by rw [e5]; exact hD
      exact B_X9_keeps_41 C hA N a r   M4  _ _ _ hP hD hS (lv_sub hl [0] rfl) hV
    · have hV := jF1 hV c7
      refine lv_aload_n hx hb dX9_keeps_17 rfl (lv_at hl 0 rfl) ?_
      refine lv_iload_n hx hb dX9_keeps_18 rfl (lv_at hl 1 rfl) ?_
      refine lv_iconst (v := 1) hx hb dX9_keeps_19 (by decide) ?_
      refine lv_iadd hx hb dX9_keeps_20 ?_
      refine lv_iload_n hx hb dX9_keeps_21 rfl (lv_at hl 1 rfl) ?_
      obtain ⟨r6, hr6, hV⟩ := jBind hV
      refine jVmV C dX9_keeps_22 (k_X9_copies l D G a N M (v1 + (1 : Int32)) v1 r6 hr6) jy_X9_copies jq_12_13 jq_12_14 jq_12_15 ⟨rfl, rfl, Nat.le_of_ble_eq_true rfl, Nat.le_of_ble_eq_true rfl⟩ ⟨Nat.le_of_ble_eq_true rfl, Nat.le_of_ble_eq_true rfl⟩ hP hD hA hS (ci := 11) (iw := 0) rfl rfl rfl hl (rest := []) rfl (Nat.le_of_ble_eq_true rfl) (fun H locs hQ hz hkp hS => ?_)
      have hP : va_P D vwCl (wM a G r6) H := hQ
      have hD : va_D A (wM a G r6) := jD (w := (wM a G M)) rfl hD
      refine lv_iinc (v := (v1 + 1)) (lv' := [(1, .int (v1 + 1)), (0, .ref (a 0))]) hx hb dX9_keeps_25 hl (k := 1) rfl rfl (by decide) rfl (fun ls hl => ?_)
      refine lv_goto (tgt := 11) hx hb dX9_keeps_28 (by decide) ?_
      exact ih r6 (v1 + 1) _ _ _ hP hD hS (lv_sub hl [1, 0] rfl) hV
def F_X9_keeps (N : Nat)  (M : Nat → Nat → Int32) : Option (Nat → Nat → Int32) := (if (M 0 2) = (6 : Int32) then (D_X9_keeps_11 N   N M (1 : Int32)) else (D_X9_keeps_41 N   M ))
set_option maxHeartbeats 4000000 in
set_option maxRecDepth 100000 in
theorem k_X9_keeps (l : Launch) (D : va_G) (G : Nat → ClassId) (a : Nat → Nat) (N : Nat) (M : Nat → Nat → Int32) (r : (Nat → Nat → Int32)) (hV : F_X9_keeps N  M  = some r) : mM l yX9_keeps (jws yX9_keeps cX9_keeps 2 none) ({ frames := 1, cells := 0, slots := 0, locals := 23 } : Room) [.ref (a 0)] D G (wM a G M) (wM a G r) none := by
  refine mM_of (by decide +kernel) (Nat.le_of_ble_eq_true rfl) (fun p e s m args below meth c ls A C hP hD hA hl => ?_)
  have C : Cx p s m args meth c cX9_keeps 2 RX9 none D G := C
  have hS : va_S A s.heap s.heap [] := va_S.rf
  obtain ⟨hx, hb, hr, hml, hts, hown, hlocks, hK0⟩ := id C
  have hK := hK0.1
  have hl : lv_has ls 2 [(0, .ref (a 0))] := hl
  rw [F_X9_keeps] at hV
  refine lv_aload_n hx hb dX9_keeps_0 rfl (lv_at hl 0 rfl) ?_
  refine va_get (D := D) (ci := 11) (v := .int (M 0 2)) (C := RX9) (T := TX9) (N := 16) hx hb hts ju_X9 hown hK hP 0 rfl rfl 2 (by decide) (hts _ jq_15_7) (fun _ h9 => h9) rfl dX9_keeps_1 ?_
  refine lv_bipush (v := 6) hx hb dX9_keeps_4 (by decide) ?_
  refine lv_icmp_ne (tgt := 41) hx hb dX9_keeps_6 (by decide) (fun c8 => ?_) (fun c8 => ?_)
  · have hV := jF1 hV c8
    exact B_X9_keeps_41 C hA N a r   M  _ _ _ hP hD hS (lv_sub hl [0] rfl) hV
  · have hV := jT1 hV c8
    refine lv_iconst (v := 1) hx hb dX9_keeps_9 (by decide) ?_
    refine lv_istore_n (lv' := [(1, .int (1 : Int32)), (0, .ref (a 0))]) hx hb dX9_keeps_10 rfl hl (by decide) rfl (fun ls hl => ?_)
    exact B_X9_keeps_11 C hA N a r   N M (1 : Int32) _ _ _ hP hD hS (lv_sub hl [1, 0] rfl) hV
theorem jy_X9_isRefused : jY yX9_isRefused cX9_isRefused 4 (some .boolean) 3 := ⟨by decide +kernel, jq_13_23, jq_1_5⟩
def F_X9_isRefused (N : Nat)  (M : Nat → Nat → Int32) (v1 v2 v3 : Int32) : Option (Int32 × (Nat → Nat → Int32)) := (if v1 = 0 then (if isB v1 = true then (some (v1, M)) else none) else (jlet (stF M 4 v2) (fun M2 => (jlet (stF M2 5 v3) (fun M3 => (if isB v1 = true then (some (v1, M3)) else none))))))
set_option maxHeartbeats 4000000 in
set_option maxRecDepth 100000 in
theorem k_X9_isRefused (l : Launch) (D : va_G) (G : Nat → ClassId) (a : Nat → Nat) (N : Nat) (M : Nat → Nat → Int32) (v1 v2 v3 : Int32) (r : (Int32 × (Nat → Nat → Int32))) (hV : F_X9_isRefused N  M v1 v2 v3 = some r) : mM l yX9_isRefused (jws yX9_isRefused cX9_isRefused 4 (some .boolean)) ({ frames := 0, cells := 0, slots := 0, locals := 0 } : Room) [.ref (a 0), .int v1, .int v2, .int v3] D G (wM a G M) (wM a G r.2) (some (.int r.1)) := by
  refine mM_of (by decide +kernel) (Nat.le_of_ble_eq_true rfl) (fun p e s m args below meth c ls A C hP hD hA hl => ?_)
  have C : Cx p s m args meth c cX9_isRefused 4 RX9 (some .boolean) D G := C
  have hS : va_S A s.heap s.heap [] := va_S.rf
  obtain ⟨hx, hb, hr, hml, hts, hown, hlocks, hK0⟩ := id C
  have hK := hK0.1
  have hl : lv_has ls 4 [(0, .ref (a 0)), (1, .int v1), (2, .int v2), (3, .int v3)] := hl
  rw [F_X9_isRefused] at hV
  refine lv_iload_n hx hb dX9_isRefused_0 rfl (lv_at hl 1 rfl) ?_
  refine lv_if_eq (tgt := 14) hx hb dX9_isRefused_1 (by decide) (fun c7 => ?_) (fun c7 => ?_)
  · have hV := jT1 hV c7
    refine lv_iload_n hx hb dX9_isRefused_14 rfl (lv_at hl 1 rfl) ?_
    obtain ⟨g1, hV⟩ := jIf hV
    cases hV
    exact mRet C rfl dX9_isRefused_15 (isB_n g1) rfl hP hS
  · have hV := jF1 hV c7
    refine lv_aload_n hx hb dX9_isRefused_4 rfl (lv_at hl 0 rfl) ?_
    refine lv_iload_n hx hb dX9_isRefused_5 rfl (lv_at hl 2 rfl) ?_
    refine va_put (D := D) (ci := 11) (v := .int v2) (ty := .int) (C := RX9) (T := TX9) (N := 16) hx hb hts ju_X9 tyX9 tyX9_ok nmX9 hown hK hP hD hS 0 rfl rfl 4 (by decide) (hts _ jq_14_0) (fun _ h9 => h9) rfl (by decide +kernel) rfl rfl (Nat.le_of_ble_eq_true rfl) dX9_isRefused_6 (fun H locs hP hD hS => ?_)
    obtain ⟨M2, e6, hV⟩ := jLet hV
    have hP : va_P D vwCl (wM a G M2) H := by rw [e6]; exact hP
    have hD : va_D A (wM a G M2) := by rw [e6]; exact hD
    refine lv_aload_n hx hb dX9_isRefused_9 rfl (lv_at hl 0 rfl) ?_
    refine lv_iload_n hx hb dX9_isRefused_10 rfl (lv_at hl 3 rfl) ?_
    refine va_put (D := D) (ci := 11) (v := .int v3) (ty := .int) (C := RX9) (T := TX9) (N := 16) hx hb hts ju_X9 tyX9 tyX9_ok nmX9 hown hK hP hD hS 0 rfl rfl 5 (by decide) (hts _ jq_14_1) (fun _ h9 => h9) rfl (by decide +kernel) rfl rfl (Nat.le_of_ble_eq_true rfl) dX9_isRefused_11 (fun H locs hP hD hS => ?_)
    obtain ⟨M3, e5, hV⟩ := jLet hV
    have hP : va_P D vwCl (wM a G M3) H := by rw [e5]; exact hP
    have hD : va_D A (wM a G M3) := by rw [e5]; exact hD
    refine lv_iload_n hx hb dX9_isRefused_14 rfl (lv_at hl 1 rfl) ?_
    obtain ⟨g4, hV⟩ := jIf hV
    cases hV
    exact mRet C rfl dX9_isRefused_15 (isB_n g4) rfl hP hS
theorem jy_X9_ends : jY yX9_ends cX9_ends 5 (some .int) 4 := ⟨by decide +kernel, jq_15_1, jq_1_5⟩
def D_X9_ends_38 (N : Nat)  (M : Nat → Nat → Int32) (v1 : Int32) (s0 : Int32) : Option (Int32 × (Nat → Nat → Int32)) := (jlet (stF M 0 s0) (fun M1 => (if v1 = 0 then ((F_X9_keeps N M1 ).bind (fun r2 => (some ((r2 0 6), r2)))) else ((F_X9_copies N M1 (8 : Int32) (0 : Int32)).bind (fun r3 => (some ((0 : Int32), r3)))))))
set_option maxHeartbeats 4000000 in
set_option maxRecDepth 100000 in
theorem B_X9_ends_38 {p : Program} {l : Launch} {e : Env} {s : State} {m : MethodId} {args : Array Value} {below : List Frame} {meth : Method} {c : Code} {D : va_G} {G : Nat → ClassId} {A : Nat → Prop} (C : Cx p s m args meth c cX9_ends 5 RX9 (some .int) D G) (hA : ∀ q : Nat, s.heap.size ≤ q → A q) (N : Nat) (a : Nat → Nat) (r : (Int32 × (Nat → Nat → Int32))) : (∀ (M : Nat → Nat → Int32) (v1 : Int32) (s0 : Int32) (ls : Array Slot) (H : Heap) (locs : List Loc), va_P D vwCl (wM a G M) H → va_D A (wM a G M) → va_S A s.heap H locs → lv_has ls 5 [(0, .ref (a 0)), (1, .int v1)] → D_X9_ends_38 N   M v1 s0 = some r → W p l e ({ frames := 2, cells := 0, slots := 0, locals := 44 } : Room) s m args below meth c H locs 0 0 (MQ below (mQ D (wM a G r.2) (some (.int r.1)) A) args s 0 0 A) (F0 m 38 ls [.int s0, .ref (a 0)])) := by
  have C := C
  obtain ⟨hx, hb, hr, hml, hts, hown, hlocks, hK0⟩ := id C
  have hK := hK0.1
  intro M v1 s0 ls H locs hP hD hS hl hV
  rw [D_X9_ends_38] at hV
  refine va_put (D := D) (ci := 11) (v := .int s0) (ty := .int) (C := RX9) (T := TX9) (N := 16) hx hb hts ju_X9 tyX9 tyX9_ok nmX9 hown hK hP hD hS 0 rfl rfl 0 (by decide) (hts _ jq_15_2) (fun _ h9 => h9) rfl (by decide +kernel) rfl rfl (Nat.le_of_ble_eq_true rfl) dX9_ends_38 (fun H locs hP hD hS => ?_)
  obtain ⟨M1, e5, hV⟩ := jLet hV
  have hP : va_P D vwCl (wM a G M1) H := by rw [e5]; exact hP
  have hD : va_D A (wM a G M1) := by rw [e5]; exact hD
  refine lv_iload_n hx hb dX9_ends_41 rfl (lv_at hl 1 rfl) ?_
  refine lv_if_eq (tgt := 54) hx hb dX9_ends_42 (by decide) (fun c4 => ?_) (fun c4 => ?_)
  · have hV := jT1 hV c4
    refine lv_aload_n hx hb dX9_ends_54 rfl (lv_at hl 0 rfl) ?_
    obtain ⟨r2, hr2, hV⟩ := jBind hV
    refine jVmV C dX9_ends_55 (k_X9_keeps l D G a N M1  r2 hr2) jy_X9_keeps jq_15_3 jq_15_4 jq_15_5 ⟨rfl, rfl, Nat.le_of_ble_eq_true rfl, Nat.le_of_ble_eq_true rfl⟩ ⟨Nat.le_of_ble_eq_true rfl, Nat.le_of_ble_eq_true rfl⟩ hP hD hA hS (ci := 11) (iw := 0) rfl rfl rfl hl (rest := []) rfl (Nat.le_of_ble_eq_true rfl) (fun H locs hQ hz hkp hS => ?_)
    have hP : va_P D vwCl (wM a G r2) H := hQ
    have hD : va_D A (wM a G r2) := jD (w := (wM a G M1)) rfl hD
    refine lv_aload_n hx hb dX9_ends_58 rfl (lv_at hl 0 rfl) ?_
    refine va_get (D := D) (ci := 11) (v := .int (r2 0 6)) (C := RX9) (T := TX9) (N := 16) hx hb hts ju_X9 hown hK hP 0 rfl rfl 6 (by decide) (hts _ jq_12_21) (fun _ h9 => h9) rfl dX9_ends_59 ?_
    cases hV
    exact mRet C rfl dX9_ends_62 rfl rfl hP hS
  · have hV := jF1 hV c4
    refine lv_aload_n hx hb dX9_ends_45 rfl (lv_at hl 0 rfl) ?_
    refine lv_bipush (v := 8) hx hb dX9_ends_46 (by decide) ?_
    refine lv_iconst (v := 0) hx hb dX9_ends_48 (by decide) ?_
    obtain ⟨r3, hr3, hV⟩ := jBind hV
    refine jVmV C dX9_ends_49 (k_X9_copies l D G a N M1 (8 : Int32) (0 : Int32) r3 hr3) jy_X9_copies jq_12_13 jq_12_14 jq_12_15 ⟨rfl, rfl, Nat.le_of_ble_eq_true rfl, Nat.le_of_ble_eq_true rfl⟩ ⟨Nat.le_of_ble_eq_true rfl, Nat.le_of_ble_eq_true rfl⟩ hP hD hA hS (ci := 11) (iw := 0) rfl rfl rfl hl (rest := []) rfl (Nat.le_of_ble_eq_true rfl) (fun H locs hQ hz hkp hS => ?_)
    have hP : va_P D vwCl (wM a G r3) H := hQ
    have hD : va_D A (wM a G r3) := jD (w := (wM a G M1)) rfl hD
    refine lv_iconst (v := 0) hx hb dX9_ends_52 (by decide) ?_
    cases hV
    exact mRet C rfl dX9_ends_53 rfl rfl hP hS
def F_X9_ends (N : Nat)  (M : Nat → Nat → Int32) (v1 v2 v3 v4 : Int32) : Option (Int32 × (Nat → Nat → Int32)) := (if v1 = 0 then (D_X9_ends_38 N   M v1 (0 : Int32)) else (if v1 = (1 : Int32) then (D_X9_ends_38 N   M v1 (1 : Int32)) else (if v1 = (2 : Int32) then (D_X9_ends_38 N   M v1 v2) else (if v1 = (3 : Int32) then (D_X9_ends_38 N   M v1 v3) else (D_X9_ends_38 N   M v1 v4)))))
set_option maxHeartbeats 4000000 in
set_option maxRecDepth 100000 in
theorem k_X9_ends (l : Launch) (D : va_G) (G : Nat → ClassId) (a : Nat → Nat) (N : Nat) (M : Nat → Nat → Int32) (v1 v2 v3 v4 : Int32) (r : (Int32 × (Nat → Nat → Int32))) (hV : F_X9_ends N  M v1 v2 v3 v4 = some r) : mM l yX9_ends (jws yX9_ends cX9_ends 5 (some .int)) ({ frames := 2, cells := 0, slots := 0, locals := 44 } : Room) [.ref (a 0), .int v1, .int v2, .int v3, .int v4] D G (wM a G M) (wM a G r.2) (some (.int r.1)) := by
  refine mM_of (by decide +kernel) (Nat.le_of_ble_eq_true rfl) (fun p e s m args below meth c ls A C hP hD hA hl => ?_)
  have C : Cx p s m args meth c cX9_ends 5 RX9 (some .int) D G := C
  have hS : va_S A s.heap s.heap [] := va_S.rf
  obtain ⟨hx, hb, hr, hml, hts, hown, hlocks, hK0⟩ := id C
  have hK := hK0.1
  have hl : lv_has ls 5 [(0, .ref (a 0)), (1, .int v1), (2, .int v2), (3, .int v3), (4, .int v4)] := hl
  rw [F_X9_ends] at hV
  refine lv_aload_n hx hb dX9_ends_0 rfl (lv_at hl 0 rfl) ?_
  refine lv_iload_n hx hb dX9_ends_1 rfl (lv_at hl 1 rfl) ?_
  refine lv_if_ne (tgt := 9) hx hb dX9_ends_2 (by decide) (fun c9 => ?_) (fun c9 => ?_)
  · have hV := jF1 hV c9
    refine lv_iload_n hx hb dX9_ends_9 rfl (lv_at hl 1 rfl) ?_
    refine lv_iconst (v := 1) hx hb dX9_ends_10 (by decide) ?_
    refine lv_icmp_ne (tgt := 18) hx hb dX9_ends_11 (by decide) (fun c8 => ?_) (fun c8 => ?_)
    · have hV := jF1 hV c8
      refine lv_iload_n hx hb dX9_ends_18 rfl (lv_at hl 1 rfl) ?_
      refine lv_iconst (v := 2) hx hb dX9_ends_19 (by decide) ?_
      refine lv_icmp_ne (tgt := 27) hx hb dX9_ends_20 (by decide) (fun c7 => ?_) (fun c7 => ?_)
      · have hV := jF1 hV c7
        refine lv_iload_n hx hb dX9_ends_27 rfl (lv_at hl 1 rfl) ?_
        refine lv_iconst (v := 3) hx hb dX9_ends_28 (by decide) ?_
        refine lv_icmp_ne (tgt := 36) hx hb dX9_ends_29 (by decide) (fun c6 => ?_) (fun c6 => ?_)
        · have hV := jF1 hV c6
          refine lv_iload hx hb dX9_ends_36 (lv_at hl 4 rfl) ?_
          exact B_X9_ends_38 C hA N a r   M v1 v4 _ _ _ hP hD hS (lv_sub hl [0, 1] rfl) hV
        · have hV := jT1 hV c6
          refine lv_iload_n hx hb dX9_ends_32 rfl (lv_at hl 3 rfl) ?_
          refine lv_goto (tgt := 38) hx hb dX9_ends_33 (by decide) ?_
          exact B_X9_ends_38 C hA N a r   M v1 v3 _ _ _ hP hD hS (lv_sub hl [0, 1] rfl) hV
      · have hV := jT1 hV c7
        refine lv_iload_n hx hb dX9_ends_23 rfl (lv_at hl 2 rfl) ?_
        refine lv_goto (tgt := 38) hx hb dX9_ends_24 (by decide) ?_
        exact B_X9_ends_38 C hA N a r   M v1 v2 _ _ _ hP hD hS (lv_sub hl [0, 1] rfl) hV
    · have hV := jT1 hV c8
      refine lv_iconst (v := 1) hx hb dX9_ends_14 (by decide) ?_
      refine lv_goto (tgt := 38) hx hb dX9_ends_15 (by decide) ?_
      exact B_X9_ends_38 C hA N a r   M v1 (1 : Int32) _ _ _ hP hD hS (lv_sub hl [0, 1] rfl) hV
  · have hV := jT1 hV c9
    refine lv_iconst (v := 0) hx hb dX9_ends_5 (by decide) ?_
    refine lv_goto (tgt := 38) hx hb dX9_ends_6 (by decide) ?_
    exact B_X9_ends_38 C hA N a r   M v1 (0 : Int32) _ _ _ hP hD hS (lv_sub hl [0, 1] rfl) hV
theorem jy_X9_isStage : jY yX9_isStage cX9_isStage 1 (some .boolean) 1 := ⟨by decide +kernel, jq_13_0, jq_1_5⟩
def F_X9_isStage (N : Nat)  (v0 : Int32) : Option Int32 := ((F_X9_in N  v0 (0 : Int32) (2 : Int32)).bind (fun r1 => (if isB r1 = true then (some r1) else none)))
set_option maxHeartbeats 4000000 in
set_option maxRecDepth 100000 in
theorem k_X9_isStage (l : Launch) (D : va_G) (G : Nat → ClassId)  (N : Nat) (v0 : Int32) (r : Int32) (hV : F_X9_isStage N  v0 = some r) : pM l yX9_isStage (jws yX9_isStage cX9_isStage 1 (some .boolean)) ({ frames := 1, cells := 0, slots := 0, locals := 22 } : Room) [.int v0] D G ([] : va_W) (some (.int r)) := by
  refine pM_of (by decide +kernel) (Nat.le_of_ble_eq_true rfl) (fun p e s m args below meth c ls C hP hl => ?_)
  have C : Cx p s m args meth c cX9_isStage 1 RX9 (some .boolean) D G := C
  obtain ⟨hx, hb, hr, hml, hts, hown, hlocks, hK0⟩ := id C
  have hK := hK0.1
  have hl : lv_has ls 1 [(0, .int v0)] := hl
  rw [F_X9_isStage] at hV
  refine lv_iload_n hx hb dX9_isStage_0 rfl (lv_at hl 0 rfl) ?_
  refine lv_iconst (v := 0) hx hb dX9_isStage_1 (by decide) ?_
  refine lv_iconst (v := 2) hx hb dX9_isStage_2 (by decide) ?_
  obtain ⟨r1, hr1, hV⟩ := jBind hV
  refine jSpI C dX9_isStage_3 (k_X9_in l D G  N  v0 (0 : Int32) (2 : Int32) r1 hr1) jy_X9_in jq_13_1 jq_13_2 ⟨rfl, rfl, Nat.le_of_ble_eq_true rfl, Nat.le_of_ble_eq_true rfl⟩ ⟨Nat.le_of_ble_eq_true rfl, Nat.le_of_ble_eq_true rfl⟩ jE  hl (rest := []) rfl (Nat.le_of_ble_eq_true rfl) ?_
  obtain ⟨g2, hV⟩ := jIf hV
  exact pRet C rfl dX9_isStage_6 (isB_n g2) (Option.some.inj hV)
theorem jy_X9_isDate : jY yX9_isDate cX9_isDate 1 (some .boolean) 1 := ⟨by decide +kernel, jq_24_10, jq_1_5⟩
def F_X9_isDate (N : Nat)  (v0 : Int32) : Option Int32 := ((F_X9_in N  v0 (0 : Int32) (29 : Int32)).bind (fun r1 => (if isB r1 = true then (some r1) else none)))
set_option maxHeartbeats 4000000 in
set_option maxRecDepth 100000 in
theorem k_X9_isDate (l : Launch) (D : va_G) (G : Nat → ClassId)  (N : Nat) (v0 : Int32) (r : Int32) (hV : F_X9_isDate N  v0 = some r) : pM l yX9_isDate (jws yX9_isDate cX9_isDate 1 (some .boolean)) ({ frames := 1, cells := 0, slots := 0, locals := 22 } : Room) [.int v0] D G ([] : va_W) (some (.int r)) := by
  refine pM_of (by decide +kernel) (Nat.le_of_ble_eq_true rfl) (fun p e s m args below meth c ls C hP hl => ?_)
  have C : Cx p s m args meth c cX9_isDate 1 RX9 (some .boolean) D G := C
  obtain ⟨hx, hb, hr, hml, hts, hown, hlocks, hK0⟩ := id C
  have hK := hK0.1
  have hl : lv_has ls 1 [(0, .int v0)] := hl
  rw [F_X9_isDate] at hV
  refine lv_iload_n hx hb dX9_isDate_0 rfl (lv_at hl 0 rfl) ?_
  refine lv_iconst (v := 0) hx hb dX9_isDate_1 (by decide) ?_
  refine lv_bipush (v := 29) hx hb dX9_isDate_2 (by decide) ?_
  obtain ⟨r1, hr1, hV⟩ := jBind hV
  refine jSpI C dX9_isDate_4 (k_X9_in l D G  N  v0 (0 : Int32) (29 : Int32) r1 hr1) jy_X9_in jq_13_1 jq_13_2 ⟨rfl, rfl, Nat.le_of_ble_eq_true rfl, Nat.le_of_ble_eq_true rfl⟩ ⟨Nat.le_of_ble_eq_true rfl, Nat.le_of_ble_eq_true rfl⟩ jE  hl (rest := []) rfl (Nat.le_of_ble_eq_true rfl) ?_
  obtain ⟨g2, hV⟩ := jIf hV
  exact pRet C rfl dX9_isDate_7 (isB_n g2) (Option.some.inj hV)
theorem jy_X9_isProduction : jY yX9_isProduction cX9_isProduction 2 (some .boolean) 1 := ⟨by decide +kernel, jq_22_4, jq_1_5⟩
def F_X9_isProduction (N : Nat)  (M : Nat → Nat → Int32) (v1 : Int32) : Option Int32 := (if inb (5 : Int32) 2169 = true then ((F_X9_in N  v1 (0 : Int32) (((M 1) (5 : Int32).toNatClampNeg) - (1 : Int32))).bind (fun r2 => (if isB r2 = true then (some r2) else none))) else none)
set_option maxHeartbeats 4000000 in
set_option maxRecDepth 100000 in
theorem k_X9_isProduction (l : Launch) (D : va_G) (G : Nat → ClassId) (a : Nat → Nat) (N : Nat) (M : Nat → Nat → Int32) (v1 : Int32) (r : Int32) (hV : F_X9_isProduction N  M v1 = some r) : pM l yX9_isProduction (jws yX9_isProduction cX9_isProduction 2 (some .boolean)) ({ frames := 1, cells := 0, slots := 0, locals := 22 } : Room) [.ref (a 0), .int v1] D G (wM a G M) (some (.int r)) := by
  refine pM_of (by decide +kernel) (Nat.le_of_ble_eq_true rfl) (fun p e s m args below meth c ls C hP hl => ?_)
  have C : Cx p s m args meth c cX9_isProduction 2 RX9 (some .boolean) D G := C
  obtain ⟨hx, hb, hr, hml, hts, hown, hlocks, hK0⟩ := id C
  have hK := hK0.1
  have hl : lv_has ls 2 [(0, .ref (a 0)), (1, .int v1)] := hl
  rw [F_X9_isProduction] at hV
  refine lv_iload_n hx hb dX9_isProduction_0 rfl (lv_at hl 1 rfl) ?_
  refine lv_iconst (v := 0) hx hb dX9_isProduction_1 (by decide) ?_
  refine lv_aload_n hx hb dX9_isProduction_2 rfl (lv_at hl 0 rfl) ?_
  refine va_get (D := D) (ci := 11) (v := .ref (a 1)) (C := RX9) (T := TX9) (N := 16) hx hb hts ju_X9 hown hK hP 0 rfl rfl 1 (by decide) (hts _ jq_6_1) (fun _ h9 => h9) rfl dX9_isProduction_3 ?_
  refine lv_iconst (v := 5) hx hb dX9_isProduction_6 (by decide) ?_
  obtain ⟨g1, hV⟩ := jIf hV
  refine va_iald (D := D) (n := 2169) (f := (M 1)) hx hb hK hP 1 0 rfl rfl (inb_of g1) dX9_isProduction_7 ?_
  refine lv_iconst (v := 1) hx hb dX9_isProduction_8 (by decide) ?_
  refine lv_isub hx hb dX9_isProduction_9 ?_
  obtain ⟨r2, hr2, hV⟩ := jBind hV
  refine jSpI C dX9_isProduction_10 (k_X9_in l D G  N  v1 (0 : Int32) (((M 1) (5 : Int32).toNatClampNeg) - (1 : Int32)) r2 hr2) jy_X9_in jq_13_1 jq_13_2 ⟨rfl, rfl, Nat.le_of_ble_eq_true rfl, Nat.le_of_ble_eq_true rfl⟩ ⟨Nat.le_of_ble_eq_true rfl, Nat.le_of_ble_eq_true rfl⟩ jE  hl (rest := []) rfl (Nat.le_of_ble_eq_true rfl) ?_
  obtain ⟨g3, hV⟩ := jIf hV
  exact pRet C rfl dX9_isProduction_13 (isB_n g3) (Option.some.inj hV)
theorem jy_X9_isPerformance : jY yX9_isPerformance cX9_isPerformance 2 (some .boolean) 1 := ⟨by decide +kernel, jq_26_4, jq_1_5⟩
def F_X9_isPerformance (N : Nat)  (M : Nat → Nat → Int32) (v1 : Int32) : Option Int32 := (if inb (38 : Int32) 2169 = true then ((F_X9_in N  v1 (0 : Int32) (((M 1) (38 : Int32).toNatClampNeg) - (1 : Int32))).bind (fun r2 => (if isB r2 = true then (some r2) else none))) else none)
set_option maxHeartbeats 4000000 in
set_option maxRecDepth 100000 in
theorem k_X9_isPerformance (l : Launch) (D : va_G) (G : Nat → ClassId) (a : Nat → Nat) (N : Nat) (M : Nat → Nat → Int32) (v1 : Int32) (r : Int32) (hV : F_X9_isPerformance N  M v1 = some r) : pM l yX9_isPerformance (jws yX9_isPerformance cX9_isPerformance 2 (some .boolean)) ({ frames := 1, cells := 0, slots := 0, locals := 22 } : Room) [.ref (a 0), .int v1] D G (wM a G M) (some (.int r)) := by
  refine pM_of (by decide +kernel) (Nat.le_of_ble_eq_true rfl) (fun p e s m args below meth c ls C hP hl => ?_)
  have C : Cx p s m args meth c cX9_isPerformance 2 RX9 (some .boolean) D G := C
  obtain ⟨hx, hb, hr, hml, hts, hown, hlocks, hK0⟩ := id C
  have hK := hK0.1
  have hl : lv_has ls 2 [(0, .ref (a 0)), (1, .int v1)] := hl
  rw [F_X9_isPerformance] at hV
  refine lv_iload_n hx hb dX9_isPerformance_0 rfl (lv_at hl 1 rfl) ?_
  refine lv_iconst (v := 0) hx hb dX9_isPerformance_1 (by decide) ?_
  refine lv_aload_n hx hb dX9_isPerformance_2 rfl (lv_at hl 0 rfl) ?_
  refine va_get (D := D) (ci := 11) (v := .ref (a 1)) (C := RX9) (T := TX9) (N := 16) hx hb hts ju_X9 hown hK hP 0 rfl rfl 1 (by decide) (hts _ jq_6_1) (fun _ h9 => h9) rfl dX9_isPerformance_3 ?_
  refine lv_bipush (v := 38) hx hb dX9_isPerformance_6 (by decide) ?_
  obtain ⟨g1, hV⟩ := jIf hV
  refine va_iald (D := D) (n := 2169) (f := (M 1)) hx hb hK hP 1 0 rfl rfl (inb_of g1) dX9_isPerformance_8 ?_
  refine lv_iconst (v := 1) hx hb dX9_isPerformance_9 (by decide) ?_
  refine lv_isub hx hb dX9_isPerformance_10 ?_
  obtain ⟨r2, hr2, hV⟩ := jBind hV
  refine jSpI C dX9_isPerformance_11 (k_X9_in l D G  N  v1 (0 : Int32) (((M 1) (38 : Int32).toNatClampNeg) - (1 : Int32)) r2 hr2) jy_X9_in jq_13_1 jq_13_2 ⟨rfl, rfl, Nat.le_of_ble_eq_true rfl, Nat.le_of_ble_eq_true rfl⟩ ⟨Nat.le_of_ble_eq_true rfl, Nat.le_of_ble_eq_true rfl⟩ jE  hl (rest := []) rfl (Nat.le_of_ble_eq_true rfl) ?_
  obtain ⟨g3, hV⟩ := jIf hV
  exact pRet C rfl dX9_isPerformance_14 (isB_n g3) (Option.some.inj hV)
theorem jy_X9_isSubscription : jY yX9_isSubscription cX9_isSubscription 2 (some .boolean) 1 := ⟨by decide +kernel, jq_38_21, jq_1_5⟩
def F_X9_isSubscription (N : Nat)  (M : Nat → Nat → Int32) (v1 : Int32) : Option Int32 := (if inb (159 : Int32) 2169 = true then ((F_X9_in N  v1 (0 : Int32) (((M 1) (159 : Int32).toNatClampNeg) - (1 : Int32))).bind (fun r2 => (if isB r2 = true then (some r2) else none))) else none)
set_option maxHeartbeats 4000000 in
set_option maxRecDepth 100000 in
theorem k_X9_isSubscription (l : Launch) (D : va_G) (G : Nat → ClassId) (a : Nat → Nat) (N : Nat) (M : Nat → Nat → Int32) (v1 : Int32) (r : Int32) (hV : F_X9_isSubscription N  M v1 = some r) : pM l yX9_isSubscription (jws yX9_isSubscription cX9_isSubscription 2 (some .boolean)) ({ frames := 1, cells := 0, slots := 0, locals := 22 } : Room) [.ref (a 0), .int v1] D G (wM a G M) (some (.int r)) := by
  refine pM_of (by decide +kernel) (Nat.le_of_ble_eq_true rfl) (fun p e s m args below meth c ls C hP hl => ?_)
  have C : Cx p s m args meth c cX9_isSubscription 2 RX9 (some .boolean) D G := C
  obtain ⟨hx, hb, hr, hml, hts, hown, hlocks, hK0⟩ := id C
  have hK := hK0.1
  have hl : lv_has ls 2 [(0, .ref (a 0)), (1, .int v1)] := hl
  rw [F_X9_isSubscription] at hV
  refine lv_iload_n hx hb dX9_isSubscription_0 rfl (lv_at hl 1 rfl) ?_
  refine lv_iconst (v := 0) hx hb dX9_isSubscription_1 (by decide) ?_
  refine lv_aload_n hx hb dX9_isSubscription_2 rfl (lv_at hl 0 rfl) ?_
  refine va_get (D := D) (ci := 11) (v := .ref (a 1)) (C := RX9) (T := TX9) (N := 16) hx hb hts ju_X9 hown hK hP 0 rfl rfl 1 (by decide) (hts _ jq_6_1) (fun _ h9 => h9) rfl dX9_isSubscription_3 ?_
  refine lv_sipush (v := 159) hx hb dX9_isSubscription_6 (by decide) ?_
  obtain ⟨g1, hV⟩ := jIf hV
  refine va_iald (D := D) (n := 2169) (f := (M 1)) hx hb hK hP 1 0 rfl rfl (inb_of g1) dX9_isSubscription_9 ?_
  refine lv_iconst (v := 1) hx hb dX9_isSubscription_10 (by decide) ?_
  refine lv_isub hx hb dX9_isSubscription_11 ?_
  obtain ⟨r2, hr2, hV⟩ := jBind hV
  refine jSpI C dX9_isSubscription_12 (k_X9_in l D G  N  v1 (0 : Int32) (((M 1) (159 : Int32).toNatClampNeg) - (1 : Int32)) r2 hr2) jy_X9_in jq_13_1 jq_13_2 ⟨rfl, rfl, Nat.le_of_ble_eq_true rfl, Nat.le_of_ble_eq_true rfl⟩ ⟨Nat.le_of_ble_eq_true rfl, Nat.le_of_ble_eq_true rfl⟩ jE  hl (rest := []) rfl (Nat.le_of_ble_eq_true rfl) ?_
  obtain ⟨g3, hV⟩ := jIf hV
  exact pRet C rfl dX9_isSubscription_15 (isB_n g3) (Option.some.inj hV)
theorem jy_X9_d : jY yX9_d cX9_d 3 (some .int) 2 := ⟨by decide +kernel, jq_17_5, jq_1_5⟩
def F_X9_d (N : Nat)  (M : Nat → Nat → Int32) (v1 v2 : Int32) : Option Int32 := (if inb (((6 : Int32) + ((4 : Int32) * v1)) + v2) 2169 = true then (some ((M 1) (((6 : Int32) + ((4 : Int32) * v1)) + v2).toNatClampNeg)) else none)
set_option maxHeartbeats 4000000 in
set_option maxRecDepth 100000 in
theorem k_X9_d (l : Launch) (D : va_G) (G : Nat → ClassId) (a : Nat → Nat) (N : Nat) (M : Nat → Nat → Int32) (v1 v2 : Int32) (r : Int32) (hV : F_X9_d N  M v1 v2 = some r) : pM l yX9_d (jws yX9_d cX9_d 3 (some .int)) ({ frames := 0, cells := 0, slots := 0, locals := 0 } : Room) [.ref (a 0), .int v1, .int v2] D G (wM a G M) (some (.int r)) := by
  refine pM_of (by decide +kernel) (Nat.le_of_ble_eq_true rfl) (fun p e s m args below meth c ls C hP hl => ?_)
  have C : Cx p s m args meth c cX9_d 3 RX9 (some .int) D G := C
  obtain ⟨hx, hb, hr, hml, hts, hown, hlocks, hK0⟩ := id C
  have hK := hK0.1
  have hl : lv_has ls 3 [(0, .ref (a 0)), (1, .int v1), (2, .int v2)] := hl
  rw [F_X9_d] at hV
  refine lv_aload_n hx hb dX9_d_0 rfl (lv_at hl 0 rfl) ?_
  refine va_get (D := D) (ci := 11) (v := .ref (a 1)) (C := RX9) (T := TX9) (N := 16) hx hb hts ju_X9 hown hK hP 0 rfl rfl 1 (by decide) (hts _ jq_6_1) (fun _ h9 => h9) rfl dX9_d_1 ?_
  refine lv_bipush (v := 6) hx hb dX9_d_4 (by decide) ?_
  refine lv_iconst (v := 4) hx hb dX9_d_6 (by decide) ?_
  refine lv_iload_n hx hb dX9_d_7 rfl (lv_at hl 1 rfl) ?_
  refine lv_imul hx hb dX9_d_8 ?_
  refine lv_iadd hx hb dX9_d_9 ?_
  refine lv_iload_n hx hb dX9_d_10 rfl (lv_at hl 2 rfl) ?_
  refine lv_iadd hx hb dX9_d_11 ?_
  obtain ⟨g1, hV⟩ := jIf hV
  refine va_iald (D := D) (n := 2169) (f := (M 1)) hx hb hK hP 1 0 rfl rfl (inb_of g1) dX9_d_12 ?_
  exact pRet C rfl dX9_d_13 rfl (Option.some.inj hV)
theorem jy_X9_p : jY yX9_p cX9_p 3 (some .int) 2 := ⟨by decide +kernel, jq_13_7, jq_1_5⟩
def F_X9_p (N : Nat)  (M : Nat → Nat → Int32) (v1 v2 : Int32) : Option Int32 := (if inb (((39 : Int32) + ((4 : Int32) * v1)) + v2) 2169 = true then (some ((M 1) (((39 : Int32) + ((4 : Int32) * v1)) + v2).toNatClampNeg)) else none)
set_option maxHeartbeats 4000000 in
set_option maxRecDepth 100000 in
theorem k_X9_p (l : Launch) (D : va_G) (G : Nat → ClassId) (a : Nat → Nat) (N : Nat) (M : Nat → Nat → Int32) (v1 v2 : Int32) (r : Int32) (hV : F_X9_p N  M v1 v2 = some r) : pM l yX9_p (jws yX9_p cX9_p 3 (some .int)) ({ frames := 0, cells := 0, slots := 0, locals := 0 } : Room) [.ref (a 0), .int v1, .int v2] D G (wM a G M) (some (.int r)) := by
  refine pM_of (by decide +kernel) (Nat.le_of_ble_eq_true rfl) (fun p e s m args below meth c ls C hP hl => ?_)
  have C : Cx p s m args meth c cX9_p 3 RX9 (some .int) D G := C
  obtain ⟨hx, hb, hr, hml, hts, hown, hlocks, hK0⟩ := id C
  have hK := hK0.1
  have hl : lv_has ls 3 [(0, .ref (a 0)), (1, .int v1), (2, .int v2)] := hl
  rw [F_X9_p] at hV
  refine lv_aload_n hx hb dX9_p_0 rfl (lv_at hl 0 rfl) ?_
  refine va_get (D := D) (ci := 11) (v := .ref (a 1)) (C := RX9) (T := TX9) (N := 16) hx hb hts ju_X9 hown hK hP 0 rfl rfl 1 (by decide) (hts _ jq_6_1) (fun _ h9 => h9) rfl dX9_p_1 ?_
  refine lv_bipush (v := 39) hx hb dX9_p_4 (by decide) ?_
  refine lv_iconst (v := 4) hx hb dX9_p_6 (by decide) ?_
  refine lv_iload_n hx hb dX9_p_7 rfl (lv_at hl 1 rfl) ?_
  refine lv_imul hx hb dX9_p_8 ?_
  refine lv_iadd hx hb dX9_p_9 ?_
  refine lv_iload_n hx hb dX9_p_10 rfl (lv_at hl 2 rfl) ?_
  refine lv_iadd hx hb dX9_p_11 ?_
  obtain ⟨g1, hV⟩ := jIf hV
  refine va_iald (D := D) (n := 2169) (f := (M 1)) hx hb hK hP 1 0 rfl rfl (inb_of g1) dX9_p_12 ?_
  exact pRet C rfl dX9_p_13 rfl (Option.some.inj hV)
theorem jy_X9_u : jY yX9_u cX9_u 3 (some .int) 2 := ⟨by decide +kernel, jq_13_19, jq_1_5⟩
def F_X9_u (N : Nat)  (M : Nat → Nat → Int32) (v1 v2 : Int32) : Option Int32 := (if inb (((160 : Int32) + ((2 : Int32) * v1)) + v2) 2169 = true then (some ((M 1) (((160 : Int32) + ((2 : Int32) * v1)) + v2).toNatClampNeg)) else none)
set_option maxHeartbeats 4000000 in
set_option maxRecDepth 100000 in
theorem k_X9_u (l : Launch) (D : va_G) (G : Nat → ClassId) (a : Nat → Nat) (N : Nat) (M : Nat → Nat → Int32) (v1 v2 : Int32) (r : Int32) (hV : F_X9_u N  M v1 v2 = some r) : pM l yX9_u (jws yX9_u cX9_u 3 (some .int)) ({ frames := 0, cells := 0, slots := 0, locals := 0 } : Room) [.ref (a 0), .int v1, .int v2] D G (wM a G M) (some (.int r)) := by
  refine pM_of (by decide +kernel) (Nat.le_of_ble_eq_true rfl) (fun p e s m args below meth c ls C hP hl => ?_)
  have C : Cx p s m args meth c cX9_u 3 RX9 (some .int) D G := C
  obtain ⟨hx, hb, hr, hml, hts, hown, hlocks, hK0⟩ := id C
  have hK := hK0.1
  have hl : lv_has ls 3 [(0, .ref (a 0)), (1, .int v1), (2, .int v2)] := hl
  rw [F_X9_u] at hV
  refine lv_aload_n hx hb dX9_u_0 rfl (lv_at hl 0 rfl) ?_
  refine va_get (D := D) (ci := 11) (v := .ref (a 1)) (C := RX9) (T := TX9) (N := 16) hx hb hts ju_X9 hown hK hP 0 rfl rfl 1 (by decide) (hts _ jq_6_1) (fun _ h9 => h9) rfl dX9_u_1 ?_
  refine lv_sipush (v := 160) hx hb dX9_u_4 (by decide) ?_
  refine lv_iconst (v := 2) hx hb dX9_u_7 (by decide) ?_
  refine lv_iload_n hx hb dX9_u_8 rfl (lv_at hl 1 rfl) ?_
  refine lv_imul hx hb dX9_u_9 ?_
  refine lv_iadd hx hb dX9_u_10 ?_
  refine lv_iload_n hx hb dX9_u_11 rfl (lv_at hl 2 rfl) ?_
  refine lv_iadd hx hb dX9_u_12 ?_
  obtain ⟨g1, hV⟩ := jIf hV
  refine va_iald (D := D) (n := 2169) (f := (M 1)) hx hb hK hP 1 0 rfl rfl (inb_of g1) dX9_u_13 ?_
  exact pRet C rfl dX9_u_14 rfl (Option.some.inj hV)
theorem jy_X9_r : jY yX9_r cX9_r 3 (some .int) 2 := ⟨by decide +kernel, jq_14_13, jq_1_5⟩
def F_X9_r (N : Nat)  (M : Nat → Nat → Int32) (v1 v2 : Int32) : Option Int32 := (if inb (((181 : Int32) + ((3 : Int32) * v1)) + v2) 2169 = true then (some ((M 1) (((181 : Int32) + ((3 : Int32) * v1)) + v2).toNatClampNeg)) else none)
set_option maxHeartbeats 4000000 in
set_option maxRecDepth 100000 in
theorem k_X9_r (l : Launch) (D : va_G) (G : Nat → ClassId) (a : Nat → Nat) (N : Nat) (M : Nat → Nat → Int32) (v1 v2 : Int32) (r : Int32) (hV : F_X9_r N  M v1 v2 = some r) : pM l yX9_r (jws yX9_r cX9_r 3 (some .int)) ({ frames := 0, cells := 0, slots := 0, locals := 0 } : Room) [.ref (a 0), .int v1, .int v2] D G (wM a G M) (some (.int r)) := by
  refine pM_of (by decide +kernel) (Nat.le_of_ble_eq_true rfl) (fun p e s m args below meth c ls C hP hl => ?_)
  have C : Cx p s m args meth c cX9_r 3 RX9 (some .int) D G := C
  obtain ⟨hx, hb, hr, hml, hts, hown, hlocks, hK0⟩ := id C
  have hK := hK0.1
  have hl : lv_has ls 3 [(0, .ref (a 0)), (1, .int v1), (2, .int v2)] := hl
  rw [F_X9_r] at hV
  refine lv_aload_n hx hb dX9_r_0 rfl (lv_at hl 0 rfl) ?_
  refine va_get (D := D) (ci := 11) (v := .ref (a 1)) (C := RX9) (T := TX9) (N := 16) hx hb hts ju_X9 hown hK hP 0 rfl rfl 1 (by decide) (hts _ jq_6_1) (fun _ h9 => h9) rfl dX9_r_1 ?_
  refine lv_sipush (v := 181) hx hb dX9_r_4 (by decide) ?_
  refine lv_iconst (v := 3) hx hb dX9_r_7 (by decide) ?_
  refine lv_iload_n hx hb dX9_r_8 rfl (lv_at hl 1 rfl) ?_
  refine lv_imul hx hb dX9_r_9 ?_
  refine lv_iadd hx hb dX9_r_10 ?_
  refine lv_iload_n hx hb dX9_r_11 rfl (lv_at hl 2 rfl) ?_
  refine lv_iadd hx hb dX9_r_12 ?_
  obtain ⟨g1, hV⟩ := jIf hV
  refine va_iald (D := D) (n := 2169) (f := (M 1)) hx hb hK hP 1 0 rfl rfl (inb_of g1) dX9_r_13 ?_
  exact pRet C rfl dX9_r_14 rfl (Option.some.inj hV)
theorem jy_X9_firstOf : jY yX9_firstOf cX9_firstOf 4 (some .int) 1 := ⟨by decide +kernel, jq_17_23, jq_1_5⟩
def D_X9_firstOf_4 (N : Nat)  (M : Nat → Nat → Int32) : Nat → Int32 → Int32 → Int32 → Option Int32
  | 0, _, _, _ => none
  | n + 1, v1, v2, v3 => (if inb (38 : Int32) 2169 = true then (if ((M 1) (38 : Int32).toNatClampNeg) ≤ v3 then (some v2) else ((F_X9_p N M v3 (0 : Int32)).bind (fun r2 => (if r2 = v1 then (if v2 = (-1 : Int32) then ((F_X9_p N M v3 (2 : Int32)).bind (fun r3 => (D_X9_firstOf_4 N  M  n  v1 r3 (v3 + 1)))) else ((F_X9_p N M v3 (2 : Int32)).bind (fun r4 => (if v2 ≤ r4 then (D_X9_firstOf_4 N  M  n  v1 v2 (v3 + 1)) else ((F_X9_p N M v3 (2 : Int32)).bind (fun r5 => (D_X9_firstOf_4 N  M  n  v1 r5 (v3 + 1)))))))) else (D_X9_firstOf_4 N  M  n  v1 v2 (v3 + 1)))))) else none)
set_option maxHeartbeats 4000000 in
set_option maxRecDepth 100000 in
theorem B_X9_firstOf_4 {p : Program} {l : Launch} {e : Env} {s : State} {m : MethodId} {args : Array Value} {below : List Frame} {meth : Method} {c : Code} {D : va_G} {G : Nat → ClassId} (C : Cx p s m args meth c cX9_firstOf 4 RX9 (some .int) D G) (N : Nat) (a : Nat → Nat) (M : Nat → Nat → Int32) (r : Int32) (hP : va_P D vwCl (wM a G M) s.heap) : (∀ (n : Nat) (v1 : Int32) (v2 : Int32) (v3 : Int32) (ls : Array Slot), lv_has ls 4 [(0, .ref (a 0)), (1, .int v1), (2, .int v2), (3, .int v3)] → D_X9_firstOf_4 N  M  n v1 v2 v3 = some r → W p l e ({ frames := 1, cells := 0, slots := 0, locals := 22 } : Room) s m args below meth c s.heap [] 0 0 (MQ below (QcRd (some (.int r))) args s 0 0 nofree) (F0 m 4 ls [])) := by
  have C := C
  obtain ⟨hx, hb, hr, hml, hts, hown, hlocks, hK0⟩ := id C
  have hK := hK0.1
  intro n
  induction n with
  | zero =>
    intro v1 v2 v3 ls hl hV
    rw [D_X9_firstOf_4] at hV
    cases hV
  | succ n ih =>
    intro v1 v2 v3 ls hl hV
    rw [D_X9_firstOf_4] at hV
    refine lv_iload_n hx hb dX9_firstOf_4 rfl (lv_at hl 3 rfl) ?_
    refine lv_aload_n hx hb dX9_firstOf_5 rfl (lv_at hl 0 rfl) ?_
    refine va_get (D := D) (ci := 11) (v := .ref (a 1)) (C := RX9) (T := TX9) (N := 16) hx hb hts ju_X9 hown hK hP 0 rfl rfl 1 (by decide) (hts _ jq_6_1) (fun _ h9 => h9) rfl dX9_firstOf_6 ?_
    refine lv_bipush (v := 38) hx hb dX9_firstOf_9 (by decide) ?_
    obtain ⟨g1, hV⟩ := jIf hV
    refine va_iald (D := D) (n := 2169) (f := (M 1)) hx hb hK hP 1 0 rfl rfl (inb_of g1) dX9_firstOf_11 ?_
    refine lv_icmp_ge (tgt := 57) hx hb dX9_firstOf_12 (by decide) (fun c9 => ?_) (fun c9 => ?_)
    · have hV := jT1 hV c9
      refine lv_iload_n hx hb dX9_firstOf_57 rfl (lv_at hl 2 rfl) ?_
      exact pRet C rfl dX9_firstOf_58 rfl (Option.some.inj hV)
    · have hV := jF1 hV c9
      refine lv_aload_n hx hb dX9_firstOf_15 rfl (lv_at hl 0 rfl) ?_
      refine lv_iload_n hx hb dX9_firstOf_16 rfl (lv_at hl 3 rfl) ?_
      refine lv_iconst (v := 0) hx hb dX9_firstOf_17 (by decide) ?_
      obtain ⟨r2, hr2, hV⟩ := jBind hV
      refine jVpI C dX9_firstOf_18 (k_X9_p l D G a N M v3 (0 : Int32) r2 hr2) jy_X9_p jq_13_4 jq_13_5 jq_13_6 ⟨rfl, rfl, Nat.le_of_ble_eq_true rfl, Nat.le_of_ble_eq_true rfl⟩ ⟨Nat.le_of_ble_eq_true rfl, Nat.le_of_ble_eq_true rfl⟩ hP  (ci := 11) (iw := 0) rfl rfl rfl hl (rest := []) rfl (Nat.le_of_ble_eq_true rfl) ?_
      refine lv_iload_n hx hb dX9_firstOf_21 rfl (lv_at hl 1 rfl) ?_
      refine lv_icmp_ne (tgt := 49) hx hb dX9_firstOf_22 (by decide) (fun c8 => ?_) (fun c8 => ?_)
      · have hV := jF1 hV c8
        refine lv_iload_n hx hb dX9_firstOf_49 rfl (lv_at hl 2 rfl) ?_
        refine lv_istore_n (lv' := [(2, .int v2), (0, .ref (a 0)), (1, .int v1), (3, .int v3)]) hx hb dX9_firstOf_50 rfl hl (by decide) rfl (fun ls hl => ?_)
        refine lv_iinc (v := (v3 + 1)) (lv' := [(3, .int (v3 + 1)), (2, .int v2), (0, .ref (a 0)), (1, .int v1)]) hx hb dX9_firstOf_51 hl (k := 3) rfl rfl (by decide) rfl (fun ls hl => ?_)
        refine lv_goto (tgt := 4) hx hb dX9_firstOf_54 (by decide) ?_
        exact ih  v1 v2 (v3 + 1) _ (lv_sub hl [2, 3, 1, 0] rfl) hV
      · have hV := jT1 hV c8
        refine lv_iload_n hx hb dX9_firstOf_25 rfl (lv_at hl 2 rfl) ?_
        refine lv_iconst (v := -1) hx hb dX9_firstOf_26 (by decide) ?_
        refine lv_icmp_eq (tgt := 40) hx hb dX9_firstOf_27 (by decide) (fun c7 => ?_) (fun c7 => ?_)
        · have hV := jT1 hV c7
          refine lv_aload_n hx hb dX9_firstOf_40 rfl (lv_at hl 0 rfl) ?_
          refine lv_iload_n hx hb dX9_firstOf_41 rfl (lv_at hl 3 rfl) ?_
          refine lv_iconst (v := 2) hx hb dX9_firstOf_42 (by decide) ?_
          obtain ⟨r3, hr3, hV⟩ := jBind hV
          refine jVpI C dX9_firstOf_43 (k_X9_p l D G a N M v3 (2 : Int32) r3 hr3) jy_X9_p jq_13_4 jq_13_5 jq_13_6 ⟨rfl, rfl, Nat.le_of_ble_eq_true rfl, Nat.le_of_ble_eq_true rfl⟩ ⟨Nat.le_of_ble_eq_true rfl, Nat.le_of_ble_eq_true rfl⟩ hP  (ci := 11) (iw := 0) rfl rfl rfl hl (rest := []) rfl (Nat.le_of_ble_eq_true rfl) ?_
          refine lv_goto (tgt := 50) hx hb dX9_firstOf_46 (by decide) ?_
          refine lv_istore_n (lv' := [(2, .int r3), (0, .ref (a 0)), (1, .int v1), (3, .int v3)]) hx hb dX9_firstOf_50 rfl hl (by decide) rfl (fun ls hl => ?_)
          refine lv_iinc (v := (v3 + 1)) (lv' := [(3, .int (v3 + 1)), (2, .int r3), (0, .ref (a 0)), (1, .int v1)]) hx hb dX9_firstOf_51 hl (k := 3) rfl rfl (by decide) rfl (fun ls hl => ?_)
          refine lv_goto (tgt := 4) hx hb dX9_firstOf_54 (by decide) ?_
          exact ih  v1 r3 (v3 + 1) _ (lv_sub hl [2, 3, 1, 0] rfl) hV
        · have hV := jF1 hV c7
          refine lv_aload_n hx hb dX9_firstOf_30 rfl (lv_at hl 0 rfl) ?_
          refine lv_iload_n hx hb dX9_firstOf_31 rfl (lv_at hl 3 rfl) ?_
          refine lv_iconst (v := 2) hx hb dX9_firstOf_32 (by decide) ?_
          obtain ⟨r4, hr4, hV⟩ := jBind hV
          refine jVpI C dX9_firstOf_33 (k_X9_p l D G a N M v3 (2 : Int32) r4 hr4) jy_X9_p jq_13_4 jq_13_5 jq_13_6 ⟨rfl, rfl, Nat.le_of_ble_eq_true rfl, Nat.le_of_ble_eq_true rfl⟩ ⟨Nat.le_of_ble_eq_true rfl, Nat.le_of_ble_eq_true rfl⟩ hP  (ci := 11) (iw := 0) rfl rfl rfl hl (rest := []) rfl (Nat.le_of_ble_eq_true rfl) ?_
          refine lv_iload_n hx hb dX9_firstOf_36 rfl (lv_at hl 2 rfl) ?_
          refine lv_icmp_ge (tgt := 49) hx hb dX9_firstOf_37 (by decide) (fun c6 => ?_) (fun c6 => ?_)
          · have hV := jT1 hV c6
            refine lv_iload_n hx hb dX9_firstOf_49 rfl (lv_at hl 2 rfl) ?_
            refine lv_istore_n (lv' := [(2, .int v2), (0, .ref (a 0)), (1, .int v1), (3, .int v3)]) hx hb dX9_firstOf_50 rfl hl (by decide) rfl (fun ls hl => ?_)
            refine lv_iinc (v := (v3 + 1)) (lv' := [(3, .int (v3 + 1)), (2, .int v2), (0, .ref (a 0)), (1, .int v1)]) hx hb dX9_firstOf_51 hl (k := 3) rfl rfl (by decide) rfl (fun ls hl => ?_)
            refine lv_goto (tgt := 4) hx hb dX9_firstOf_54 (by decide) ?_
            exact ih  v1 v2 (v3 + 1) _ (lv_sub hl [2, 3, 1, 0] rfl) hV
          · have hV := jF1 hV c6
            refine lv_aload_n hx hb dX9_firstOf_40 rfl (lv_at hl 0 rfl) ?_
            refine lv_iload_n hx hb dX9_firstOf_41 rfl (lv_at hl 3 rfl) ?_
            refine lv_iconst (v := 2) hx hb dX9_firstOf_42 (by decide) ?_
            obtain ⟨r5, hr5, hV⟩ := jBind hV
            refine jVpI C dX9_firstOf_43 (k_X9_p l D G a N M v3 (2 : Int32) r5 hr5) jy_X9_p jq_13_4 jq_13_5 jq_13_6 ⟨rfl, rfl, Nat.le_of_ble_eq_true rfl, Nat.le_of_ble_eq_true rfl⟩ ⟨Nat.le_of_ble_eq_true rfl, Nat.le_of_ble_eq_true rfl⟩ hP  (ci := 11) (iw := 0) rfl rfl rfl hl (rest := []) rfl (Nat.le_of_ble_eq_true rfl) ?_
            refine lv_goto (tgt := 50) hx hb dX9_firstOf_46 (by decide) ?_
            refine lv_istore_n (lv' := [(2, .int r5), (0, .ref (a 0)), (1, .int v1), (3, .int v3)]) hx hb dX9_firstOf_50 rfl hl (by decide) rfl (fun ls hl => ?_)
            refine lv_iinc (v := (v3 + 1)) (lv' := [(3, .int (v3 + 1)), (2, .int r5), (0, .ref (a 0)), (1, .int v1)]) hx hb dX9_firstOf_51 hl (k := 3) rfl rfl (by decide) rfl (fun ls hl => ?_)
            refine lv_goto (tgt := 4) hx hb dX9_firstOf_54 (by decide) ?_
            exact ih  v1 r5 (v3 + 1) _ (lv_sub hl [2, 3, 1, 0] rfl) hV
def F_X9_firstOf (N : Nat)  (M : Nat → Nat → Int32) (v1 : Int32) : Option Int32 := (D_X9_firstOf_4 N  M  N  v1 (-1 : Int32) (0 : Int32))
set_option maxHeartbeats 4000000 in
set_option maxRecDepth 100000 in
theorem k_X9_firstOf (l : Launch) (D : va_G) (G : Nat → ClassId) (a : Nat → Nat) (N : Nat) (M : Nat → Nat → Int32) (v1 : Int32) (r : Int32) (hV : F_X9_firstOf N  M v1 = some r) : pM l yX9_firstOf (jws yX9_firstOf cX9_firstOf 4 (some .int)) ({ frames := 1, cells := 0, slots := 0, locals := 22 } : Room) [.ref (a 0), .int v1] D G (wM a G M) (some (.int r)) := by
  refine pM_of (by decide +kernel) (Nat.le_of_ble_eq_true rfl) (fun p e s m args below meth c ls C hP hl => ?_)
  have C : Cx p s m args meth c cX9_firstOf 4 RX9 (some .int) D G := C
  obtain ⟨hx, hb, hr, hml, hts, hown, hlocks, hK0⟩ := id C
  have hK := hK0.1
  have hl : lv_has ls 4 [(0, .ref (a 0)), (1, .int v1)] := hl
  rw [F_X9_firstOf] at hV
  refine lv_iconst (v := -1) hx hb dX9_firstOf_0 (by decide) ?_
  refine lv_istore_n (lv' := [(2, .int (-1 : Int32)), (0, .ref (a 0)), (1, .int v1)]) hx hb dX9_firstOf_1 rfl hl (by decide) rfl (fun ls hl => ?_)
  refine lv_iconst (v := 0) hx hb dX9_firstOf_2 (by decide) ?_
  refine lv_istore_n (lv' := [(3, .int (0 : Int32)), (2, .int (-1 : Int32)), (0, .ref (a 0)), (1, .int v1)]) hx hb dX9_firstOf_3 rfl hl (by decide) rfl (fun ls hl => ?_)
  exact B_X9_firstOf_4 C  N a M r hP   N  v1 (-1 : Int32) (0 : Int32) _ (lv_sub hl [2, 3, 1, 0] rfl) hV
theorem jy_X9_lastOf : jY yX9_lastOf cX9_lastOf 4 (some .int) 1 := ⟨by decide +kernel, jq_18_3, jq_1_5⟩
def D_X9_lastOf_4 (N : Nat)  (M : Nat → Nat → Int32) : Nat → Int32 → Int32 → Int32 → Option Int32
  | 0, _, _, _ => none
  | n + 1, v1, v2, v3 => (if inb (38 : Int32) 2169 = true then (if ((M 1) (38 : Int32).toNatClampNeg) ≤ v3 then (some v2) else ((F_X9_p N M v3 (0 : Int32)).bind (fun r2 => (if r2 = v1 then ((F_X9_p N M v3 (2 : Int32)).bind (fun r3 => (if r3 ≤ v2 then (D_X9_lastOf_4 N  M  n  v1 v2 (v3 + 1)) else ((F_X9_p N M v3 (2 : Int32)).bind (fun r4 => (D_X9_lastOf_4 N  M  n  v1 r4 (v3 + 1))))))) else (D_X9_lastOf_4 N  M  n  v1 v2 (v3 + 1)))))) else none)
set_option maxHeartbeats 4000000 in
set_option maxRecDepth 100000 in
theorem B_X9_lastOf_4 {p : Program} {l : Launch} {e : Env} {s : State} {m : MethodId} {args : Array Value} {below : List Frame} {meth : Method} {c : Code} {D : va_G} {G : Nat → ClassId} (C : Cx p s m args meth c cX9_lastOf 4 RX9 (some .int) D G) (N : Nat) (a : Nat → Nat) (M : Nat → Nat → Int32) (r : Int32) (hP : va_P D vwCl (wM a G M) s.heap) : (∀ (n : Nat) (v1 : Int32) (v2 : Int32) (v3 : Int32) (ls : Array Slot), lv_has ls 4 [(0, .ref (a 0)), (1, .int v1), (2, .int v2), (3, .int v3)] → D_X9_lastOf_4 N  M  n v1 v2 v3 = some r → W p l e ({ frames := 1, cells := 0, slots := 0, locals := 22 } : Room) s m args below meth c s.heap [] 0 0 (MQ below (QcRd (some (.int r))) args s 0 0 nofree) (F0 m 4 ls [])) := by
  have C := C
  obtain ⟨hx, hb, hr, hml, hts, hown, hlocks, hK0⟩ := id C
  have hK := hK0.1
  intro n
  induction n with
  | zero =>
    intro v1 v2 v3 ls hl hV
    rw [D_X9_lastOf_4] at hV
    cases hV
  | succ n ih =>
    intro v1 v2 v3 ls hl hV
    rw [D_X9_lastOf_4] at hV
    refine lv_iload_n hx hb dX9_lastOf_4 rfl (lv_at hl 3 rfl) ?_
    refine lv_aload_n hx hb dX9_lastOf_5 rfl (lv_at hl 0 rfl) ?_
    refine va_get (D := D) (ci := 11) (v := .ref (a 1)) (C := RX9) (T := TX9) (N := 16) hx hb hts ju_X9 hown hK hP 0 rfl rfl 1 (by decide) (hts _ jq_6_1) (fun _ h9 => h9) rfl dX9_lastOf_6 ?_
    refine lv_bipush (v := 38) hx hb dX9_lastOf_9 (by decide) ?_
    obtain ⟨g1, hV⟩ := jIf hV
    refine va_iald (D := D) (n := 2169) (f := (M 1)) hx hb hK hP 1 0 rfl rfl (inb_of g1) dX9_lastOf_11 ?_
    refine lv_icmp_ge (tgt := 52) hx hb dX9_lastOf_12 (by decide) (fun c7 => ?_) (fun c7 => ?_)
    · have hV := jT1 hV c7
      refine lv_iload_n hx hb dX9_lastOf_52 rfl (lv_at hl 2 rfl) ?_
      exact pRet C rfl dX9_lastOf_53 rfl (Option.some.inj hV)
    · have hV := jF1 hV c7
      refine lv_aload_n hx hb dX9_lastOf_15 rfl (lv_at hl 0 rfl) ?_
      refine lv_iload_n hx hb dX9_lastOf_16 rfl (lv_at hl 3 rfl) ?_
      refine lv_iconst (v := 0) hx hb dX9_lastOf_17 (by decide) ?_
      obtain ⟨r2, hr2, hV⟩ := jBind hV
      refine jVpI C dX9_lastOf_18 (k_X9_p l D G a N M v3 (0 : Int32) r2 hr2) jy_X9_p jq_13_4 jq_13_5 jq_13_6 ⟨rfl, rfl, Nat.le_of_ble_eq_true rfl, Nat.le_of_ble_eq_true rfl⟩ ⟨Nat.le_of_ble_eq_true rfl, Nat.le_of_ble_eq_true rfl⟩ hP  (ci := 11) (iw := 0) rfl rfl rfl hl (rest := []) rfl (Nat.le_of_ble_eq_true rfl) ?_
      refine lv_iload_n hx hb dX9_lastOf_21 rfl (lv_at hl 1 rfl) ?_
      refine lv_icmp_ne (tgt := 44) hx hb dX9_lastOf_22 (by decide) (fun c6 => ?_) (fun c6 => ?_)
      · have hV := jF1 hV c6
        refine lv_iload_n hx hb dX9_lastOf_44 rfl (lv_at hl 2 rfl) ?_
        refine lv_istore_n (lv' := [(2, .int v2), (0, .ref (a 0)), (1, .int v1), (3, .int v3)]) hx hb dX9_lastOf_45 rfl hl (by decide) rfl (fun ls hl => ?_)
        refine lv_iinc (v := (v3 + 1)) (lv' := [(3, .int (v3 + 1)), (2, .int v2), (0, .ref (a 0)), (1, .int v1)]) hx hb dX9_lastOf_46 hl (k := 3) rfl rfl (by decide) rfl (fun ls hl => ?_)
        refine lv_goto (tgt := 4) hx hb dX9_lastOf_49 (by decide) ?_
        exact ih  v1 v2 (v3 + 1) _ (lv_sub hl [2, 3, 1, 0] rfl) hV
      · have hV := jT1 hV c6
        refine lv_aload_n hx hb dX9_lastOf_25 rfl (lv_at hl 0 rfl) ?_
        refine lv_iload_n hx hb dX9_lastOf_26 rfl (lv_at hl 3 rfl) ?_
        refine lv_iconst (v := 2) hx hb dX9_lastOf_27 (by decide) ?_
        obtain ⟨r3, hr3, hV⟩ := jBind hV
        refine jVpI C dX9_lastOf_28 (k_X9_p l D G a N M v3 (2 : Int32) r3 hr3) jy_X9_p jq_13_4 jq_13_5 jq_13_6 ⟨rfl, rfl, Nat.le_of_ble_eq_true rfl, Nat.le_of_ble_eq_true rfl⟩ ⟨Nat.le_of_ble_eq_true rfl, Nat.le_of_ble_eq_true rfl⟩ hP  (ci := 11) (iw := 0) rfl rfl rfl hl (rest := []) rfl (Nat.le_of_ble_eq_true rfl) ?_
        refine lv_iload_n hx hb dX9_lastOf_31 rfl (lv_at hl 2 rfl) ?_
        refine lv_icmp_le (tgt := 44) hx hb dX9_lastOf_32 (by decide) (fun c5 => ?_) (fun c5 => ?_)
        · have hV := jT1 hV c5
          refine lv_iload_n hx hb dX9_lastOf_44 rfl (lv_at hl 2 rfl) ?_
          refine lv_istore_n (lv' := [(2, .int v2), (0, .ref (a 0)), (1, .int v1), (3, .int v3)]) hx hb dX9_lastOf_45 rfl hl (by decide) rfl (fun ls hl => ?_)
          refine lv_iinc (v := (v3 + 1)) (lv' := [(3, .int (v3 + 1)), (2, .int v2), (0, .ref (a 0)), (1, .int v1)]) hx hb dX9_lastOf_46 hl (k := 3) rfl rfl (by decide) rfl (fun ls hl => ?_)
          refine lv_goto (tgt := 4) hx hb dX9_lastOf_49 (by decide) ?_
          exact ih  v1 v2 (v3 + 1) _ (lv_sub hl [2, 3, 1, 0] rfl) hV
        · have hV := jF1 hV c5
          refine lv_aload_n hx hb dX9_lastOf_35 rfl (lv_at hl 0 rfl) ?_
          refine lv_iload_n hx hb dX9_lastOf_36 rfl (lv_at hl 3 rfl) ?_
          refine lv_iconst (v := 2) hx hb dX9_lastOf_37 (by decide) ?_
          obtain ⟨r4, hr4, hV⟩ := jBind hV
          refine jVpI C dX9_lastOf_38 (k_X9_p l D G a N M v3 (2 : Int32) r4 hr4) jy_X9_p jq_13_4 jq_13_5 jq_13_6 ⟨rfl, rfl, Nat.le_of_ble_eq_true rfl, Nat.le_of_ble_eq_true rfl⟩ ⟨Nat.le_of_ble_eq_true rfl, Nat.le_of_ble_eq_true rfl⟩ hP  (ci := 11) (iw := 0) rfl rfl rfl hl (rest := []) rfl (Nat.le_of_ble_eq_true rfl) ?_
          refine lv_goto (tgt := 45) hx hb dX9_lastOf_41 (by decide) ?_
          refine lv_istore_n (lv' := [(2, .int r4), (0, .ref (a 0)), (1, .int v1), (3, .int v3)]) hx hb dX9_lastOf_45 rfl hl (by decide) rfl (fun ls hl => ?_)
          refine lv_iinc (v := (v3 + 1)) (lv' := [(3, .int (v3 + 1)), (2, .int r4), (0, .ref (a 0)), (1, .int v1)]) hx hb dX9_lastOf_46 hl (k := 3) rfl rfl (by decide) rfl (fun ls hl => ?_)
          refine lv_goto (tgt := 4) hx hb dX9_lastOf_49 (by decide) ?_
          exact ih  v1 r4 (v3 + 1) _ (lv_sub hl [2, 3, 1, 0] rfl) hV
def F_X9_lastOf (N : Nat)  (M : Nat → Nat → Int32) (v1 : Int32) : Option Int32 := (D_X9_lastOf_4 N  M  N  v1 (-1 : Int32) (0 : Int32))
set_option maxHeartbeats 4000000 in
set_option maxRecDepth 100000 in
theorem k_X9_lastOf (l : Launch) (D : va_G) (G : Nat → ClassId) (a : Nat → Nat) (N : Nat) (M : Nat → Nat → Int32) (v1 : Int32) (r : Int32) (hV : F_X9_lastOf N  M v1 = some r) : pM l yX9_lastOf (jws yX9_lastOf cX9_lastOf 4 (some .int)) ({ frames := 1, cells := 0, slots := 0, locals := 22 } : Room) [.ref (a 0), .int v1] D G (wM a G M) (some (.int r)) := by
  refine pM_of (by decide +kernel) (Nat.le_of_ble_eq_true rfl) (fun p e s m args below meth c ls C hP hl => ?_)
  have C : Cx p s m args meth c cX9_lastOf 4 RX9 (some .int) D G := C
  obtain ⟨hx, hb, hr, hml, hts, hown, hlocks, hK0⟩ := id C
  have hK := hK0.1
  have hl : lv_has ls 4 [(0, .ref (a 0)), (1, .int v1)] := hl
  rw [F_X9_lastOf] at hV
  refine lv_iconst (v := -1) hx hb dX9_lastOf_0 (by decide) ?_
  refine lv_istore_n (lv' := [(2, .int (-1 : Int32)), (0, .ref (a 0)), (1, .int v1)]) hx hb dX9_lastOf_1 rfl hl (by decide) rfl (fun ls hl => ?_)
  refine lv_iconst (v := 0) hx hb dX9_lastOf_2 (by decide) ?_
  refine lv_istore_n (lv' := [(3, .int (0 : Int32)), (2, .int (-1 : Int32)), (0, .ref (a 0)), (1, .int v1)]) hx hb dX9_lastOf_3 rfl hl (by decide) rfl (fun ls hl => ?_)
  exact B_X9_lastOf_4 C  N a M r hP   N  v1 (-1 : Int32) (0 : Int32) _ (lv_sub hl [2, 3, 1, 0] rfl) hV
theorem jy_X9_isOn : jY yX9_isOn cX9_isOn 4 (some .boolean) 2 := ⟨by decide +kernel, jq_18_7, jq_1_5⟩
def D_X9_isOn_2 (N : Nat)  (M : Nat → Nat → Int32) : Nat → Int32 → Int32 → Int32 → Option Int32
  | 0, _, _, _ => none
  | n + 1, v1, v2, v3 => (if inb (38 : Int32) 2169 = true then (if ((M 1) (38 : Int32).toNatClampNeg) ≤ v3 then (some (0 : Int32)) else ((F_X9_p N M v3 (0 : Int32)).bind (fun r2 => (if r2 = v1 then ((F_X9_p N M v3 (2 : Int32)).bind (fun r3 => (if r3 = v2 then (some (1 : Int32)) else (D_X9_isOn_2 N  M  n  v1 v2 (v3 + 1))))) else (D_X9_isOn_2 N  M  n  v1 v2 (v3 + 1)))))) else none)
set_option maxHeartbeats 4000000 in
set_option maxRecDepth 100000 in
theorem B_X9_isOn_2 {p : Program} {l : Launch} {e : Env} {s : State} {m : MethodId} {args : Array Value} {below : List Frame} {meth : Method} {c : Code} {D : va_G} {G : Nat → ClassId} (C : Cx p s m args meth c cX9_isOn 4 RX9 (some .boolean) D G) (N : Nat) (a : Nat → Nat) (M : Nat → Nat → Int32) (r : Int32) (hP : va_P D vwCl (wM a G M) s.heap) : (∀ (n : Nat) (v1 : Int32) (v2 : Int32) (v3 : Int32) (ls : Array Slot), lv_has ls 4 [(0, .ref (a 0)), (1, .int v1), (2, .int v2), (3, .int v3)] → D_X9_isOn_2 N  M  n v1 v2 v3 = some r → W p l e ({ frames := 1, cells := 0, slots := 0, locals := 22 } : Room) s m args below meth c s.heap [] 0 0 (MQ below (QcRd (some (.int r))) args s 0 0 nofree) (F0 m 2 ls [])) := by
  have C := C
  obtain ⟨hx, hb, hr, hml, hts, hown, hlocks, hK0⟩ := id C
  have hK := hK0.1
  intro n
  induction n with
  | zero =>
    intro v1 v2 v3 ls hl hV
    rw [D_X9_isOn_2] at hV
    cases hV
  | succ n ih =>
    intro v1 v2 v3 ls hl hV
    rw [D_X9_isOn_2] at hV
    refine lv_iload_n hx hb dX9_isOn_2 rfl (lv_at hl 3 rfl) ?_
    refine lv_aload_n hx hb dX9_isOn_3 rfl (lv_at hl 0 rfl) ?_
    refine va_get (D := D) (ci := 11) (v := .ref (a 1)) (C := RX9) (T := TX9) (N := 16) hx hb hts ju_X9 hown hK hP 0 rfl rfl 1 (by decide) (hts _ jq_6_1) (fun _ h9 => h9) rfl dX9_isOn_4 ?_
    refine lv_bipush (v := 38) hx hb dX9_isOn_7 (by decide) ?_
    obtain ⟨g1, hV⟩ := jIf hV
    refine va_iald (D := D) (n := 2169) (f := (M 1)) hx hb hK hP 1 0 rfl rfl (inb_of g1) dX9_isOn_9 ?_
    refine lv_icmp_ge (tgt := 41) hx hb dX9_isOn_10 (by decide) (fun c6 => ?_) (fun c6 => ?_)
    · have hV := jT1 hV c6
      refine lv_iconst (v := 0) hx hb dX9_isOn_41 (by decide) ?_
      exact pRet C rfl dX9_isOn_42 rfl (Option.some.inj hV)
    · have hV := jF1 hV c6
      refine lv_aload_n hx hb dX9_isOn_13 rfl (lv_at hl 0 rfl) ?_
      refine lv_iload_n hx hb dX9_isOn_14 rfl (lv_at hl 3 rfl) ?_
      refine lv_iconst (v := 0) hx hb dX9_isOn_15 (by decide) ?_
      obtain ⟨r2, hr2, hV⟩ := jBind hV
      refine jVpI C dX9_isOn_16 (k_X9_p l D G a N M v3 (0 : Int32) r2 hr2) jy_X9_p jq_13_4 jq_13_5 jq_13_6 ⟨rfl, rfl, Nat.le_of_ble_eq_true rfl, Nat.le_of_ble_eq_true rfl⟩ ⟨Nat.le_of_ble_eq_true rfl, Nat.le_of_ble_eq_true rfl⟩ hP  (ci := 11) (iw := 0) rfl rfl rfl hl (rest := []) rfl (Nat.le_of_ble_eq_true rfl) ?_
      refine lv_iload_n hx hb dX9_isOn_19 rfl (lv_at hl 1 rfl) ?_
      refine lv_icmp_ne (tgt := 35) hx hb dX9_isOn_20 (by decide) (fun c5 => ?_) (fun c5 => ?_)
      · have hV := jF1 hV c5
        refine lv_iinc (v := (v3 + 1)) (lv' := [(3, .int (v3 + 1)), (0, .ref (a 0)), (1, .int v1), (2, .int v2)]) hx hb dX9_isOn_35 hl (k := 3) rfl rfl (by decide) rfl (fun ls hl => ?_)
        refine lv_goto (tgt := 2) hx hb dX9_isOn_38 (by decide) ?_
        exact ih  v1 v2 (v3 + 1) _ (lv_sub hl [1, 2, 3, 0] rfl) hV
      · have hV := jT1 hV c5
        refine lv_aload_n hx hb dX9_isOn_23 rfl (lv_at hl 0 rfl) ?_
        refine lv_iload_n hx hb dX9_isOn_24 rfl (lv_at hl 3 rfl) ?_
        refine lv_iconst (v := 2) hx hb dX9_isOn_25 (by decide) ?_
        obtain ⟨r3, hr3, hV⟩ := jBind hV
        refine jVpI C dX9_isOn_26 (k_X9_p l D G a N M v3 (2 : Int32) r3 hr3) jy_X9_p jq_13_4 jq_13_5 jq_13_6 ⟨rfl, rfl, Nat.le_of_ble_eq_true rfl, Nat.le_of_ble_eq_true rfl⟩ ⟨Nat.le_of_ble_eq_true rfl, Nat.le_of_ble_eq_true rfl⟩ hP  (ci := 11) (iw := 0) rfl rfl rfl hl (rest := []) rfl (Nat.le_of_ble_eq_true rfl) ?_
        refine lv_iload_n hx hb dX9_isOn_29 rfl (lv_at hl 2 rfl) ?_
        refine lv_icmp_ne (tgt := 35) hx hb dX9_isOn_30 (by decide) (fun c4 => ?_) (fun c4 => ?_)
        · have hV := jF1 hV c4
          refine lv_iinc (v := (v3 + 1)) (lv' := [(3, .int (v3 + 1)), (0, .ref (a 0)), (1, .int v1), (2, .int v2)]) hx hb dX9_isOn_35 hl (k := 3) rfl rfl (by decide) rfl (fun ls hl => ?_)
          refine lv_goto (tgt := 2) hx hb dX9_isOn_38 (by decide) ?_
          exact ih  v1 v2 (v3 + 1) _ (lv_sub hl [1, 2, 3, 0] rfl) hV
        · have hV := jT1 hV c4
          refine lv_iconst (v := 1) hx hb dX9_isOn_33 (by decide) ?_
          exact pRet C rfl dX9_isOn_34 rfl (Option.some.inj hV)
def F_X9_isOn (N : Nat)  (M : Nat → Nat → Int32) (v1 v2 : Int32) : Option Int32 := (D_X9_isOn_2 N  M  N  v1 v2 (0 : Int32))
set_option maxHeartbeats 4000000 in
set_option maxRecDepth 100000 in
theorem k_X9_isOn (l : Launch) (D : va_G) (G : Nat → ClassId) (a : Nat → Nat) (N : Nat) (M : Nat → Nat → Int32) (v1 v2 : Int32) (r : Int32) (hV : F_X9_isOn N  M v1 v2 = some r) : pM l yX9_isOn (jws yX9_isOn cX9_isOn 4 (some .boolean)) ({ frames := 1, cells := 0, slots := 0, locals := 22 } : Room) [.ref (a 0), .int v1, .int v2] D G (wM a G M) (some (.int r)) := by
  refine pM_of (by decide +kernel) (Nat.le_of_ble_eq_true rfl) (fun p e s m args below meth c ls C hP hl => ?_)
  have C : Cx p s m args meth c cX9_isOn 4 RX9 (some .boolean) D G := C
  obtain ⟨hx, hb, hr, hml, hts, hown, hlocks, hK0⟩ := id C
  have hK := hK0.1
  have hl : lv_has ls 4 [(0, .ref (a 0)), (1, .int v1), (2, .int v2)] := hl
  rw [F_X9_isOn] at hV
  refine lv_iconst (v := 0) hx hb dX9_isOn_0 (by decide) ?_
  refine lv_istore_n (lv' := [(3, .int (0 : Int32)), (0, .ref (a 0)), (1, .int v1), (2, .int v2)]) hx hb dX9_isOn_1 rfl hl (by decide) rfl (fun ls hl => ?_)
  exact B_X9_isOn_2 C  N a M r hP   N  v1 v2 (0 : Int32) _ (lv_sub hl [1, 2, 3, 0] rfl) hV
theorem jy_X9_crews : jY yX9_crews cX9_crews 4 (some .int) 1 := ⟨by decide +kernel, jq_17_1, jq_1_5⟩
def D_X9_crews_4 (N : Nat)  (M : Nat → Nat → Int32) : Nat → Int32 → Int32 → Int32 → Option Int32
  | 0, _, _, _ => none
  | n + 1, v1, v2, v3 => (if inb (38 : Int32) 2169 = true then (if ((M 1) (38 : Int32).toNatClampNeg) ≤ v3 then (some v2) else ((F_X9_p N M v3 (2 : Int32)).bind (fun r2 => (if r2 = v1 then ((F_X9_p N M v3 (0 : Int32)).bind (fun r3 => ((F_X9_d N M r3 (1 : Int32)).bind (fun r4 => (D_X9_crews_4 N  M  n  v1 (v2 + r4) (v3 + 1)))))) else (D_X9_crews_4 N  M  n  v1 (v2 + (0 : Int32)) (v3 + 1)))))) else none)
set_option maxHeartbeats 4000000 in
set_option maxRecDepth 100000 in
theorem B_X9_crews_4 {p : Program} {l : Launch} {e : Env} {s : State} {m : MethodId} {args : Array Value} {below : List Frame} {meth : Method} {c : Code} {D : va_G} {G : Nat → ClassId} (C : Cx p s m args meth c cX9_crews 4 RX9 (some .int) D G) (N : Nat) (a : Nat → Nat) (M : Nat → Nat → Int32) (r : Int32) (hP : va_P D vwCl (wM a G M) s.heap) : (∀ (n : Nat) (v1 : Int32) (v2 : Int32) (v3 : Int32) (ls : Array Slot), lv_has ls 4 [(0, .ref (a 0)), (1, .int v1), (2, .int v2), (3, .int v3)] → D_X9_crews_4 N  M  n v1 v2 v3 = some r → W p l e ({ frames := 1, cells := 0, slots := 0, locals := 22 } : Room) s m args below meth c s.heap [] 0 0 (MQ below (QcRd (some (.int r))) args s 0 0 nofree) (F0 m 4 ls [])) := by
  have C := C
  obtain ⟨hx, hb, hr, hml, hts, hown, hlocks, hK0⟩ := id C
  have hK := hK0.1
  intro n
  induction n with
  | zero =>
    intro v1 v2 v3 ls hl hV
    rw [D_X9_crews_4] at hV
    cases hV
  | succ n ih =>
    intro v1 v2 v3 ls hl hV
    rw [D_X9_crews_4] at hV
    refine lv_iload_n hx hb dX9_crews_4 rfl (lv_at hl 3 rfl) ?_
    refine lv_aload_n hx hb dX9_crews_5 rfl (lv_at hl 0 rfl) ?_
    refine va_get (D := D) (ci := 11) (v := .ref (a 1)) (C := RX9) (T := TX9) (N := 16) hx hb hts ju_X9 hown hK hP 0 rfl rfl 1 (by decide) (hts _ jq_6_1) (fun _ h9 => h9) rfl dX9_crews_6 ?_
    refine lv_bipush (v := 38) hx hb dX9_crews_9 (by decide) ?_
    obtain ⟨g1, hV⟩ := jIf hV
    refine va_iald (D := D) (n := 2169) (f := (M 1)) hx hb hK hP 1 0 rfl rfl (inb_of g1) dX9_crews_11 ?_
    refine lv_icmp_ge (tgt := 49) hx hb dX9_crews_12 (by decide) (fun c6 => ?_) (fun c6 => ?_)
    · have hV := jT1 hV c6
      refine lv_iload_n hx hb dX9_crews_49 rfl (lv_at hl 2 rfl) ?_
      exact pRet C rfl dX9_crews_50 rfl (Option.some.inj hV)
    · have hV := jF1 hV c6
      refine lv_iload_n hx hb dX9_crews_15 rfl (lv_at hl 2 rfl) ?_
      refine lv_aload_n hx hb dX9_crews_16 rfl (lv_at hl 0 rfl) ?_
      refine lv_iload_n hx hb dX9_crews_17 rfl (lv_at hl 3 rfl) ?_
      refine lv_iconst (v := 2) hx hb dX9_crews_18 (by decide) ?_
      obtain ⟨r2, hr2, hV⟩ := jBind hV
      refine jVpI C dX9_crews_19 (k_X9_p l D G a N M v3 (2 : Int32) r2 hr2) jy_X9_p jq_13_4 jq_13_5 jq_13_6 ⟨rfl, rfl, Nat.le_of_ble_eq_true rfl, Nat.le_of_ble_eq_true rfl⟩ ⟨Nat.le_of_ble_eq_true rfl, Nat.le_of_ble_eq_true rfl⟩ hP  (ci := 11) (iw := 0) rfl rfl rfl hl (rest := [.int v2]) rfl (Nat.le_of_ble_eq_true rfl) ?_
      refine lv_iload_n hx hb dX9_crews_22 rfl (lv_at hl 1 rfl) ?_
      refine lv_icmp_ne (tgt := 40) hx hb dX9_crews_23 (by decide) (fun c5 => ?_) (fun c5 => ?_)
      · have hV := jF1 hV c5
        refine lv_iconst (v := 0) hx hb dX9_crews_40 (by decide) ?_
        refine lv_iadd hx hb dX9_crews_41 ?_
        refine lv_istore_n (lv' := [(2, .int (v2 + (0 : Int32))), (0, .ref (a 0)), (1, .int v1), (3, .int v3)]) hx hb dX9_crews_42 rfl hl (by decide) rfl (fun ls hl => ?_)
        refine lv_iinc (v := (v3 + 1)) (lv' := [(3, .int (v3 + 1)), (2, .int (v2 + (0 : Int32))), (0, .ref (a 0)), (1, .int v1)]) hx hb dX9_crews_43 hl (k := 3) rfl rfl (by decide) rfl (fun ls hl => ?_)
        refine lv_goto (tgt := 4) hx hb dX9_crews_46 (by decide) ?_
        exact ih  v1 (v2 + (0 : Int32)) (v3 + 1) _ (lv_sub hl [2, 3, 1, 0] rfl) hV
      · have hV := jT1 hV c5
        refine lv_aload_n hx hb dX9_crews_26 rfl (lv_at hl 0 rfl) ?_
        refine lv_aload_n hx hb dX9_crews_27 rfl (lv_at hl 0 rfl) ?_
        refine lv_iload_n hx hb dX9_crews_28 rfl (lv_at hl 3 rfl) ?_
        refine lv_iconst (v := 0) hx hb dX9_crews_29 (by decide) ?_
        obtain ⟨r3, hr3, hV⟩ := jBind hV
        refine jVpI C dX9_crews_30 (k_X9_p l D G a N M v3 (0 : Int32) r3 hr3) jy_X9_p jq_13_4 jq_13_5 jq_13_6 ⟨rfl, rfl, Nat.le_of_ble_eq_true rfl, Nat.le_of_ble_eq_true rfl⟩ ⟨Nat.le_of_ble_eq_true rfl, Nat.le_of_ble_eq_true rfl⟩ hP  (ci := 11) (iw := 0) rfl rfl rfl hl (rest := [.ref (a 0), .int v2]) rfl (Nat.le_of_ble_eq_true rfl) ?_
        refine lv_iconst (v := 1) hx hb dX9_crews_33 (by decide) ?_
        obtain ⟨r4, hr4, hV⟩ := jBind hV
        refine jVpI C dX9_crews_34 (k_X9_d l D G a N M r3 (1 : Int32) r4 hr4) jy_X9_d jq_17_2 jq_17_3 jq_17_4 ⟨rfl, rfl, Nat.le_of_ble_eq_true rfl, Nat.le_of_ble_eq_true rfl⟩ ⟨Nat.le_of_ble_eq_true rfl, Nat.le_of_ble_eq_true rfl⟩ hP  (ci := 11) (iw := 0) rfl rfl rfl hl (rest := [.int v2]) rfl (Nat.le_of_ble_eq_true rfl) ?_
        refine lv_goto (tgt := 41) hx hb dX9_crews_37 (by decide) ?_
        refine lv_iadd hx hb dX9_crews_41 ?_
        refine lv_istore_n (lv' := [(2, .int (v2 + r4)), (0, .ref (a 0)), (1, .int v1), (3, .int v3)]) hx hb dX9_crews_42 rfl hl (by decide) rfl (fun ls hl => ?_)
        refine lv_iinc (v := (v3 + 1)) (lv' := [(3, .int (v3 + 1)), (2, .int (v2 + r4)), (0, .ref (a 0)), (1, .int v1)]) hx hb dX9_crews_43 hl (k := 3) rfl rfl (by decide) rfl (fun ls hl => ?_)
        refine lv_goto (tgt := 4) hx hb dX9_crews_46 (by decide) ?_
        exact ih  v1 (v2 + r4) (v3 + 1) _ (lv_sub hl [2, 3, 1, 0] rfl) hV
def F_X9_crews (N : Nat)  (M : Nat → Nat → Int32) (v1 : Int32) : Option Int32 := (D_X9_crews_4 N  M  N  v1 (0 : Int32) (0 : Int32))
set_option maxHeartbeats 4000000 in
set_option maxRecDepth 100000 in
theorem k_X9_crews (l : Launch) (D : va_G) (G : Nat → ClassId) (a : Nat → Nat) (N : Nat) (M : Nat → Nat → Int32) (v1 : Int32) (r : Int32) (hV : F_X9_crews N  M v1 = some r) : pM l yX9_crews (jws yX9_crews cX9_crews 4 (some .int)) ({ frames := 1, cells := 0, slots := 0, locals := 22 } : Room) [.ref (a 0), .int v1] D G (wM a G M) (some (.int r)) := by
  refine pM_of (by decide +kernel) (Nat.le_of_ble_eq_true rfl) (fun p e s m args below meth c ls C hP hl => ?_)
  have C : Cx p s m args meth c cX9_crews 4 RX9 (some .int) D G := C
  obtain ⟨hx, hb, hr, hml, hts, hown, hlocks, hK0⟩ := id C
  have hK := hK0.1
  have hl : lv_has ls 4 [(0, .ref (a 0)), (1, .int v1)] := hl
  rw [F_X9_crews] at hV
  refine lv_iconst (v := 0) hx hb dX9_crews_0 (by decide) ?_
  refine lv_istore_n (lv' := [(2, .int (0 : Int32)), (0, .ref (a 0)), (1, .int v1)]) hx hb dX9_crews_1 rfl hl (by decide) rfl (fun ls hl => ?_)
  refine lv_iconst (v := 0) hx hb dX9_crews_2 (by decide) ?_
  refine lv_istore_n (lv' := [(3, .int (0 : Int32)), (2, .int (0 : Int32)), (0, .ref (a 0)), (1, .int v1)]) hx hb dX9_crews_3 rfl hl (by decide) rfl (fun ls hl => ?_)
  exact B_X9_crews_4 C  N a M r hP   N  v1 (0 : Int32) (0 : Int32) _ (lv_sub hl [2, 3, 1, 0] rfl) hV
theorem jy_X9_loadOf : jY yX9_loadOf cX9_loadOf 5 (some .int) 1 := ⟨by decide +kernel, jq_17_19, jq_1_5⟩
def D_X9_loadOf_4 (N : Nat)  (M : Nat → Nat → Int32) : Nat → Int32 → Int32 → Int32 → Option Int32
  | 0, _, _, _ => none
  | n + 1, v1, v2, v3 => (if inb (5 : Int32) 2169 = true then (if ((M 1) (5 : Int32).toNatClampNeg) ≤ v3 then (some v2) else ((F_X9_firstOf N M v3).bind (fun r2 => (if r2 = (-1 : Int32) then (D_X9_loadOf_4 N  M  n  v1 (v2 + (0 : Int32)) (v3 + 1)) else (if v1 < r2 then (D_X9_loadOf_4 N  M  n  v1 (v2 + (0 : Int32)) (v3 + 1)) else ((F_X9_lastOf N M v3).bind (fun r3 => (if r3 < v1 then (D_X9_loadOf_4 N  M  n  v1 (v2 + (0 : Int32)) (v3 + 1)) else ((F_X9_isOn N M v3 v1).bind (fun r4 => (if r4 = 0 then ((F_X9_d N M v3 (0 : Int32)).bind (fun r5 => (D_X9_loadOf_4 N  M  n  v1 (v2 + r5) (v3 + 1)))) else (D_X9_loadOf_4 N  M  n  v1 (v2 + (0 : Int32)) (v3 + 1))))))))))))) else none)
set_option maxHeartbeats 4000000 in
set_option maxRecDepth 100000 in
theorem B_X9_loadOf_4 {p : Program} {l : Launch} {e : Env} {s : State} {m : MethodId} {args : Array Value} {below : List Frame} {meth : Method} {c : Code} {D : va_G} {G : Nat → ClassId} (C : Cx p s m args meth c cX9_loadOf 5 RX9 (some .int) D G) (N : Nat) (a : Nat → Nat) (M : Nat → Nat → Int32) (r : Int32) (hP : va_P D vwCl (wM a G M) s.heap) : (∀ (n : Nat) (v1 : Int32) (v2 : Int32) (v3 : Int32) (ls : Array Slot), lv_has ls 5 [(0, .ref (a 0)), (1, .int v1), (2, .int v2), (3, .int v3)] → D_X9_loadOf_4 N  M  n v1 v2 v3 = some r → W p l e ({ frames := 2, cells := 0, slots := 0, locals := 45 } : Room) s m args below meth c s.heap [] 0 0 (MQ below (QcRd (some (.int r))) args s 0 0 nofree) (F0 m 4 ls [])) := by
  have C := C
  obtain ⟨hx, hb, hr, hml, hts, hown, hlocks, hK0⟩ := id C
  have hK := hK0.1
  intro n
  induction n with
  | zero =>
    intro v1 v2 v3 ls hl hV
    rw [D_X9_loadOf_4] at hV
    cases hV
  | succ n ih =>
    intro v1 v2 v3 ls hl hV
    rw [D_X9_loadOf_4] at hV
    refine lv_iload_n hx hb dX9_loadOf_4 rfl (lv_at hl 3 rfl) ?_
    refine lv_aload_n hx hb dX9_loadOf_5 rfl (lv_at hl 0 rfl) ?_
    refine va_get (D := D) (ci := 11) (v := .ref (a 1)) (C := RX9) (T := TX9) (N := 16) hx hb hts ju_X9 hown hK hP 0 rfl rfl 1 (by decide) (hts _ jq_6_1) (fun _ h9 => h9) rfl dX9_loadOf_6 ?_
    refine lv_iconst (v := 5) hx hb dX9_loadOf_9 (by decide) ?_
    obtain ⟨g1, hV⟩ := jIf hV
    refine va_iald (D := D) (n := 2169) (f := (M 1)) hx hb hK hP 1 0 rfl rfl (inb_of g1) dX9_loadOf_10 ?_
    refine lv_icmp_ge (tgt := 70) hx hb dX9_loadOf_11 (by decide) (fun c10 => ?_) (fun c10 => ?_)
    · have hV := jT1 hV c10
      refine lv_iload_n hx hb dX9_loadOf_70 rfl (lv_at hl 2 rfl) ?_
      exact pRet C rfl dX9_loadOf_71 rfl (Option.some.inj hV)
    · have hV := jF1 hV c10
      refine lv_aload_n hx hb dX9_loadOf_14 rfl (lv_at hl 0 rfl) ?_
      refine lv_iload_n hx hb dX9_loadOf_15 rfl (lv_at hl 3 rfl) ?_
      obtain ⟨r2, hr2, hV⟩ := jBind hV
      refine jVpI C dX9_loadOf_16 (k_X9_firstOf l D G a N M v3 r2 hr2) jy_X9_firstOf jq_17_20 jq_17_21 jq_17_22 ⟨rfl, rfl, Nat.le_of_ble_eq_true rfl, Nat.le_of_ble_eq_true rfl⟩ ⟨Nat.le_of_ble_eq_true rfl, Nat.le_of_ble_eq_true rfl⟩ hP  (ci := 11) (iw := 0) rfl rfl rfl hl (rest := []) rfl (Nat.le_of_ble_eq_true rfl) ?_
      refine lv_istore (lv' := [(4, .int r2), (0, .ref (a 0)), (1, .int v1), (2, .int v2), (3, .int v3)]) hx hb dX9_loadOf_19 hl (by decide) rfl (fun ls hl => ?_)
      refine lv_iload_n hx hb dX9_loadOf_21 rfl (lv_at hl 3 rfl) ?_
      refine lv_iload hx hb dX9_loadOf_22 (lv_at hl 0 rfl) ?_
      refine lv_iconst (v := -1) hx hb dX9_loadOf_24 (by decide) ?_
      refine lv_icmp_eq (tgt := 61) hx hb dX9_loadOf_25 (by decide) (fun c9 => ?_) (fun c9 => ?_)
      · have hV := jT1 hV c9
        refine lv_iconst (v := 0) hx hb dX9_loadOf_61 (by decide) ?_
        refine lv_iadd hx hb dX9_loadOf_62 ?_
        refine lv_istore_n (lv' := [(2, .int (v2 + (0 : Int32))), (4, .int r2), (0, .ref (a 0)), (1, .int v1), (3, .int v3)]) hx hb dX9_loadOf_63 rfl hl (by decide) rfl (fun ls hl => ?_)
        refine lv_iinc (v := (v3 + 1)) (lv' := [(3, .int (v3 + 1)), (2, .int (v2 + (0 : Int32))), (4, .int r2), (0, .ref (a 0)), (1, .int v1)]) hx hb dX9_loadOf_64 hl (k := 4) rfl rfl (by decide) rfl (fun ls hl => ?_)
        refine lv_goto (tgt := 4) hx hb dX9_loadOf_67 (by decide) ?_
        exact ih  v1 (v2 + (0 : Int32)) (v3 + 1) _ (lv_sub hl [3, 4, 1, 0] rfl) hV
      · have hV := jF1 hV c9
        refine lv_iload_n hx hb dX9_loadOf_28 rfl (lv_at hl 2 rfl) ?_
        refine lv_iload hx hb dX9_loadOf_29 (lv_at hl 0 rfl) ?_
        refine lv_icmp_lt (tgt := 61) hx hb dX9_loadOf_31 (by decide) (fun c8 => ?_) (fun c8 => ?_)
        · have hV := jT1 hV c8
          refine lv_iconst (v := 0) hx hb dX9_loadOf_61 (by decide) ?_
          refine lv_iadd hx hb dX9_loadOf_62 ?_
          refine lv_istore_n (lv' := [(2, .int (v2 + (0 : Int32))), (4, .int r2), (0, .ref (a 0)), (1, .int v1), (3, .int v3)]) hx hb dX9_loadOf_63 rfl hl (by decide) rfl (fun ls hl => ?_)
          refine lv_iinc (v := (v3 + 1)) (lv' := [(3, .int (v3 + 1)), (2, .int (v2 + (0 : Int32))), (4, .int r2), (0, .ref (a 0)), (1, .int v1)]) hx hb dX9_loadOf_64 hl (k := 4) rfl rfl (by decide) rfl (fun ls hl => ?_)
          refine lv_goto (tgt := 4) hx hb dX9_loadOf_67 (by decide) ?_
          exact ih  v1 (v2 + (0 : Int32)) (v3 + 1) _ (lv_sub hl [3, 4, 1, 0] rfl) hV
        · have hV := jF1 hV c8
          refine lv_iload_n hx hb dX9_loadOf_34 rfl (lv_at hl 2 rfl) ?_
          refine lv_aload_n hx hb dX9_loadOf_35 rfl (lv_at hl 1 rfl) ?_
          refine lv_iload_n hx hb dX9_loadOf_36 rfl (lv_at hl 4 rfl) ?_
          obtain ⟨r3, hr3, hV⟩ := jBind hV
          refine jVpI C dX9_loadOf_37 (k_X9_lastOf l D G a N M v3 r3 hr3) jy_X9_lastOf jq_18_0 jq_18_1 jq_18_2 ⟨rfl, rfl, Nat.le_of_ble_eq_true rfl, Nat.le_of_ble_eq_true rfl⟩ ⟨Nat.le_of_ble_eq_true rfl, Nat.le_of_ble_eq_true rfl⟩ hP  (ci := 11) (iw := 0) rfl rfl rfl hl (rest := [.int v1, .int v2]) rfl (Nat.le_of_ble_eq_true rfl) ?_
          refine lv_icmp_gt (tgt := 61) hx hb dX9_loadOf_40 (by decide) (fun c7 => ?_) (fun c7 => ?_)
          · have hV := jT1 hV c7
            refine lv_iconst (v := 0) hx hb dX9_loadOf_61 (by decide) ?_
            refine lv_iadd hx hb dX9_loadOf_62 ?_
            refine lv_istore_n (lv' := [(2, .int (v2 + (0 : Int32))), (4, .int r2), (0, .ref (a 0)), (1, .int v1), (3, .int v3)]) hx hb dX9_loadOf_63 rfl hl (by decide) rfl (fun ls hl => ?_)
            refine lv_iinc (v := (v3 + 1)) (lv' := [(3, .int (v3 + 1)), (2, .int (v2 + (0 : Int32))), (4, .int r2), (0, .ref (a 0)), (1, .int v1)]) hx hb dX9_loadOf_64 hl (k := 4) rfl rfl (by decide) rfl (fun ls hl => ?_)
            refine lv_goto (tgt := 4) hx hb dX9_loadOf_67 (by decide) ?_
            exact ih  v1 (v2 + (0 : Int32)) (v3 + 1) _ (lv_sub hl [3, 4, 1, 0] rfl) hV
          · have hV := jF1 hV c7
            refine lv_aload_n hx hb dX9_loadOf_43 rfl (lv_at hl 1 rfl) ?_
            refine lv_iload_n hx hb dX9_loadOf_44 rfl (lv_at hl 4 rfl) ?_
            refine lv_iload_n hx hb dX9_loadOf_45 rfl (lv_at hl 2 rfl) ?_
            obtain ⟨r4, hr4, hV⟩ := jBind hV
            refine jVpI C dX9_loadOf_46 (k_X9_isOn l D G a N M v3 v1 r4 hr4) jy_X9_isOn jq_18_4 jq_18_5 jq_18_6 ⟨rfl, rfl, Nat.le_of_ble_eq_true rfl, Nat.le_of_ble_eq_true rfl⟩ ⟨Nat.le_of_ble_eq_true rfl, Nat.le_of_ble_eq_true rfl⟩ hP  (ci := 11) (iw := 0) rfl rfl rfl hl (rest := [.int v2]) rfl (Nat.le_of_ble_eq_true rfl) ?_
            refine lv_if_ne (tgt := 61) hx hb dX9_loadOf_49 (by decide) (fun c6 => ?_) (fun c6 => ?_)
            · have hV := jF1 hV c6
              refine lv_iconst (v := 0) hx hb dX9_loadOf_61 (by decide) ?_
              refine lv_iadd hx hb dX9_loadOf_62 ?_
              refine lv_istore_n (lv' := [(2, .int (v2 + (0 : Int32))), (4, .int r2), (0, .ref (a 0)), (1, .int v1), (3, .int v3)]) hx hb dX9_loadOf_63 rfl hl (by decide) rfl (fun ls hl => ?_)
              refine lv_iinc (v := (v3 + 1)) (lv' := [(3, .int (v3 + 1)), (2, .int (v2 + (0 : Int32))), (4, .int r2), (0, .ref (a 0)), (1, .int v1)]) hx hb dX9_loadOf_64 hl (k := 4) rfl rfl (by decide) rfl (fun ls hl => ?_)
              refine lv_goto (tgt := 4) hx hb dX9_loadOf_67 (by decide) ?_
              exact ih  v1 (v2 + (0 : Int32)) (v3 + 1) _ (lv_sub hl [3, 4, 1, 0] rfl) hV
            · have hV := jT1 hV c6
              refine lv_aload_n hx hb dX9_loadOf_52 rfl (lv_at hl 1 rfl) ?_
              refine lv_iload_n hx hb dX9_loadOf_53 rfl (lv_at hl 4 rfl) ?_
              refine lv_iconst (v := 0) hx hb dX9_loadOf_54 (by decide) ?_
              obtain ⟨r5, hr5, hV⟩ := jBind hV
              refine jVpI C dX9_loadOf_55 (k_X9_d l D G a N M v3 (0 : Int32) r5 hr5) jy_X9_d jq_17_2 jq_17_3 jq_17_4 ⟨rfl, rfl, Nat.le_of_ble_eq_true rfl, Nat.le_of_ble_eq_true rfl⟩ ⟨Nat.le_of_ble_eq_true rfl, Nat.le_of_ble_eq_true rfl⟩ hP  (ci := 11) (iw := 0) rfl rfl rfl hl (rest := [.int v2]) rfl (Nat.le_of_ble_eq_true rfl) ?_
              refine lv_goto (tgt := 62) hx hb dX9_loadOf_58 (by decide) ?_
              refine lv_iadd hx hb dX9_loadOf_62 ?_
              refine lv_istore_n (lv' := [(2, .int (v2 + r5)), (4, .int r2), (0, .ref (a 0)), (1, .int v1), (3, .int v3)]) hx hb dX9_loadOf_63 rfl hl (by decide) rfl (fun ls hl => ?_)
              refine lv_iinc (v := (v3 + 1)) (lv' := [(3, .int (v3 + 1)), (2, .int (v2 + r5)), (4, .int r2), (0, .ref (a 0)), (1, .int v1)]) hx hb dX9_loadOf_64 hl (k := 4) rfl rfl (by decide) rfl (fun ls hl => ?_)
              refine lv_goto (tgt := 4) hx hb dX9_loadOf_67 (by decide) ?_
              exact ih  v1 (v2 + r5) (v3 + 1) _ (lv_sub hl [3, 4, 1, 0] rfl) hV
def F_X9_loadOf (N : Nat)  (M : Nat → Nat → Int32) (v1 : Int32) : Option Int32 := (D_X9_loadOf_4 N  M  N  v1 (0 : Int32) (0 : Int32))
set_option maxHeartbeats 4000000 in
set_option maxRecDepth 100000 in
theorem k_X9_loadOf (l : Launch) (D : va_G) (G : Nat → ClassId) (a : Nat → Nat) (N : Nat) (M : Nat → Nat → Int32) (v1 : Int32) (r : Int32) (hV : F_X9_loadOf N  M v1 = some r) : pM l yX9_loadOf (jws yX9_loadOf cX9_loadOf 5 (some .int)) ({ frames := 2, cells := 0, slots := 0, locals := 45 } : Room) [.ref (a 0), .int v1] D G (wM a G M) (some (.int r)) := by
  refine pM_of (by decide +kernel) (Nat.le_of_ble_eq_true rfl) (fun p e s m args below meth c ls C hP hl => ?_)
  have C : Cx p s m args meth c cX9_loadOf 5 RX9 (some .int) D G := C
  obtain ⟨hx, hb, hr, hml, hts, hown, hlocks, hK0⟩ := id C
  have hK := hK0.1
  have hl : lv_has ls 5 [(0, .ref (a 0)), (1, .int v1)] := hl
  rw [F_X9_loadOf] at hV
  refine lv_iconst (v := 0) hx hb dX9_loadOf_0 (by decide) ?_
  refine lv_istore_n (lv' := [(2, .int (0 : Int32)), (0, .ref (a 0)), (1, .int v1)]) hx hb dX9_loadOf_1 rfl hl (by decide) rfl (fun ls hl => ?_)
  refine lv_iconst (v := 0) hx hb dX9_loadOf_2 (by decide) ?_
  refine lv_istore_n (lv' := [(3, .int (0 : Int32)), (2, .int (0 : Int32)), (0, .ref (a 0)), (1, .int v1)]) hx hb dX9_loadOf_3 rfl hl (by decide) rfl (fun ls hl => ?_)
  exact B_X9_loadOf_4 C  N a M r hP   N  v1 (0 : Int32) (0 : Int32) _ (lv_sub hl [2, 3, 1, 0] rfl) hV
theorem jy_X9_peakNow : jY yX9_peakNow cX9_peakNow 4 (some .int) 0 := ⟨by decide +kernel, jq_30_14, jq_1_5⟩
def D_X9_peakNow_4 (N : Nat)  (M : Nat → Nat → Int32) : Nat → Int32 → Int32 → Option Int32
  | 0, _, _ => none
  | n + 1, v1, v2 => (if (30 : Int32) ≤ v2 then (some v1) else ((F_X9_loadOf N M v2).bind (fun r1 => (if r1 ≤ v1 then (D_X9_peakNow_4 N  M  n  v1 (v2 + 1)) else (D_X9_peakNow_4 N  M  n  r1 (v2 + 1))))))
set_option maxHeartbeats 4000000 in
set_option maxRecDepth 100000 in
theorem B_X9_peakNow_4 {p : Program} {l : Launch} {e : Env} {s : State} {m : MethodId} {args : Array Value} {below : List Frame} {meth : Method} {c : Code} {D : va_G} {G : Nat → ClassId} (C : Cx p s m args meth c cX9_peakNow 4 RX9 (some .int) D G) (N : Nat) (a : Nat → Nat) (M : Nat → Nat → Int32) (r : Int32) (hP : va_P D vwCl (wM a G M) s.heap) : (∀ (n : Nat) (v1 : Int32) (v2 : Int32) (ls : Array Slot), lv_has ls 4 [(0, .ref (a 0)), (1, .int v1), (2, .int v2)] → D_X9_peakNow_4 N  M  n v1 v2 = some r → W p l e ({ frames := 3, cells := 0, slots := 0, locals := 69 } : Room) s m args below meth c s.heap [] 0 0 (MQ below (QcRd (some (.int r))) args s 0 0 nofree) (F0 m 4 ls [])) := by
  have C := C
  obtain ⟨hx, hb, hr, hml, hts, hown, hlocks, hK0⟩ := id C
  have hK := hK0.1
  intro n
  induction n with
  | zero =>
    intro v1 v2 ls hl hV
    rw [D_X9_peakNow_4] at hV
    cases hV
  | succ n ih =>
    intro v1 v2 ls hl hV
    rw [D_X9_peakNow_4] at hV
    refine lv_iload_n hx hb dX9_peakNow_4 rfl (lv_at hl 2 rfl) ?_
    refine lv_bipush (v := 30) hx hb dX9_peakNow_5 (by decide) ?_
    refine lv_icmp_ge (tgt := 33) hx hb dX9_peakNow_7 (by decide) (fun c3 => ?_) (fun c3 => ?_)
    · have hV := jT1 hV c3
      refine lv_iload_n hx hb dX9_peakNow_33 rfl (lv_at hl 1 rfl) ?_
      exact pRet C rfl dX9_peakNow_34 rfl (Option.some.inj hV)
    · have hV := jF1 hV c3
      refine lv_aload_n hx hb dX9_peakNow_10 rfl (lv_at hl 0 rfl) ?_
      refine lv_iload_n hx hb dX9_peakNow_11 rfl (lv_at hl 2 rfl) ?_
      obtain ⟨r1, hr1, hV⟩ := jBind hV
      refine jVpI C dX9_peakNow_12 (k_X9_loadOf l D G a N M v2 r1 hr1) jy_X9_loadOf jq_17_16 jq_17_17 jq_17_18 ⟨rfl, rfl, Nat.le_of_ble_eq_true rfl, Nat.le_of_ble_eq_true rfl⟩ ⟨Nat.le_of_ble_eq_true rfl, Nat.le_of_ble_eq_true rfl⟩ hP  (ci := 11) (iw := 0) rfl rfl rfl hl (rest := []) rfl (Nat.le_of_ble_eq_true rfl) ?_
      refine lv_istore_n (lv' := [(3, .int r1), (0, .ref (a 0)), (1, .int v1), (2, .int v2)]) hx hb dX9_peakNow_15 rfl hl (by decide) rfl (fun ls hl => ?_)
      refine lv_iload_n hx hb dX9_peakNow_16 rfl (lv_at hl 0 rfl) ?_
      refine lv_iload_n hx hb dX9_peakNow_17 rfl (lv_at hl 2 rfl) ?_
      refine lv_icmp_le (tgt := 25) hx hb dX9_peakNow_18 (by decide) (fun c2 => ?_) (fun c2 => ?_)
      · have hV := jT1 hV c2
        refine lv_iload_n hx hb dX9_peakNow_25 rfl (lv_at hl 2 rfl) ?_
        refine lv_istore_n (lv' := [(1, .int v1), (3, .int r1), (0, .ref (a 0)), (2, .int v2)]) hx hb dX9_peakNow_26 rfl hl (by decide) rfl (fun ls hl => ?_)
        refine lv_iinc (v := (v2 + 1)) (lv' := [(2, .int (v2 + 1)), (1, .int v1), (3, .int r1), (0, .ref (a 0))]) hx hb dX9_peakNow_27 hl (k := 3) rfl rfl (by decide) rfl (fun ls hl => ?_)
        refine lv_goto (tgt := 4) hx hb dX9_peakNow_30 (by decide) ?_
        exact ih  v1 (v2 + 1) _ (lv_sub hl [3, 1, 0] rfl) hV
      · have hV := jF1 hV c2
        refine lv_iload_n hx hb dX9_peakNow_21 rfl (lv_at hl 0 rfl) ?_
        refine lv_goto (tgt := 26) hx hb dX9_peakNow_22 (by decide) ?_
        refine lv_istore_n (lv' := [(1, .int r1), (3, .int r1), (0, .ref (a 0)), (2, .int v2)]) hx hb dX9_peakNow_26 rfl hl (by decide) rfl (fun ls hl => ?_)
        refine lv_iinc (v := (v2 + 1)) (lv' := [(2, .int (v2 + 1)), (1, .int r1), (3, .int r1), (0, .ref (a 0))]) hx hb dX9_peakNow_27 hl (k := 3) rfl rfl (by decide) rfl (fun ls hl => ?_)
        refine lv_goto (tgt := 4) hx hb dX9_peakNow_30 (by decide) ?_
        exact ih  r1 (v2 + 1) _ (lv_sub hl [3, 1, 0] rfl) hV
def F_X9_peakNow (N : Nat)  (M : Nat → Nat → Int32) : Option Int32 := (D_X9_peakNow_4 N  M  N  (0 : Int32) (0 : Int32))
set_option maxHeartbeats 4000000 in
set_option maxRecDepth 100000 in
theorem k_X9_peakNow (l : Launch) (D : va_G) (G : Nat → ClassId) (a : Nat → Nat) (N : Nat) (M : Nat → Nat → Int32) (r : Int32) (hV : F_X9_peakNow N  M  = some r) : pM l yX9_peakNow (jws yX9_peakNow cX9_peakNow 4 (some .int)) ({ frames := 3, cells := 0, slots := 0, locals := 69 } : Room) [.ref (a 0)] D G (wM a G M) (some (.int r)) := by
  refine pM_of (by decide +kernel) (Nat.le_of_ble_eq_true rfl) (fun p e s m args below meth c ls C hP hl => ?_)
  have C : Cx p s m args meth c cX9_peakNow 4 RX9 (some .int) D G := C
  obtain ⟨hx, hb, hr, hml, hts, hown, hlocks, hK0⟩ := id C
  have hK := hK0.1
  have hl : lv_has ls 4 [(0, .ref (a 0))] := hl
  rw [F_X9_peakNow] at hV
  refine lv_iconst (v := 0) hx hb dX9_peakNow_0 (by decide) ?_
  refine lv_istore_n (lv' := [(1, .int (0 : Int32)), (0, .ref (a 0))]) hx hb dX9_peakNow_1 rfl hl (by decide) rfl (fun ls hl => ?_)
  refine lv_iconst (v := 0) hx hb dX9_peakNow_2 (by decide) ?_
  refine lv_istore_n (lv' := [(2, .int (0 : Int32)), (1, .int (0 : Int32)), (0, .ref (a 0))]) hx hb dX9_peakNow_3 rfl hl (by decide) rfl (fun ls hl => ?_)
  exact B_X9_peakNow_4 C  N a M r hP   N  (0 : Int32) (0 : Int32) _ (lv_sub hl [2, 1, 0] rfl) hV
theorem jy_X9_isWhy : jY yX9_isWhy cX9_isWhy 4 (some .boolean) 3 := ⟨by decide +kernel, jq_17_9, jq_1_5⟩
def F_X9_isWhy (N : Nat)  (M : Nat → Nat → Int32) (v1 v2 v3 : Int32) : Option (Int32 × (Nat → Nat → Int32)) := (if v1 = 0 then (if isB v1 = true then (some (v1, M)) else none) else (jlet (stF M 7 v2) (fun M2 => (jlet (stF M2 8 v3) (fun M3 => (if isB v1 = true then (some (v1, M3)) else none))))))
set_option maxHeartbeats 4000000 in
set_option maxRecDepth 100000 in
theorem k_X9_isWhy (l : Launch) (D : va_G) (G : Nat → ClassId) (a : Nat → Nat) (N : Nat) (M : Nat → Nat → Int32) (v1 v2 v3 : Int32) (r : (Int32 × (Nat → Nat → Int32))) (hV : F_X9_isWhy N  M v1 v2 v3 = some r) : mM l yX9_isWhy (jws yX9_isWhy cX9_isWhy 4 (some .boolean)) ({ frames := 0, cells := 0, slots := 0, locals := 0 } : Room) [.ref (a 0), .int v1, .int v2, .int v3] D G (wM a G M) (wM a G r.2) (some (.int r.1)) := by
  refine mM_of (by decide +kernel) (Nat.le_of_ble_eq_true rfl) (fun p e s m args below meth c ls A C hP hD hA hl => ?_)
  have C : Cx p s m args meth c cX9_isWhy 4 RX9 (some .boolean) D G := C
  have hS : va_S A s.heap s.heap [] := va_S.rf
  obtain ⟨hx, hb, hr, hml, hts, hown, hlocks, hK0⟩ := id C
  have hK := hK0.1
  have hl : lv_has ls 4 [(0, .ref (a 0)), (1, .int v1), (2, .int v2), (3, .int v3)] := hl
  rw [F_X9_isWhy] at hV
  refine lv_iload_n hx hb dX9_isWhy_0 rfl (lv_at hl 1 rfl) ?_
  refine lv_if_eq (tgt := 14) hx hb dX9_isWhy_1 (by decide) (fun c7 => ?_) (fun c7 => ?_)
  · have hV := jT1 hV c7
    refine lv_iload_n hx hb dX9_isWhy_14 rfl (lv_at hl 1 rfl) ?_
    obtain ⟨g1, hV⟩ := jIf hV
    cases hV
    exact mRet C rfl dX9_isWhy_15 (isB_n g1) rfl hP hS
  · have hV := jF1 hV c7
    refine lv_aload_n hx hb dX9_isWhy_4 rfl (lv_at hl 0 rfl) ?_
    refine lv_iload_n hx hb dX9_isWhy_5 rfl (lv_at hl 2 rfl) ?_
    refine va_put (D := D) (ci := 11) (v := .int v2) (ty := .int) (C := RX9) (T := TX9) (N := 16) hx hb hts ju_X9 tyX9 tyX9_ok nmX9 hown hK hP hD hS 0 rfl rfl 7 (by decide) (hts _ jq_17_10) (fun _ h9 => h9) rfl (by decide +kernel) rfl rfl (Nat.le_of_ble_eq_true rfl) dX9_isWhy_6 (fun H locs hP hD hS => ?_)
    obtain ⟨M2, e6, hV⟩ := jLet hV
    have hP : va_P D vwCl (wM a G M2) H := by rw [e6]; exact hP
    have hD : va_D A (wM a G M2) := by rw [e6]; exact hD
    refine lv_aload_n hx hb dX9_isWhy_9 rfl (lv_at hl 0 rfl) ?_
    refine lv_iload_n hx hb dX9_isWhy_10 rfl (lv_at hl 3 rfl) ?_
    refine va_put (D := D) (ci := 11) (v := .int v3) (ty := .int) (C := RX9) (T := TX9) (N := 16) hx hb hts ju_X9 tyX9 tyX9_ok nmX9 hown hK hP hD hS 0 rfl rfl 8 (by decide) (hts _ jq_17_11) (fun _ h9 => h9) rfl (by decide +kernel) rfl rfl (Nat.le_of_ble_eq_true rfl) dX9_isWhy_11 (fun H locs hP hD hS => ?_)
    obtain ⟨M3, e5, hV⟩ := jLet hV
    have hP : va_P D vwCl (wM a G M3) H := by rw [e5]; exact hP
    have hD : va_D A (wM a G M3) := by rw [e5]; exact hD
    refine lv_iload_n hx hb dX9_isWhy_14 rfl (lv_at hl 1 rfl) ?_
    obtain ⟨g4, hV⟩ := jIf hV
    cases hV
    exact mRet C rfl dX9_isWhy_15 (isB_n g4) rfl hP hS
theorem jy_X9_lacksStaff : jY yX9_lacksStaff cX9_lacksStaff 3 (some .boolean) 0 := ⟨by decide +kernel, jq_16_21, jq_1_5⟩
def D_X9_lacksStaff_2 (N : Nat)  : Nat → (Nat → Nat → Int32) → Int32 → Option (Int32 × (Nat → Nat → Int32))
  | 0, _, _ => none
  | n + 1, M, v1 => (if (30 : Int32) ≤ v1 then (some ((0 : Int32), M)) else ((F_X9_crews N M v1).bind (fun r1 => (if inb (3 : Int32) 2169 = true then (if (r1 - ((M 1) (3 : Int32).toNatClampNeg)) ≤ 0 then ((F_X9_isWhy N M (0 : Int32) (2 : Int32) (r1 - ((M 1) (3 : Int32).toNatClampNeg))).bind (fun r3 => (if r3.1 = 0 then (D_X9_lacksStaff_2 N   n r3.2 (v1 + 1)) else (some ((1 : Int32), r3.2))))) else ((F_X9_isWhy N M (1 : Int32) (2 : Int32) (r1 - ((M 1) (3 : Int32).toNatClampNeg))).bind (fun r5 => (if r5.1 = 0 then (D_X9_lacksStaff_2 N   n r5.2 (v1 + 1)) else (some ((1 : Int32), r5.2)))))) else none))))
set_option maxHeartbeats 4000000 in
set_option maxRecDepth 100000 in
theorem B_X9_lacksStaff_2 {p : Program} {l : Launch} {e : Env} {s : State} {m : MethodId} {args : Array Value} {below : List Frame} {meth : Method} {c : Code} {D : va_G} {G : Nat → ClassId} {A : Nat → Prop} (C : Cx p s m args meth c cX9_lacksStaff 3 RX9 (some .boolean) D G) (hA : ∀ q : Nat, s.heap.size ≤ q → A q) (N : Nat) (a : Nat → Nat) (r : (Int32 × (Nat → Nat → Int32))) : (∀ (n : Nat) (M : Nat → Nat → Int32) (v1 : Int32) (ls : Array Slot) (H : Heap) (locs : List Loc), va_P D vwCl (wM a G M) H → va_D A (wM a G M) → va_S A s.heap H locs → lv_has ls 3 [(0, .ref (a 0)), (1, .int v1)] → D_X9_lacksStaff_2 N   n M v1 = some r → W p l e ({ frames := 2, cells := 0, slots := 0, locals := 45 } : Room) s m args below meth c H locs 0 0 (MQ below (mQ D (wM a G r.2) (some (.int r.1)) A) args s 0 0 A) (F0 m 2 ls [])) := by
  have C := C
  obtain ⟨hx, hb, hr, hml, hts, hown, hlocks, hK0⟩ := id C
  have hK := hK0.1
  intro n
  induction n with
  | zero =>
    intro M v1 ls H locs hP hD hS hl hV
    rw [D_X9_lacksStaff_2] at hV
    cases hV
  | succ n ih =>
    intro M v1 ls H locs hP hD hS hl hV
    rw [D_X9_lacksStaff_2] at hV
    refine lv_iload_n hx hb dX9_lacksStaff_2 rfl (lv_at hl 1 rfl) ?_
    refine lv_bipush (v := 30) hx hb dX9_lacksStaff_3 (by decide) ?_
    refine lv_icmp_ge (tgt := 47) hx hb dX9_lacksStaff_5 (by decide) (fun c8 => ?_) (fun c8 => ?_)
    · have hV := jT1 hV c8
      refine lv_iconst (v := 0) hx hb dX9_lacksStaff_47 (by decide) ?_
      cases hV
      exact mRet C rfl dX9_lacksStaff_48 rfl rfl hP hS
    · have hV := jF1 hV c8
      refine lv_aload_n hx hb dX9_lacksStaff_8 rfl (lv_at hl 0 rfl) ?_
      refine lv_iload_n hx hb dX9_lacksStaff_9 rfl (lv_at hl 1 rfl) ?_
      obtain ⟨r1, hr1, hV⟩ := jBind hV
      refine jVpI C dX9_lacksStaff_10 (k_X9_crews l D G a N M v1 r1 hr1) jy_X9_crews jq_16_22 jq_16_23 jq_17_0 ⟨rfl, rfl, Nat.le_of_ble_eq_true rfl, Nat.le_of_ble_eq_true rfl⟩ ⟨Nat.le_of_ble_eq_true rfl, Nat.le_of_ble_eq_true rfl⟩ hP  (ci := 11) (iw := 0) rfl rfl rfl hl (rest := []) rfl (Nat.le_of_ble_eq_true rfl) ?_
      refine lv_aload_n hx hb dX9_lacksStaff_13 rfl (lv_at hl 0 rfl) ?_
      refine va_get (D := D) (ci := 11) (v := .ref (a 1)) (C := RX9) (T := TX9) (N := 16) hx hb hts ju_X9 hown hK hP 0 rfl rfl 1 (by decide) (hts _ jq_6_1) (fun _ h9 => h9) rfl dX9_lacksStaff_14 ?_
      refine lv_iconst (v := 3) hx hb dX9_lacksStaff_17 (by decide) ?_
      obtain ⟨g2, hV⟩ := jIf hV
      refine va_iald (D := D) (n := 2169) (f := (M 1)) hx hb hK hP 1 0 rfl rfl (inb_of g2) dX9_lacksStaff_18 ?_
      refine lv_isub hx hb dX9_lacksStaff_19 ?_
      refine lv_istore_n (lv' := [(2, .int (r1 - ((M 1) (3 : Int32).toNatClampNeg))), (0, .ref (a 0)), (1, .int v1)]) hx hb dX9_lacksStaff_20 rfl hl (by decide) rfl (fun ls hl => ?_)
      refine lv_aload_n hx hb dX9_lacksStaff_21 rfl (lv_at hl 1 rfl) ?_
      refine lv_iload_n hx hb dX9_lacksStaff_22 rfl (lv_at hl 0 rfl) ?_
      refine lv_if_le (tgt := 30) hx hb dX9_lacksStaff_23 (by decide) (fun c7 => ?_) (fun c7 => ?_)
      · have hV := jT1 hV c7
        refine lv_iconst (v := 0) hx hb dX9_lacksStaff_30 (by decide) ?_
        refine lv_iconst (v := 2) hx hb dX9_lacksStaff_31 (by decide) ?_
        refine lv_iload_n hx hb dX9_lacksStaff_32 rfl (lv_at hl 0 rfl) ?_
        obtain ⟨r3, hr3, hV⟩ := jBind hV
        refine jVmI C dX9_lacksStaff_33 (k_X9_isWhy l D G a N M (0 : Int32) (2 : Int32) (r1 - ((M 1) (3 : Int32).toNatClampNeg)) r3 hr3) jy_X9_isWhy jq_17_6 jq_17_7 jq_17_8 ⟨rfl, rfl, Nat.le_of_ble_eq_true rfl, Nat.le_of_ble_eq_true rfl⟩ ⟨Nat.le_of_ble_eq_true rfl, Nat.le_of_ble_eq_true rfl⟩ hP hD hA hS (ci := 11) (iw := 0) rfl rfl rfl hl (rest := []) rfl (Nat.le_of_ble_eq_true rfl) (fun H locs hQ hz hkp hS => ?_)
        have hP : va_P D vwCl (wM a G r3.2) H := hQ
        have hD : va_D A (wM a G r3.2) := jD (w := (wM a G M)) rfl hD
        refine lv_if_eq (tgt := 41) hx hb dX9_lacksStaff_36 (by decide) (fun c4 => ?_) (fun c4 => ?_)
        · have hV := jT1 hV c4
          refine lv_iinc (v := (v1 + 1)) (lv' := [(1, .int (v1 + 1)), (2, .int (r1 - ((M 1) (3 : Int32).toNatClampNeg))), (0, .ref (a 0))]) hx hb dX9_lacksStaff_41 hl (k := 2) rfl rfl (by decide) rfl (fun ls hl => ?_)
          refine lv_goto (tgt := 2) hx hb dX9_lacksStaff_44 (by decide) ?_
          exact ih r3.2 (v1 + 1) _ _ _ hP hD hS (lv_sub hl [2, 0] rfl) hV
        · have hV := jF1 hV c4
          refine lv_iconst (v := 1) hx hb dX9_lacksStaff_39 (by decide) ?_
          cases hV
          exact mRet C rfl dX9_lacksStaff_40 rfl rfl hP hS
      · have hV := jF1 hV c7
        refine lv_iconst (v := 1) hx hb dX9_lacksStaff_26 (by decide) ?_
        refine lv_goto (tgt := 31) hx hb dX9_lacksStaff_27 (by decide) ?_
        refine lv_iconst (v := 2) hx hb dX9_lacksStaff_31 (by decide) ?_
        refine lv_iload_n hx hb dX9_lacksStaff_32 rfl (lv_at hl 0 rfl) ?_
        obtain ⟨r5, hr5, hV⟩ := jBind hV
        refine jVmI C dX9_lacksStaff_33 (k_X9_isWhy l D G a N M (1 : Int32) (2 : Int32) (r1 - ((M 1) (3 : Int32).toNatClampNeg)) r5 hr5) jy_X9_isWhy jq_17_6 jq_17_7 jq_17_8 ⟨rfl, rfl, Nat.le_of_ble_eq_true rfl, Nat.le_of_ble_eq_true rfl⟩ ⟨Nat.le_of_ble_eq_true rfl, Nat.le_of_ble_eq_true rfl⟩ hP hD hA hS (ci := 11) (iw := 0) rfl rfl rfl hl (rest := []) rfl (Nat.le_of_ble_eq_true rfl) (fun H locs hQ hz hkp hS => ?_)
        have hP : va_P D vwCl (wM a G r5.2) H := hQ
        have hD : va_D A (wM a G r5.2) := jD (w := (wM a G M)) rfl hD
        refine lv_if_eq (tgt := 41) hx hb dX9_lacksStaff_36 (by decide) (fun c6 => ?_) (fun c6 => ?_)
        · have hV := jT1 hV c6
          refine lv_iinc (v := (v1 + 1)) (lv' := [(1, .int (v1 + 1)), (2, .int (r1 - ((M 1) (3 : Int32).toNatClampNeg))), (0, .ref (a 0))]) hx hb dX9_lacksStaff_41 hl (k := 2) rfl rfl (by decide) rfl (fun ls hl => ?_)
          refine lv_goto (tgt := 2) hx hb dX9_lacksStaff_44 (by decide) ?_
          exact ih r5.2 (v1 + 1) _ _ _ hP hD hS (lv_sub hl [2, 0] rfl) hV
        · have hV := jF1 hV c6
          refine lv_iconst (v := 1) hx hb dX9_lacksStaff_39 (by decide) ?_
          cases hV
          exact mRet C rfl dX9_lacksStaff_40 rfl rfl hP hS
def F_X9_lacksStaff (N : Nat)  (M : Nat → Nat → Int32) : Option (Int32 × (Nat → Nat → Int32)) := (D_X9_lacksStaff_2 N   N M (0 : Int32))
set_option maxHeartbeats 4000000 in
set_option maxRecDepth 100000 in
theorem k_X9_lacksStaff (l : Launch) (D : va_G) (G : Nat → ClassId) (a : Nat → Nat) (N : Nat) (M : Nat → Nat → Int32) (r : (Int32 × (Nat → Nat → Int32))) (hV : F_X9_lacksStaff N  M  = some r) : mM l yX9_lacksStaff (jws yX9_lacksStaff cX9_lacksStaff 3 (some .boolean)) ({ frames := 2, cells := 0, slots := 0, locals := 45 } : Room) [.ref (a 0)] D G (wM a G M) (wM a G r.2) (some (.int r.1)) := by
  refine mM_of (by decide +kernel) (Nat.le_of_ble_eq_true rfl) (fun p e s m args below meth c ls A C hP hD hA hl => ?_)
  have C : Cx p s m args meth c cX9_lacksStaff 3 RX9 (some .boolean) D G := C
  have hS : va_S A s.heap s.heap [] := va_S.rf
  obtain ⟨hx, hb, hr, hml, hts, hown, hlocks, hK0⟩ := id C
  have hK := hK0.1
  have hl : lv_has ls 3 [(0, .ref (a 0))] := hl
  rw [F_X9_lacksStaff] at hV
  refine lv_iconst (v := 0) hx hb dX9_lacksStaff_0 (by decide) ?_
  refine lv_istore_n (lv' := [(1, .int (0 : Int32)), (0, .ref (a 0))]) hx hb dX9_lacksStaff_1 rfl hl (by decide) rfl (fun ls hl => ?_)
  exact B_X9_lacksStaff_2 C hA N a r   N M (0 : Int32) _ _ _ hP hD hS (lv_sub hl [1, 0] rfl) hV
theorem jy_X9_lacksRoom : jY yX9_lacksRoom cX9_lacksRoom 2 (some .boolean) 0 := ⟨by decide +kernel, jq_17_15, jq_1_5⟩
def D_X9_lacksRoom_2 (N : Nat)  : Nat → (Nat → Nat → Int32) → Int32 → Option (Int32 × (Nat → Nat → Int32))
  | 0, _, _ => none
  | n + 1, M, v1 => (if (30 : Int32) ≤ v1 then (some ((0 : Int32), M)) else ((F_X9_loadOf N M v1).bind (fun r1 => (if inb (4 : Int32) 2169 = true then (if r1 ≤ ((M 1) (4 : Int32).toNatClampNeg) then ((F_X9_isWhy N M (0 : Int32) (3 : Int32) v1).bind (fun r3 => (if r3.1 = 0 then (D_X9_lacksRoom_2 N   n r3.2 (v1 + 1)) else (some ((1 : Int32), r3.2))))) else ((F_X9_isWhy N M (1 : Int32) (3 : Int32) v1).bind (fun r5 => (if r5.1 = 0 then (D_X9_lacksRoom_2 N   n r5.2 (v1 + 1)) else (some ((1 : Int32), r5.2)))))) else none))))
set_option maxHeartbeats 4000000 in
set_option maxRecDepth 100000 in
theorem B_X9_lacksRoom_2 {p : Program} {l : Launch} {e : Env} {s : State} {m : MethodId} {args : Array Value} {below : List Frame} {meth : Method} {c : Code} {D : va_G} {G : Nat → ClassId} {A : Nat → Prop} (C : Cx p s m args meth c cX9_lacksRoom 2 RX9 (some .boolean) D G) (hA : ∀ q : Nat, s.heap.size ≤ q → A q) (N : Nat) (a : Nat → Nat) (r : (Int32 × (Nat → Nat → Int32))) : (∀ (n : Nat) (M : Nat → Nat → Int32) (v1 : Int32) (ls : Array Slot) (H : Heap) (locs : List Loc), va_P D vwCl (wM a G M) H → va_D A (wM a G M) → va_S A s.heap H locs → lv_has ls 2 [(0, .ref (a 0)), (1, .int v1)] → D_X9_lacksRoom_2 N   n M v1 = some r → W p l e ({ frames := 3, cells := 0, slots := 0, locals := 69 } : Room) s m args below meth c H locs 0 0 (MQ below (mQ D (wM a G r.2) (some (.int r.1)) A) args s 0 0 A) (F0 m 2 ls [])) := by
  have C := C
  obtain ⟨hx, hb, hr, hml, hts, hown, hlocks, hK0⟩ := id C
  have hK := hK0.1
  intro n
  induction n with
  | zero =>
    intro M v1 ls H locs hP hD hS hl hV
    rw [D_X9_lacksRoom_2] at hV
    cases hV
  | succ n ih =>
    intro M v1 ls H locs hP hD hS hl hV
    rw [D_X9_lacksRoom_2] at hV
    refine lv_iload_n hx hb dX9_lacksRoom_2 rfl (lv_at hl 1 rfl) ?_
    refine lv_bipush (v := 30) hx hb dX9_lacksRoom_3 (by decide) ?_
    refine lv_icmp_ge (tgt := 44) hx hb dX9_lacksRoom_5 (by decide) (fun c8 => ?_) (fun c8 => ?_)
    · have hV := jT1 hV c8
      refine lv_iconst (v := 0) hx hb dX9_lacksRoom_44 (by decide) ?_
      cases hV
      exact mRet C rfl dX9_lacksRoom_45 rfl rfl hP hS
    · have hV := jF1 hV c8
      refine lv_aload_n hx hb dX9_lacksRoom_8 rfl (lv_at hl 0 rfl) ?_
      refine lv_aload_n hx hb dX9_lacksRoom_9 rfl (lv_at hl 0 rfl) ?_
      refine lv_iload_n hx hb dX9_lacksRoom_10 rfl (lv_at hl 1 rfl) ?_
      obtain ⟨r1, hr1, hV⟩ := jBind hV
      refine jVpI C dX9_lacksRoom_11 (k_X9_loadOf l D G a N M v1 r1 hr1) jy_X9_loadOf jq_17_16 jq_17_17 jq_17_18 ⟨rfl, rfl, Nat.le_of_ble_eq_true rfl, Nat.le_of_ble_eq_true rfl⟩ ⟨Nat.le_of_ble_eq_true rfl, Nat.le_of_ble_eq_true rfl⟩ hP  (ci := 11) (iw := 0) rfl rfl rfl hl (rest := [.ref (a 0)]) rfl (Nat.le_of_ble_eq_true rfl) ?_
      refine lv_aload_n hx hb dX9_lacksRoom_14 rfl (lv_at hl 0 rfl) ?_
      refine va_get (D := D) (ci := 11) (v := .ref (a 1)) (C := RX9) (T := TX9) (N := 16) hx hb hts ju_X9 hown hK hP 0 rfl rfl 1 (by decide) (hts _ jq_6_1) (fun _ h9 => h9) rfl dX9_lacksRoom_15 ?_
      refine lv_iconst (v := 4) hx hb dX9_lacksRoom_18 (by decide) ?_
      obtain ⟨g2, hV⟩ := jIf hV
      refine va_iald (D := D) (n := 2169) (f := (M 1)) hx hb hK hP 1 0 rfl rfl (inb_of g2) dX9_lacksRoom_19 ?_
      refine lv_icmp_le (tgt := 27) hx hb dX9_lacksRoom_20 (by decide) (fun c7 => ?_) (fun c7 => ?_)
      · have hV := jT1 hV c7
        refine lv_iconst (v := 0) hx hb dX9_lacksRoom_27 (by decide) ?_
        refine lv_iconst (v := 3) hx hb dX9_lacksRoom_28 (by decide) ?_
        refine lv_iload_n hx hb dX9_lacksRoom_29 rfl (lv_at hl 1 rfl) ?_
        obtain ⟨r3, hr3, hV⟩ := jBind hV
        refine jVmI C dX9_lacksRoom_30 (k_X9_isWhy l D G a N M (0 : Int32) (3 : Int32) v1 r3 hr3) jy_X9_isWhy jq_17_6 jq_17_7 jq_17_8 ⟨rfl, rfl, Nat.le_of_ble_eq_true rfl, Nat.le_of_ble_eq_true rfl⟩ ⟨Nat.le_of_ble_eq_true rfl, Nat.le_of_ble_eq_true rfl⟩ hP hD hA hS (ci := 11) (iw := 0) rfl rfl rfl hl (rest := []) rfl (Nat.le_of_ble_eq_true rfl) (fun H locs hQ hz hkp hS => ?_)
        have hP : va_P D vwCl (wM a G r3.2) H := hQ
        have hD : va_D A (wM a G r3.2) := jD (w := (wM a G M)) rfl hD
        refine lv_if_eq (tgt := 38) hx hb dX9_lacksRoom_33 (by decide) (fun c4 => ?_) (fun c4 => ?_)
        · have hV := jT1 hV c4
          refine lv_iinc (v := (v1 + 1)) (lv' := [(1, .int (v1 + 1)), (0, .ref (a 0))]) hx hb dX9_lacksRoom_38 hl (k := 1) rfl rfl (by decide) rfl (fun ls hl => ?_)
          refine lv_goto (tgt := 2) hx hb dX9_lacksRoom_41 (by decide) ?_
          exact ih r3.2 (v1 + 1) _ _ _ hP hD hS (lv_sub hl [1, 0] rfl) hV
        · have hV := jF1 hV c4
          refine lv_iconst (v := 1) hx hb dX9_lacksRoom_36 (by decide) ?_
          cases hV
          exact mRet C rfl dX9_lacksRoom_37 rfl rfl hP hS
      · have hV := jF1 hV c7
        refine lv_iconst (v := 1) hx hb dX9_lacksRoom_23 (by decide) ?_
        refine lv_goto (tgt := 28) hx hb dX9_lacksRoom_24 (by decide) ?_
        refine lv_iconst (v := 3) hx hb dX9_lacksRoom_28 (by decide) ?_
        refine lv_iload_n hx hb dX9_lacksRoom_29 rfl (lv_at hl 1 rfl) ?_
        obtain ⟨r5, hr5, hV⟩ := jBind hV
        refine jVmI C dX9_lacksRoom_30 (k_X9_isWhy l D G a N M (1 : Int32) (3 : Int32) v1 r5 hr5) jy_X9_isWhy jq_17_6 jq_17_7 jq_17_8 ⟨rfl, rfl, Nat.le_of_ble_eq_true rfl, Nat.le_of_ble_eq_true rfl⟩ ⟨Nat.le_of_ble_eq_true rfl, Nat.le_of_ble_eq_true rfl⟩ hP hD hA hS (ci := 11) (iw := 0) rfl rfl rfl hl (rest := []) rfl (Nat.le_of_ble_eq_true rfl) (fun H locs hQ hz hkp hS => ?_)
        have hP : va_P D vwCl (wM a G r5.2) H := hQ
        have hD : va_D A (wM a G r5.2) := jD (w := (wM a G M)) rfl hD
        refine lv_if_eq (tgt := 38) hx hb dX9_lacksRoom_33 (by decide) (fun c6 => ?_) (fun c6 => ?_)
        · have hV := jT1 hV c6
          refine lv_iinc (v := (v1 + 1)) (lv' := [(1, .int (v1 + 1)), (0, .ref (a 0))]) hx hb dX9_lacksRoom_38 hl (k := 1) rfl rfl (by decide) rfl (fun ls hl => ?_)
          refine lv_goto (tgt := 2) hx hb dX9_lacksRoom_41 (by decide) ?_
          exact ih r5.2 (v1 + 1) _ _ _ hP hD hS (lv_sub hl [1, 0] rfl) hV
        · have hV := jF1 hV c6
          refine lv_iconst (v := 1) hx hb dX9_lacksRoom_36 (by decide) ?_
          cases hV
          exact mRet C rfl dX9_lacksRoom_37 rfl rfl hP hS
def F_X9_lacksRoom (N : Nat)  (M : Nat → Nat → Int32) : Option (Int32 × (Nat → Nat → Int32)) := (D_X9_lacksRoom_2 N   N M (0 : Int32))
set_option maxHeartbeats 4000000 in
set_option maxRecDepth 100000 in
theorem k_X9_lacksRoom (l : Launch) (D : va_G) (G : Nat → ClassId) (a : Nat → Nat) (N : Nat) (M : Nat → Nat → Int32) (r : (Int32 × (Nat → Nat → Int32))) (hV : F_X9_lacksRoom N  M  = some r) : mM l yX9_lacksRoom (jws yX9_lacksRoom cX9_lacksRoom 2 (some .boolean)) ({ frames := 3, cells := 0, slots := 0, locals := 69 } : Room) [.ref (a 0)] D G (wM a G M) (wM a G r.2) (some (.int r.1)) := by
  refine mM_of (by decide +kernel) (Nat.le_of_ble_eq_true rfl) (fun p e s m args below meth c ls A C hP hD hA hl => ?_)
  have C : Cx p s m args meth c cX9_lacksRoom 2 RX9 (some .boolean) D G := C
  have hS : va_S A s.heap s.heap [] := va_S.rf
  obtain ⟨hx, hb, hr, hml, hts, hown, hlocks, hK0⟩ := id C
  have hK := hK0.1
  have hl : lv_has ls 2 [(0, .ref (a 0))] := hl
  rw [F_X9_lacksRoom] at hV
  refine lv_iconst (v := 0) hx hb dX9_lacksRoom_0 (by decide) ?_
  refine lv_istore_n (lv' := [(1, .int (0 : Int32)), (0, .ref (a 0))]) hx hb dX9_lacksRoom_1 rfl hl (by decide) rfl (fun ls hl => ?_)
  exact B_X9_lacksRoom_2 C hA N a r   N M (0 : Int32) _ _ _ hP hD hS (lv_sub hl [1, 0] rfl) hV
theorem jy_X9_hinders : jY yX9_hinders cX9_hinders 4 (some .int) 1 := ⟨by decide +kernel, jq_24_18, jq_1_5⟩
def D_X9_hinders_73 (N : Nat)  (k7 : (Nat → Nat → Int32) → Int32 → Int32 → Option (Int32 × (Nat → Nat → Int32))) (M : Nat → Nat → Int32) (v1 : Int32) (v2 : Int32) (s0 : Int32) : Option (Int32 × (Nat → Nat → Int32)) := ((F_X9_isWhy N M s0 (1 : Int32) v2).bind (fun r1 => (if r1.1 = 0 then (k7 r1.2 v1 (v2 + 1)) else (some ((r1.2 0 7), r1.2)))))
set_option maxHeartbeats 4000000 in
set_option maxRecDepth 100000 in
theorem B_X9_hinders_73 {p : Program} {l : Launch} {e : Env} {s : State} {m : MethodId} {args : Array Value} {below : List Frame} {meth : Method} {c : Code} {D : va_G} {G : Nat → ClassId} {A : Nat → Prop} (C : Cx p s m args meth c cX9_hinders 4 RX9 (some .int) D G) (hA : ∀ q : Nat, s.heap.size ≤ q → A q) (N : Nat) (a : Nat → Nat) (r : (Int32 × (Nat → Nat → Int32))) (k7 : (Nat → Nat → Int32) → Int32 → Int32 → Option (Int32 × (Nat → Nat → Int32))) (hk7 : (∀ (M : Nat → Nat → Int32) (v1 : Int32) (v2 : Int32) (ls : Array Slot) (H : Heap) (locs : List Loc), va_P D vwCl (wM a G M) H → va_D A (wM a G M) → va_S A s.heap H locs → lv_has ls 4 [(0, .ref (a 0)), (1, .int v1), (2, .int v2)] → k7 M v1 v2 = some r → W p l e ({ frames := 4, cells := 0, slots := 0, locals := 90 } : Room) s m args below meth c H locs 0 0 (MQ below (mQ D (wM a G r.2) (some (.int r.1)) A) args s 0 0 A) (F0 m 7 ls []))) : (∀ (M : Nat → Nat → Int32) (v1 : Int32) (v2 : Int32) (s0 : Int32) (ls : Array Slot) (H : Heap) (locs : List Loc), va_P D vwCl (wM a G M) H → va_D A (wM a G M) → va_S A s.heap H locs → lv_has ls 4 [(0, .ref (a 0)), (1, .int v1), (2, .int v2)] → D_X9_hinders_73 N  k7 M v1 v2 s0 = some r → W p l e ({ frames := 4, cells := 0, slots := 0, locals := 90 } : Room) s m args below meth c H locs 0 0 (MQ below (mQ D (wM a G r.2) (some (.int r.1)) A) args s 0 0 A) (F0 m 73 ls [.int s0])) := by
  have C := C
  obtain ⟨hx, hb, hr, hml, hts, hown, hlocks, hK0⟩ := id C
  have hK := hK0.1
  intro M v1 v2 s0 ls H locs hP hD hS hl hV
  rw [D_X9_hinders_73] at hV
  refine lv_istore_n (lv' := [(3, .int s0), (0, .ref (a 0)), (1, .int v1), (2, .int v2)]) hx hb dX9_hinders_73 rfl hl (by decide) rfl (fun ls hl => ?_)
  refine lv_aload_n hx hb dX9_hinders_74 rfl (lv_at hl 1 rfl) ?_
  refine lv_iload_n hx hb dX9_hinders_75 rfl (lv_at hl 0 rfl) ?_
  refine lv_iconst (v := 1) hx hb dX9_hinders_76 (by decide) ?_
  refine lv_iload_n hx hb dX9_hinders_77 rfl (lv_at hl 3 rfl) ?_
  obtain ⟨r1, hr1, hV⟩ := jBind hV
  refine jVmI C dX9_hinders_78 (k_X9_isWhy l D G a N M s0 (1 : Int32) v2 r1 hr1) jy_X9_isWhy jq_17_6 jq_17_7 jq_17_8 ⟨rfl, rfl, Nat.le_of_ble_eq_true rfl, Nat.le_of_ble_eq_true rfl⟩ ⟨Nat.le_of_ble_eq_true rfl, Nat.le_of_ble_eq_true rfl⟩ hP hD hA hS (ci := 11) (iw := 0) rfl rfl rfl hl (rest := []) rfl (Nat.le_of_ble_eq_true rfl) (fun H locs hQ hz hkp hS => ?_)
  have hP : va_P D vwCl (wM a G r1.2) H := hQ
  have hD : va_D A (wM a G r1.2) := jD (w := (wM a G M)) rfl hD
  refine lv_if_eq (tgt := 89) hx hb dX9_hinders_81 (by decide) (fun c2 => ?_) (fun c2 => ?_)
  · have hV := jT1 hV c2
    refine lv_iinc (v := (v2 + 1)) (lv' := [(2, .int (v2 + 1)), (3, .int s0), (0, .ref (a 0)), (1, .int v1)]) hx hb dX9_hinders_89 hl (k := 3) rfl rfl (by decide) rfl (fun ls hl => ?_)
    refine lv_goto (tgt := 7) hx hb dX9_hinders_92 (by decide) ?_
    exact hk7 r1.2 v1 (v2 + 1) _ _ _ hP hD hS (lv_sub hl [2, 3, 0] rfl) hV
  · have hV := jF1 hV c2
    refine lv_aload_n hx hb dX9_hinders_84 rfl (lv_at hl 1 rfl) ?_
    refine va_get (D := D) (ci := 11) (v := .int (r1.2 0 7)) (C := RX9) (T := TX9) (N := 16) hx hb hts ju_X9 hown hK hP 0 rfl rfl 7 (by decide) (hts _ jq_17_10) (fun _ h9 => h9) rfl dX9_hinders_85 ?_
    cases hV
    exact mRet C rfl dX9_hinders_88 rfl rfl hP hS
def D_X9_hinders_7 (N : Nat)  : Nat → (Nat → Nat → Int32) → Int32 → Int32 → Option (Int32 × (Nat → Nat → Int32))
  | 0, _, _, _ => none
  | n + 1, M, v1, v2 => (if inb (38 : Int32) 2169 = true then (if ((M 1) (38 : Int32).toNatClampNeg) ≤ v2 then ((F_X9_lacksStaff N M ).bind (fun r4 => (if r4.1 = 0 then ((F_X9_lacksRoom N r4.2 ).bind (fun r5 => (if r5.1 = 0 then (some ((r5.2 0 7), r5.2)) else (some ((r5.2 0 7), r5.2))))) else (some ((r4.2 0 7), r4.2))))) else (if v2 = v1 then (D_X9_hinders_73 N  (D_X9_hinders_7 N   n) M v1 v2 (0 : Int32)) else ((F_X9_p N M v2 (2 : Int32)).bind (fun r8 => ((F_X9_p N M v1 (2 : Int32)).bind (fun r9 => (if r8 = r9 then ((F_X9_p N M v2 (1 : Int32)).bind (fun r10 => ((F_X9_p N M v1 (1 : Int32)).bind (fun r11 => (if r10 = r11 then (D_X9_hinders_73 N  (D_X9_hinders_7 N   n) M v1 v2 (1 : Int32)) else ((F_X9_p N M v2 (0 : Int32)).bind (fun r12 => ((F_X9_p N M v1 (0 : Int32)).bind (fun r13 => (if r12 = r13 then (D_X9_hinders_73 N  (D_X9_hinders_7 N   n) M v1 v2 (1 : Int32)) else (D_X9_hinders_73 N  (D_X9_hinders_7 N   n) M v1 v2 (0 : Int32)))))))))))) else (D_X9_hinders_73 N  (D_X9_hinders_7 N   n) M v1 v2 (0 : Int32))))))))) else none)
set_option maxHeartbeats 4000000 in
set_option maxRecDepth 100000 in
theorem B_X9_hinders_7 {p : Program} {l : Launch} {e : Env} {s : State} {m : MethodId} {args : Array Value} {below : List Frame} {meth : Method} {c : Code} {D : va_G} {G : Nat → ClassId} {A : Nat → Prop} (C : Cx p s m args meth c cX9_hinders 4 RX9 (some .int) D G) (hA : ∀ q : Nat, s.heap.size ≤ q → A q) (N : Nat) (a : Nat → Nat) (r : (Int32 × (Nat → Nat → Int32))) : (∀ (n : Nat) (M : Nat → Nat → Int32) (v1 : Int32) (v2 : Int32) (ls : Array Slot) (H : Heap) (locs : List Loc), va_P D vwCl (wM a G M) H → va_D A (wM a G M) → va_S A s.heap H locs → lv_has ls 4 [(0, .ref (a 0)), (1, .int v1), (2, .int v2)] → D_X9_hinders_7 N   n M v1 v2 = some r → W p l e ({ frames := 4, cells := 0, slots := 0, locals := 90 } : Room) s m args below meth c H locs 0 0 (MQ below (mQ D (wM a G r.2) (some (.int r.1)) A) args s 0 0 A) (F0 m 7 ls [])) := by
  have C := C
  obtain ⟨hx, hb, hr, hml, hts, hown, hlocks, hK0⟩ := id C
  have hK := hK0.1
  intro n
  induction n with
  | zero =>
    intro M v1 v2 ls H locs hP hD hS hl hV
    rw [D_X9_hinders_7] at hV
    cases hV
  | succ n ih =>
    intro M v1 v2 ls H locs hP hD hS hl hV
    rw [D_X9_hinders_7] at hV
    refine lv_iload_n hx hb dX9_hinders_7 rfl (lv_at hl 2 rfl) ?_
    refine lv_aload_n hx hb dX9_hinders_8 rfl (lv_at hl 0 rfl) ?_
    refine va_get (D := D) (ci := 11) (v := .ref (a 1)) (C := RX9) (T := TX9) (N := 16) hx hb hts ju_X9 hown hK hP 0 rfl rfl 1 (by decide) (hts _ jq_6_1) (fun _ h9 => h9) rfl dX9_hinders_9 ?_
    refine lv_bipush (v := 38) hx hb dX9_hinders_12 (by decide) ?_
    obtain ⟨g3, hV⟩ := jIf hV
    refine va_iald (D := D) (n := 2169) (f := (M 1)) hx hb hK hP 1 0 rfl rfl (inb_of g3) dX9_hinders_14 ?_
    refine lv_icmp_ge (tgt := 95) hx hb dX9_hinders_15 (by decide) (fun c18 => ?_) (fun c18 => ?_)
    · have hV := jT1 hV c18
      refine lv_aload_n hx hb dX9_hinders_95 rfl (lv_at hl 0 rfl) ?_
      obtain ⟨r4, hr4, hV⟩ := jBind hV
      refine jVmI C dX9_hinders_96 (k_X9_lacksStaff l D G a N M  r4 hr4) jy_X9_lacksStaff jq_16_18 jq_16_19 jq_16_20 ⟨rfl, rfl, Nat.le_of_ble_eq_true rfl, Nat.le_of_ble_eq_true rfl⟩ ⟨Nat.le_of_ble_eq_true rfl, Nat.le_of_ble_eq_true rfl⟩ hP hD hA hS (ci := 11) (iw := 0) rfl rfl rfl hl (rest := []) rfl (Nat.le_of_ble_eq_true rfl) (fun H locs hQ hz hkp hS => ?_)
      have hP : va_P D vwCl (wM a G r4.2) H := hQ
      have hD : va_D A (wM a G r4.2) := jD (w := (wM a G M)) rfl hD
      refine lv_if_ne (tgt := 109) hx hb dX9_hinders_99 (by decide) (fun c7 => ?_) (fun c7 => ?_)
      · have hV := jF1 hV c7
        refine lv_iconst (v := 1) hx hb dX9_hinders_109 (by decide) ?_
        refine lv_goto (tgt := 114) hx hb dX9_hinders_110 (by decide) ?_
        refine lv_istore_n (lv' := [(2, .int (1 : Int32)), (0, .ref (a 0)), (1, .int v1)]) hx hb dX9_hinders_114 rfl hl (by decide) rfl (fun ls hl => ?_)
        refine lv_aload_n hx hb dX9_hinders_115 rfl (lv_at hl 1 rfl) ?_
        refine va_get (D := D) (ci := 11) (v := .int (r4.2 0 7)) (C := RX9) (T := TX9) (N := 16) hx hb hts ju_X9 hown hK hP 0 rfl rfl 7 (by decide) (hts _ jq_17_10) (fun _ h9 => h9) rfl dX9_hinders_116 ?_
        cases hV
        exact mRet C rfl dX9_hinders_119 rfl rfl hP hS
      · have hV := jT1 hV c7
        refine lv_aload_n hx hb dX9_hinders_102 rfl (lv_at hl 0 rfl) ?_
        obtain ⟨r5, hr5, hV⟩ := jBind hV
        refine jVmI C dX9_hinders_103 (k_X9_lacksRoom l D G a N r4.2  r5 hr5) jy_X9_lacksRoom jq_17_12 jq_17_13 jq_17_14 ⟨rfl, rfl, Nat.le_of_ble_eq_true rfl, Nat.le_of_ble_eq_true rfl⟩ ⟨Nat.le_of_ble_eq_true rfl, Nat.le_of_ble_eq_true rfl⟩ hP hD hA hS (ci := 11) (iw := 0) rfl rfl rfl hl (rest := []) rfl (Nat.le_of_ble_eq_true rfl) (fun H locs hQ hz hkp hS => ?_)
        have hP : va_P D vwCl (wM a G r5.2) H := hQ
        have hD : va_D A (wM a G r5.2) := jD (w := (wM a G r4.2)) rfl hD
        refine lv_if_eq (tgt := 113) hx hb dX9_hinders_106 (by decide) (fun c6 => ?_) (fun c6 => ?_)
        · have hV := jT1 hV c6
          refine lv_iconst (v := 0) hx hb dX9_hinders_113 (by decide) ?_
          refine lv_istore_n (lv' := [(2, .int (0 : Int32)), (0, .ref (a 0)), (1, .int v1)]) hx hb dX9_hinders_114 rfl hl (by decide) rfl (fun ls hl => ?_)
          refine lv_aload_n hx hb dX9_hinders_115 rfl (lv_at hl 1 rfl) ?_
          refine va_get (D := D) (ci := 11) (v := .int (r5.2 0 7)) (C := RX9) (T := TX9) (N := 16) hx hb hts ju_X9 hown hK hP 0 rfl rfl 7 (by decide) (hts _ jq_17_10) (fun _ h9 => h9) rfl dX9_hinders_116 ?_
          cases hV
          exact mRet C rfl dX9_hinders_119 rfl rfl hP hS
        · have hV := jF1 hV c6
          refine lv_iconst (v := 1) hx hb dX9_hinders_109 (by decide) ?_
          refine lv_goto (tgt := 114) hx hb dX9_hinders_110 (by decide) ?_
          refine lv_istore_n (lv' := [(2, .int (1 : Int32)), (0, .ref (a 0)), (1, .int v1)]) hx hb dX9_hinders_114 rfl hl (by decide) rfl (fun ls hl => ?_)
          refine lv_aload_n hx hb dX9_hinders_115 rfl (lv_at hl 1 rfl) ?_
          refine va_get (D := D) (ci := 11) (v := .int (r5.2 0 7)) (C := RX9) (T := TX9) (N := 16) hx hb hts ju_X9 hown hK hP 0 rfl rfl 7 (by decide) (hts _ jq_17_10) (fun _ h9 => h9) rfl dX9_hinders_116 ?_
          cases hV
          exact mRet C rfl dX9_hinders_119 rfl rfl hP hS
    · have hV := jF1 hV c18
      refine lv_iload_n hx hb dX9_hinders_18 rfl (lv_at hl 2 rfl) ?_
      refine lv_iload_n hx hb dX9_hinders_19 rfl (lv_at hl 1 rfl) ?_
      refine lv_icmp_eq (tgt := 72) hx hb dX9_hinders_20 (by decide) (fun c17 => ?_) (fun c17 => ?_)
      · have hV := jT1 hV c17
        refine lv_iconst (v := 0) hx hb dX9_hinders_72 (by decide) ?_
        exact B_X9_hinders_73 C hA N a r (D_X9_hinders_7 N   n) ih M v1 v2 (0 : Int32) _ _ _ hP hD hS (lv_sub hl [0, 1, 2] rfl) hV
      · have hV := jF1 hV c17
        refine lv_aload_n hx hb dX9_hinders_23 rfl (lv_at hl 0 rfl) ?_
        refine lv_iload_n hx hb dX9_hinders_24 rfl (lv_at hl 2 rfl) ?_
        refine lv_iconst (v := 2) hx hb dX9_hinders_25 (by decide) ?_
        obtain ⟨r8, hr8, hV⟩ := jBind hV
        refine jVpI C dX9_hinders_26 (k_X9_p l D G a N M v2 (2 : Int32) r8 hr8) jy_X9_p jq_13_4 jq_13_5 jq_13_6 ⟨rfl, rfl, Nat.le_of_ble_eq_true rfl, Nat.le_of_ble_eq_true rfl⟩ ⟨Nat.le_of_ble_eq_true rfl, Nat.le_of_ble_eq_true rfl⟩ hP  (ci := 11) (iw := 0) rfl rfl rfl hl (rest := []) rfl (Nat.le_of_ble_eq_true rfl) ?_
        refine lv_aload_n hx hb dX9_hinders_29 rfl (lv_at hl 0 rfl) ?_
        refine lv_iload_n hx hb dX9_hinders_30 rfl (lv_at hl 1 rfl) ?_
        refine lv_iconst (v := 2) hx hb dX9_hinders_31 (by decide) ?_
        obtain ⟨r9, hr9, hV⟩ := jBind hV
        refine jVpI C dX9_hinders_32 (k_X9_p l D G a N M v1 (2 : Int32) r9 hr9) jy_X9_p jq_13_4 jq_13_5 jq_13_6 ⟨rfl, rfl, Nat.le_of_ble_eq_true rfl, Nat.le_of_ble_eq_true rfl⟩ ⟨Nat.le_of_ble_eq_true rfl, Nat.le_of_ble_eq_true rfl⟩ hP  (ci := 11) (iw := 0) rfl rfl rfl hl (rest := [.int r8]) rfl (Nat.le_of_ble_eq_true rfl) ?_
        refine lv_icmp_ne (tgt := 72) hx hb dX9_hinders_35 (by decide) (fun c16 => ?_) (fun c16 => ?_)
        · have hV := jF1 hV c16
          refine lv_iconst (v := 0) hx hb dX9_hinders_72 (by decide) ?_
          exact B_X9_hinders_73 C hA N a r (D_X9_hinders_7 N   n) ih M v1 v2 (0 : Int32) _ _ _ hP hD hS (lv_sub hl [0, 1, 2] rfl) hV
        · have hV := jT1 hV c16
          refine lv_aload_n hx hb dX9_hinders_38 rfl (lv_at hl 0 rfl) ?_
          refine lv_iload_n hx hb dX9_hinders_39 rfl (lv_at hl 2 rfl) ?_
          refine lv_iconst (v := 1) hx hb dX9_hinders_40 (by decide) ?_
          obtain ⟨r10, hr10, hV⟩ := jBind hV
          refine jVpI C dX9_hinders_41 (k_X9_p l D G a N M v2 (1 : Int32) r10 hr10) jy_X9_p jq_13_4 jq_13_5 jq_13_6 ⟨rfl, rfl, Nat.le_of_ble_eq_true rfl, Nat.le_of_ble_eq_true rfl⟩ ⟨Nat.le_of_ble_eq_true rfl, Nat.le_of_ble_eq_true rfl⟩ hP  (ci := 11) (iw := 0) rfl rfl rfl hl (rest := []) rfl (Nat.le_of_ble_eq_true rfl) ?_
          refine lv_aload_n hx hb dX9_hinders_44 rfl (lv_at hl 0 rfl) ?_
          refine lv_iload_n hx hb dX9_hinders_45 rfl (lv_at hl 1 rfl) ?_
          refine lv_iconst (v := 1) hx hb dX9_hinders_46 (by decide) ?_
          obtain ⟨r11, hr11, hV⟩ := jBind hV
          refine jVpI C dX9_hinders_47 (k_X9_p l D G a N M v1 (1 : Int32) r11 hr11) jy_X9_p jq_13_4 jq_13_5 jq_13_6 ⟨rfl, rfl, Nat.le_of_ble_eq_true rfl, Nat.le_of_ble_eq_true rfl⟩ ⟨Nat.le_of_ble_eq_true rfl, Nat.le_of_ble_eq_true rfl⟩ hP  (ci := 11) (iw := 0) rfl rfl rfl hl (rest := [.int r10]) rfl (Nat.le_of_ble_eq_true rfl) ?_
          refine lv_icmp_eq (tgt := 68) hx hb dX9_hinders_50 (by decide) (fun c15 => ?_) (fun c15 => ?_)
          · have hV := jT1 hV c15
            refine lv_iconst (v := 1) hx hb dX9_hinders_68 (by decide) ?_
            refine lv_goto (tgt := 73) hx hb dX9_hinders_69 (by decide) ?_
            exact B_X9_hinders_73 C hA N a r (D_X9_hinders_7 N   n) ih M v1 v2 (1 : Int32) _ _ _ hP hD hS (lv_sub hl [0, 1, 2] rfl) hV
          · have hV := jF1 hV c15
            refine lv_aload_n hx hb dX9_hinders_53 rfl (lv_at hl 0 rfl) ?_
            refine lv_iload_n hx hb dX9_hinders_54 rfl (lv_at hl 2 rfl) ?_
            refine lv_iconst (v := 0) hx hb dX9_hinders_55 (by decide) ?_
            obtain ⟨r12, hr12, hV⟩ := jBind hV
            refine jVpI C dX9_hinders_56 (k_X9_p l D G a N M v2 (0 : Int32) r12 hr12) jy_X9_p jq_13_4 jq_13_5 jq_13_6 ⟨rfl, rfl, Nat.le_of_ble_eq_true rfl, Nat.le_of_ble_eq_true rfl⟩ ⟨Nat.le_of_ble_eq_true rfl, Nat.le_of_ble_eq_true rfl⟩ hP  (ci := 11) (iw := 0) rfl rfl rfl hl (rest := []) rfl (Nat.le_of_ble_eq_true rfl) ?_
            refine lv_aload_n hx hb dX9_hinders_59 rfl (lv_at hl 0 rfl) ?_
            refine lv_iload_n hx hb dX9_hinders_60 rfl (lv_at hl 1 rfl) ?_
            refine lv_iconst (v := 0) hx hb dX9_hinders_61 (by decide) ?_
            obtain ⟨r13, hr13, hV⟩ := jBind hV
            refine jVpI C dX9_hinders_62 (k_X9_p l D G a N M v1 (0 : Int32) r13 hr13) jy_X9_p jq_13_4 jq_13_5 jq_13_6 ⟨rfl, rfl, Nat.le_of_ble_eq_true rfl, Nat.le_of_ble_eq_true rfl⟩ ⟨Nat.le_of_ble_eq_true rfl, Nat.le_of_ble_eq_true rfl⟩ hP  (ci := 11) (iw := 0) rfl rfl rfl hl (rest := [.int r12]) rfl (Nat.le_of_ble_eq_true rfl) ?_
            refine lv_icmp_ne (tgt := 72) hx hb dX9_hinders_65 (by decide) (fun c14 => ?_) (fun c14 => ?_)
            · have hV := jF1 hV c14
              refine lv_iconst (v := 0) hx hb dX9_hinders_72 (by decide) ?_
              exact B_X9_hinders_73 C hA N a r (D_X9_hinders_7 N   n) ih M v1 v2 (0 : Int32) _ _ _ hP hD hS (lv_sub hl [0, 1, 2] rfl) hV
            · have hV := jT1 hV c14
              refine lv_iconst (v := 1) hx hb dX9_hinders_68 (by decide) ?_
              refine lv_goto (tgt := 73) hx hb dX9_hinders_69 (by decide) ?_
              exact B_X9_hinders_73 C hA N a r (D_X9_hinders_7 N   n) ih M v1 v2 (1 : Int32) _ _ _ hP hD hS (lv_sub hl [0, 1, 2] rfl) hV
def F_X9_hinders (N : Nat)  (M : Nat → Nat → Int32) (v1 : Int32) : Option (Int32 × (Nat → Nat → Int32)) := (jlet (stF M 7 (0 : Int32)) (fun M19 => (D_X9_hinders_7 N   N M19 v1 (0 : Int32))))
set_option maxHeartbeats 4000000 in
set_option maxRecDepth 100000 in
theorem k_X9_hinders (l : Launch) (D : va_G) (G : Nat → ClassId) (a : Nat → Nat) (N : Nat) (M : Nat → Nat → Int32) (v1 : Int32) (r : (Int32 × (Nat → Nat → Int32))) (hV : F_X9_hinders N  M v1 = some r) : mM l yX9_hinders (jws yX9_hinders cX9_hinders 4 (some .int)) ({ frames := 4, cells := 0, slots := 0, locals := 90 } : Room) [.ref (a 0), .int v1] D G (wM a G M) (wM a G r.2) (some (.int r.1)) := by
  refine mM_of (by decide +kernel) (Nat.le_of_ble_eq_true rfl) (fun p e s m args below meth c ls A C hP hD hA hl => ?_)
  have C : Cx p s m args meth c cX9_hinders 4 RX9 (some .int) D G := C
  have hS : va_S A s.heap s.heap [] := va_S.rf
  obtain ⟨hx, hb, hr, hml, hts, hown, hlocks, hK0⟩ := id C
  have hK := hK0.1
  have hl : lv_has ls 4 [(0, .ref (a 0)), (1, .int v1)] := hl
  rw [F_X9_hinders] at hV
  refine lv_aload_n hx hb dX9_hinders_0 rfl (lv_at hl 0 rfl) ?_
  refine lv_iconst (v := 0) hx hb dX9_hinders_1 (by decide) ?_
  refine va_put (D := D) (ci := 11) (v := .int (0 : Int32)) (ty := .int) (C := RX9) (T := TX9) (N := 16) hx hb hts ju_X9 tyX9 tyX9_ok nmX9 hown hK hP hD hS 0 rfl rfl 7 (by decide) (hts _ jq_17_10) (fun _ h9 => h9) rfl (by decide +kernel) rfl rfl (Nat.le_of_ble_eq_true rfl) dX9_hinders_2 (fun H locs hP hD hS => ?_)
  obtain ⟨M19, e20, hV⟩ := jLet hV
  have hP : va_P D vwCl (wM a G M19) H := by rw [e20]; exact hP
  have hD : va_D A (wM a G M19) := by rw [e20]; exact hD
  refine lv_iconst (v := 0) hx hb dX9_hinders_5 (by decide) ?_
  refine lv_istore_n (lv' := [(2, .int (0 : Int32)), (0, .ref (a 0)), (1, .int v1)]) hx hb dX9_hinders_6 rfl hl (by decide) rfl (fun ls hl => ?_)
  exact B_X9_hinders_7 C hA N a r   N M19 v1 (0 : Int32) _ _ _ hP hD hS (lv_sub hl [1, 2, 0] rfl) hV
theorem jy_X9_isHindered : jY yX9_isHindered cX9_isHindered 2 (some .boolean) 1 := ⟨by decide +kernel, jq_18_11, jq_1_5⟩
def F_X9_isHindered (N : Nat)  (M : Nat → Nat → Int32) (v1 : Int32) : Option (Int32 × (Nat → Nat → Int32)) := ((F_X9_isRefused N M v1 (M 0 7) (M 0 8)).bind (fun r1 => (if isB r1.1 = true then (some (r1.1, r1.2)) else none)))
set_option maxHeartbeats 4000000 in
set_option maxRecDepth 100000 in
theorem k_X9_isHindered (l : Launch) (D : va_G) (G : Nat → ClassId) (a : Nat → Nat) (N : Nat) (M : Nat → Nat → Int32) (v1 : Int32) (r : (Int32 × (Nat → Nat → Int32))) (hV : F_X9_isHindered N  M v1 = some r) : mM l yX9_isHindered (jws yX9_isHindered cX9_isHindered 2 (some .boolean)) ({ frames := 1, cells := 0, slots := 0, locals := 23 } : Room) [.ref (a 0), .int v1] D G (wM a G M) (wM a G r.2) (some (.int r.1)) := by
  refine mM_of (by decide +kernel) (Nat.le_of_ble_eq_true rfl) (fun p e s m args below meth c ls A C hP hD hA hl => ?_)
  have C : Cx p s m args meth c cX9_isHindered 2 RX9 (some .boolean) D G := C
  have hS : va_S A s.heap s.heap [] := va_S.rf
  obtain ⟨hx, hb, hr, hml, hts, hown, hlocks, hK0⟩ := id C
  have hK := hK0.1
  have hl : lv_has ls 2 [(0, .ref (a 0)), (1, .int v1)] := hl
  rw [F_X9_isHindered] at hV
  refine lv_aload_n hx hb dX9_isHindered_0 rfl (lv_at hl 0 rfl) ?_
  refine lv_iload_n hx hb dX9_isHindered_1 rfl (lv_at hl 1 rfl) ?_
  refine lv_aload_n hx hb dX9_isHindered_2 rfl (lv_at hl 0 rfl) ?_
  refine va_get (D := D) (ci := 11) (v := .int (M 0 7)) (C := RX9) (T := TX9) (N := 16) hx hb hts ju_X9 hown hK hP 0 rfl rfl 7 (by decide) (hts _ jq_17_10) (fun _ h9 => h9) rfl dX9_isHindered_3 ?_
  refine lv_aload_n hx hb dX9_isHindered_6 rfl (lv_at hl 0 rfl) ?_
  refine va_get (D := D) (ci := 11) (v := .int (M 0 8)) (C := RX9) (T := TX9) (N := 16) hx hb hts ju_X9 hown hK hP 0 rfl rfl 8 (by decide) (hts _ jq_17_11) (fun _ h9 => h9) rfl dX9_isHindered_7 ?_
  obtain ⟨r1, hr1, hV⟩ := jBind hV
  refine jVmI C dX9_isHindered_10 (k_X9_isRefused l D G a N M v1 (M 0 7) (M 0 8) r1 hr1) jy_X9_isRefused jq_13_20 jq_13_21 jq_13_22 ⟨rfl, rfl, Nat.le_of_ble_eq_true rfl, Nat.le_of_ble_eq_true rfl⟩ ⟨Nat.le_of_ble_eq_true rfl, Nat.le_of_ble_eq_true rfl⟩ hP hD hA hS (ci := 11) (iw := 0) rfl rfl rfl hl (rest := []) rfl (Nat.le_of_ble_eq_true rfl) (fun H locs hQ hz hkp hS => ?_)
  have hP : va_P D vwCl (wM a G r1.2) H := hQ
  have hD : va_D A (wM a G r1.2) := jD (w := (wM a G M)) rfl hD
  obtain ⟨g2, hV⟩ := jIf hV
  cases hV
  exact mRet C rfl dX9_isHindered_13 (isB_n g2) rfl hP hS
theorem jy_X9_holds : jY yX9_holds cX9_holds 3 (some .boolean) 2 := ⟨by decide +kernel, jq_13_15, jq_1_5⟩
def F_X9_holds (N : Nat)  (M : Nat → Nat → Int32) (v1 v2 : Int32) : Option Int32 := (if inb ((135 : Int32) + v2) 2169 = true then (if ((((M 1) ((135 : Int32) + v2).toNatClampNeg) >>> (v1 &&& 31)) &&& (1 : Int32)) = (1 : Int32) then (some (1 : Int32)) else (some (0 : Int32))) else none)
set_option maxHeartbeats 4000000 in
set_option maxRecDepth 100000 in
theorem k_X9_holds (l : Launch) (D : va_G) (G : Nat → ClassId) (a : Nat → Nat) (N : Nat) (M : Nat → Nat → Int32) (v1 v2 : Int32) (r : Int32) (hV : F_X9_holds N  M v1 v2 = some r) : pM l yX9_holds (jws yX9_holds cX9_holds 3 (some .boolean)) ({ frames := 0, cells := 0, slots := 0, locals := 0 } : Room) [.ref (a 0), .int v1, .int v2] D G (wM a G M) (some (.int r)) := by
  refine pM_of (by decide +kernel) (Nat.le_of_ble_eq_true rfl) (fun p e s m args below meth c ls C hP hl => ?_)
  have C : Cx p s m args meth c cX9_holds 3 RX9 (some .boolean) D G := C
  obtain ⟨hx, hb, hr, hml, hts, hown, hlocks, hK0⟩ := id C
  have hK := hK0.1
  have hl : lv_has ls 3 [(0, .ref (a 0)), (1, .int v1), (2, .int v2)] := hl
  rw [F_X9_holds] at hV
  refine lv_aload_n hx hb dX9_holds_0 rfl (lv_at hl 0 rfl) ?_
  refine va_get (D := D) (ci := 11) (v := .ref (a 1)) (C := RX9) (T := TX9) (N := 16) hx hb hts ju_X9 hown hK hP 0 rfl rfl 1 (by decide) (hts _ jq_6_1) (fun _ h9 => h9) rfl dX9_holds_1 ?_
  refine lv_sipush (v := 135) hx hb dX9_holds_4 (by decide) ?_
  refine lv_iload_n hx hb dX9_holds_7 rfl (lv_at hl 2 rfl) ?_
  refine lv_iadd hx hb dX9_holds_8 ?_
  obtain ⟨g1, hV⟩ := jIf hV
  refine va_iald (D := D) (n := 2169) (f := (M 1)) hx hb hK hP 1 0 rfl rfl (inb_of g1) dX9_holds_9 ?_
  refine lv_iload_n hx hb dX9_holds_10 rfl (lv_at hl 1 rfl) ?_
  refine lv_ishr hx hb dX9_holds_11 ?_
  refine lv_iconst (v := 1) hx hb dX9_holds_12 (by decide) ?_
  refine lv_iand hx hb dX9_holds_13 ?_
  refine lv_iconst (v := 1) hx hb dX9_holds_14 (by decide) ?_
  refine lv_icmp_ne (tgt := 22) hx hb dX9_holds_15 (by decide) (fun c2 => ?_) (fun c2 => ?_)
  · have hV := jF1 hV c2
    refine lv_iconst (v := 0) hx hb dX9_holds_22 (by decide) ?_
    exact pRet C rfl dX9_holds_23 rfl (Option.some.inj hV)
  · have hV := jT1 hV c2
    refine lv_iconst (v := 1) hx hb dX9_holds_18 (by decide) ?_
    refine lv_goto (tgt := 23) hx hb dX9_holds_19 (by decide) ?_
    exact pRet C rfl dX9_holds_23 rfl (Option.some.inj hV)
theorem jy_X9_heldAt : jY yX9_heldAt cX9_heldAt 4 (some .int) 1 := ⟨by decide +kernel, jq_13_11, jq_1_5⟩
def D_X9_heldAt_4 (N : Nat)  (M : Nat → Nat → Int32) : Nat → Int32 → Int32 → Int32 → Option Int32
  | 0, _, _, _ => none
  | n + 1, v1, v2, v3 => (if inb (159 : Int32) 2169 = true then (if ((M 1) (159 : Int32).toNatClampNeg) ≤ v3 then (some v2) else ((F_X9_holds N M v3 v1).bind (fun r2 => (if r2 = 0 then (D_X9_heldAt_4 N  M  n  v1 (v2 + (0 : Int32)) (v3 + 1)) else ((F_X9_u N M v3 (0 : Int32)).bind (fun r3 => (D_X9_heldAt_4 N  M  n  v1 (v2 + r3) (v3 + 1)))))))) else none)
set_option maxHeartbeats 4000000 in
set_option maxRecDepth 100000 in
theorem B_X9_heldAt_4 {p : Program} {l : Launch} {e : Env} {s : State} {m : MethodId} {args : Array Value} {below : List Frame} {meth : Method} {c : Code} {D : va_G} {G : Nat → ClassId} (C : Cx p s m args meth c cX9_heldAt 4 RX9 (some .int) D G) (N : Nat) (a : Nat → Nat) (M : Nat → Nat → Int32) (r : Int32) (hP : va_P D vwCl (wM a G M) s.heap) : (∀ (n : Nat) (v1 : Int32) (v2 : Int32) (v3 : Int32) (ls : Array Slot), lv_has ls 4 [(0, .ref (a 0)), (1, .int v1), (2, .int v2), (3, .int v3)] → D_X9_heldAt_4 N  M  n v1 v2 v3 = some r → W p l e ({ frames := 1, cells := 0, slots := 0, locals := 22 } : Room) s m args below meth c s.heap [] 0 0 (MQ below (QcRd (some (.int r))) args s 0 0 nofree) (F0 m 4 ls [])) := by
  have C := C
  obtain ⟨hx, hb, hr, hml, hts, hown, hlocks, hK0⟩ := id C
  have hK := hK0.1
  intro n
  induction n with
  | zero =>
    intro v1 v2 v3 ls hl hV
    rw [D_X9_heldAt_4] at hV
    cases hV
  | succ n ih =>
    intro v1 v2 v3 ls hl hV
    rw [D_X9_heldAt_4] at hV
    refine lv_iload_n hx hb dX9_heldAt_4 rfl (lv_at hl 3 rfl) ?_
    refine lv_aload_n hx hb dX9_heldAt_5 rfl (lv_at hl 0 rfl) ?_
    refine va_get (D := D) (ci := 11) (v := .ref (a 1)) (C := RX9) (T := TX9) (N := 16) hx hb hts ju_X9 hown hK hP 0 rfl rfl 1 (by decide) (hts _ jq_6_1) (fun _ h9 => h9) rfl dX9_heldAt_6 ?_
    refine lv_sipush (v := 159) hx hb dX9_heldAt_9 (by decide) ?_
    obtain ⟨g1, hV⟩ := jIf hV
    refine va_iald (D := D) (n := 2169) (f := (M 1)) hx hb hK hP 1 0 rfl rfl (inb_of g1) dX9_heldAt_12 ?_
    refine lv_icmp_ge (tgt := 44) hx hb dX9_heldAt_13 (by decide) (fun c5 => ?_) (fun c5 => ?_)
    · have hV := jT1 hV c5
      refine lv_iload_n hx hb dX9_heldAt_44 rfl (lv_at hl 2 rfl) ?_
      exact pRet C rfl dX9_heldAt_45 rfl (Option.some.inj hV)
    · have hV := jF1 hV c5
      refine lv_iload_n hx hb dX9_heldAt_16 rfl (lv_at hl 2 rfl) ?_
      refine lv_aload_n hx hb dX9_heldAt_17 rfl (lv_at hl 0 rfl) ?_
      refine lv_iload_n hx hb dX9_heldAt_18 rfl (lv_at hl 3 rfl) ?_
      refine lv_iload_n hx hb dX9_heldAt_19 rfl (lv_at hl 1 rfl) ?_
      obtain ⟨r2, hr2, hV⟩ := jBind hV
      refine jVpI C dX9_heldAt_20 (k_X9_holds l D G a N M v3 v1 r2 hr2) jy_X9_holds jq_13_12 jq_13_13 jq_13_14 ⟨rfl, rfl, Nat.le_of_ble_eq_true rfl, Nat.le_of_ble_eq_true rfl⟩ ⟨Nat.le_of_ble_eq_true rfl, Nat.le_of_ble_eq_true rfl⟩ hP  (ci := 11) (iw := 0) rfl rfl rfl hl (rest := [.int v2]) rfl (Nat.le_of_ble_eq_true rfl) ?_
      refine lv_if_eq (tgt := 35) hx hb dX9_heldAt_23 (by decide) (fun c4 => ?_) (fun c4 => ?_)
      · have hV := jT1 hV c4
        refine lv_iconst (v := 0) hx hb dX9_heldAt_35 (by decide) ?_
        refine lv_iadd hx hb dX9_heldAt_36 ?_
        refine lv_istore_n (lv' := [(2, .int (v2 + (0 : Int32))), (0, .ref (a 0)), (1, .int v1), (3, .int v3)]) hx hb dX9_heldAt_37 rfl hl (by decide) rfl (fun ls hl => ?_)
        refine lv_iinc (v := (v3 + 1)) (lv' := [(3, .int (v3 + 1)), (2, .int (v2 + (0 : Int32))), (0, .ref (a 0)), (1, .int v1)]) hx hb dX9_heldAt_38 hl (k := 3) rfl rfl (by decide) rfl (fun ls hl => ?_)
        refine lv_goto (tgt := 4) hx hb dX9_heldAt_41 (by decide) ?_
        exact ih  v1 (v2 + (0 : Int32)) (v3 + 1) _ (lv_sub hl [2, 3, 1, 0] rfl) hV
      · have hV := jF1 hV c4
        refine lv_aload_n hx hb dX9_heldAt_26 rfl (lv_at hl 0 rfl) ?_
        refine lv_iload_n hx hb dX9_heldAt_27 rfl (lv_at hl 3 rfl) ?_
        refine lv_iconst (v := 0) hx hb dX9_heldAt_28 (by decide) ?_
        obtain ⟨r3, hr3, hV⟩ := jBind hV
        refine jVpI C dX9_heldAt_29 (k_X9_u l D G a N M v3 (0 : Int32) r3 hr3) jy_X9_u jq_13_16 jq_13_17 jq_13_18 ⟨rfl, rfl, Nat.le_of_ble_eq_true rfl, Nat.le_of_ble_eq_true rfl⟩ ⟨Nat.le_of_ble_eq_true rfl, Nat.le_of_ble_eq_true rfl⟩ hP  (ci := 11) (iw := 0) rfl rfl rfl hl (rest := [.int v2]) rfl (Nat.le_of_ble_eq_true rfl) ?_
        refine lv_goto (tgt := 36) hx hb dX9_heldAt_32 (by decide) ?_
        refine lv_iadd hx hb dX9_heldAt_36 ?_
        refine lv_istore_n (lv' := [(2, .int (v2 + r3)), (0, .ref (a 0)), (1, .int v1), (3, .int v3)]) hx hb dX9_heldAt_37 rfl hl (by decide) rfl (fun ls hl => ?_)
        refine lv_iinc (v := (v3 + 1)) (lv' := [(3, .int (v3 + 1)), (2, .int (v2 + r3)), (0, .ref (a 0)), (1, .int v1)]) hx hb dX9_heldAt_38 hl (k := 3) rfl rfl (by decide) rfl (fun ls hl => ?_)
        refine lv_goto (tgt := 4) hx hb dX9_heldAt_41 (by decide) ?_
        exact ih  v1 (v2 + r3) (v3 + 1) _ (lv_sub hl [2, 3, 1, 0] rfl) hV
def F_X9_heldAt (N : Nat)  (M : Nat → Nat → Int32) (v1 : Int32) : Option Int32 := (D_X9_heldAt_4 N  M  N  v1 (0 : Int32) (0 : Int32))
set_option maxHeartbeats 4000000 in
set_option maxRecDepth 100000 in
theorem k_X9_heldAt (l : Launch) (D : va_G) (G : Nat → ClassId) (a : Nat → Nat) (N : Nat) (M : Nat → Nat → Int32) (v1 : Int32) (r : Int32) (hV : F_X9_heldAt N  M v1 = some r) : pM l yX9_heldAt (jws yX9_heldAt cX9_heldAt 4 (some .int)) ({ frames := 1, cells := 0, slots := 0, locals := 22 } : Room) [.ref (a 0), .int v1] D G (wM a G M) (some (.int r)) := by
  refine pM_of (by decide +kernel) (Nat.le_of_ble_eq_true rfl) (fun p e s m args below meth c ls C hP hl => ?_)
  have C : Cx p s m args meth c cX9_heldAt 4 RX9 (some .int) D G := C
  obtain ⟨hx, hb, hr, hml, hts, hown, hlocks, hK0⟩ := id C
  have hK := hK0.1
  have hl : lv_has ls 4 [(0, .ref (a 0)), (1, .int v1)] := hl
  rw [F_X9_heldAt] at hV
  refine lv_iconst (v := 0) hx hb dX9_heldAt_0 (by decide) ?_
  refine lv_istore_n (lv' := [(2, .int (0 : Int32)), (0, .ref (a 0)), (1, .int v1)]) hx hb dX9_heldAt_1 rfl hl (by decide) rfl (fun ls hl => ?_)
  refine lv_iconst (v := 0) hx hb dX9_heldAt_2 (by decide) ?_
  refine lv_istore_n (lv' := [(3, .int (0 : Int32)), (2, .int (0 : Int32)), (0, .ref (a 0)), (1, .int v1)]) hx hb dX9_heldAt_3 rfl hl (by decide) rfl (fun ls hl => ?_)
  exact B_X9_heldAt_4 C  N a M r hP   N  v1 (0 : Int32) (0 : Int32) _ (lv_sub hl [2, 3, 1, 0] rfl) hV
theorem jy_X9_freeAt : jY yX9_freeAt cX9_freeAt 2 (some .int) 1 := ⟨by decide +kernel, jq_14_17, jq_1_5⟩
def F_X9_freeAt (N : Nat)  (M : Nat → Nat → Int32) (v1 : Int32) : Option Int32 := ((F_X9_p N M v1 (1 : Int32)).bind (fun r1 => (if inb ((0 : Int32) + r1) 2169 = true then ((F_X9_p N M v1 (3 : Int32)).bind (fun r3 => ((F_X9_heldAt N M v1).bind (fun r4 => (some ((((M 1) ((0 : Int32) + r1).toNatClampNeg) - r3) - r4)))))) else none)))
set_option maxHeartbeats 4000000 in
set_option maxRecDepth 100000 in
theorem k_X9_freeAt (l : Launch) (D : va_G) (G : Nat → ClassId) (a : Nat → Nat) (N : Nat) (M : Nat → Nat → Int32) (v1 : Int32) (r : Int32) (hV : F_X9_freeAt N  M v1 = some r) : pM l yX9_freeAt (jws yX9_freeAt cX9_freeAt 2 (some .int)) ({ frames := 2, cells := 0, slots := 0, locals := 45 } : Room) [.ref (a 0), .int v1] D G (wM a G M) (some (.int r)) := by
  refine pM_of (by decide +kernel) (Nat.le_of_ble_eq_true rfl) (fun p e s m args below meth c ls C hP hl => ?_)
  have C : Cx p s m args meth c cX9_freeAt 2 RX9 (some .int) D G := C
  obtain ⟨hx, hb, hr, hml, hts, hown, hlocks, hK0⟩ := id C
  have hK := hK0.1
  have hl : lv_has ls 2 [(0, .ref (a 0)), (1, .int v1)] := hl
  rw [F_X9_freeAt] at hV
  refine lv_aload_n hx hb dX9_freeAt_0 rfl (lv_at hl 0 rfl) ?_
  refine va_get (D := D) (ci := 11) (v := .ref (a 1)) (C := RX9) (T := TX9) (N := 16) hx hb hts ju_X9 hown hK hP 0 rfl rfl 1 (by decide) (hts _ jq_6_1) (fun _ h9 => h9) rfl dX9_freeAt_1 ?_
  refine lv_iconst (v := 0) hx hb dX9_freeAt_4 (by decide) ?_
  refine lv_aload_n hx hb dX9_freeAt_5 rfl (lv_at hl 0 rfl) ?_
  refine lv_iload_n hx hb dX9_freeAt_6 rfl (lv_at hl 1 rfl) ?_
  refine lv_iconst (v := 1) hx hb dX9_freeAt_7 (by decide) ?_
  obtain ⟨r1, hr1, hV⟩ := jBind hV
  refine jVpI C dX9_freeAt_8 (k_X9_p l D G a N M v1 (1 : Int32) r1 hr1) jy_X9_p jq_13_4 jq_13_5 jq_13_6 ⟨rfl, rfl, Nat.le_of_ble_eq_true rfl, Nat.le_of_ble_eq_true rfl⟩ ⟨Nat.le_of_ble_eq_true rfl, Nat.le_of_ble_eq_true rfl⟩ hP  (ci := 11) (iw := 0) rfl rfl rfl hl (rest := [.int (0 : Int32), .ref (a 1)]) rfl (Nat.le_of_ble_eq_true rfl) ?_
  refine lv_iadd hx hb dX9_freeAt_11 ?_
  obtain ⟨g2, hV⟩ := jIf hV
  refine va_iald (D := D) (n := 2169) (f := (M 1)) hx hb hK hP 1 0 rfl rfl (inb_of g2) dX9_freeAt_12 ?_
  refine lv_aload_n hx hb dX9_freeAt_13 rfl (lv_at hl 0 rfl) ?_
  refine lv_iload_n hx hb dX9_freeAt_14 rfl (lv_at hl 1 rfl) ?_
  refine lv_iconst (v := 3) hx hb dX9_freeAt_15 (by decide) ?_
  obtain ⟨r3, hr3, hV⟩ := jBind hV
  refine jVpI C dX9_freeAt_16 (k_X9_p l D G a N M v1 (3 : Int32) r3 hr3) jy_X9_p jq_13_4 jq_13_5 jq_13_6 ⟨rfl, rfl, Nat.le_of_ble_eq_true rfl, Nat.le_of_ble_eq_true rfl⟩ ⟨Nat.le_of_ble_eq_true rfl, Nat.le_of_ble_eq_true rfl⟩ hP  (ci := 11) (iw := 0) rfl rfl rfl hl (rest := [.int ((M 1) ((0 : Int32) + r1).toNatClampNeg)]) rfl (Nat.le_of_ble_eq_true rfl) ?_
  refine lv_isub hx hb dX9_freeAt_19 ?_
  refine lv_aload_n hx hb dX9_freeAt_20 rfl (lv_at hl 0 rfl) ?_
  refine lv_iload_n hx hb dX9_freeAt_21 rfl (lv_at hl 1 rfl) ?_
  obtain ⟨r4, hr4, hV⟩ := jBind hV
  refine jVpI C dX9_freeAt_22 (k_X9_heldAt l D G a N M v1 r4 hr4) jy_X9_heldAt jq_13_8 jq_13_9 jq_13_10 ⟨rfl, rfl, Nat.le_of_ble_eq_true rfl, Nat.le_of_ble_eq_true rfl⟩ ⟨Nat.le_of_ble_eq_true rfl, Nat.le_of_ble_eq_true rfl⟩ hP  (ci := 11) (iw := 0) rfl rfl rfl hl (rest := [.int (((M 1) ((0 : Int32) + r1).toNatClampNeg) - r3)]) rfl (Nat.le_of_ble_eq_true rfl) ?_
  refine lv_isub hx hb dX9_freeAt_25 ?_
  exact pRet C rfl dX9_freeAt_26 rfl (Option.some.inj hV)
theorem jy_X9_requestAt : jY yX9_requestAt cX9_requestAt 6 (some .int) 2 := ⟨by decide +kernel, jq_14_9, jq_1_5⟩
def D_X9_requestAt_18 (N : Nat)  (M : Nat → Nat → Int32) (k6 : Int32 → Int32 → Int32 → Int32 → Option Int32) : Nat → Int32 → Int32 → Int32 → Int32 → Int32 → Option Int32
  | 0, _, _, _, _, _ => none
  | n + 1, v1, v2, v3, v4, v5 => (if inb (180 : Int32) 2169 = true then (if ((M 1) (180 : Int32).toNatClampNeg) ≤ v5 then (k6  v1 v2 v3 (v4 + (-1))) else ((F_X9_r N M v5 (0 : Int32)).bind (fun r2 => (if r2 = v1 then ((F_X9_r N M v5 (2 : Int32)).bind (fun r3 => (if r3 = v4 then (if v3 = 0 then (some v5) else (D_X9_requestAt_18 N  M k6 n  v1 v2 (v3 + (-1)) v4 (v5 + 1))) else (D_X9_requestAt_18 N  M k6 n  v1 v2 v3 v4 (v5 + 1))))) else (D_X9_requestAt_18 N  M k6 n  v1 v2 v3 v4 (v5 + 1)))))) else none)
set_option maxHeartbeats 4000000 in
set_option maxRecDepth 100000 in
theorem B_X9_requestAt_18 {p : Program} {l : Launch} {e : Env} {s : State} {m : MethodId} {args : Array Value} {below : List Frame} {meth : Method} {c : Code} {D : va_G} {G : Nat → ClassId} (C : Cx p s m args meth c cX9_requestAt 6 RX9 (some .int) D G) (N : Nat) (a : Nat → Nat) (M : Nat → Nat → Int32) (r : Int32) (hP : va_P D vwCl (wM a G M) s.heap) (k6 : Int32 → Int32 → Int32 → Int32 → Option Int32) (hk6 : (∀ (v1 : Int32) (v2 : Int32) (v3 : Int32) (v4 : Int32) (ls : Array Slot), lv_has ls 6 [(0, .ref (a 0)), (1, .int v1), (2, .int v2), (3, .int v3), (4, .int v4)] → k6 v1 v2 v3 v4 = some r → W p l e ({ frames := 1, cells := 0, slots := 0, locals := 22 } : Room) s m args below meth c s.heap [] 0 0 (MQ below (QcRd (some (.int r))) args s 0 0 nofree) (F0 m 6 ls []))) : (∀ (n : Nat) (v1 : Int32) (v2 : Int32) (v3 : Int32) (v4 : Int32) (v5 : Int32) (ls : Array Slot), lv_has ls 6 [(0, .ref (a 0)), (1, .int v1), (2, .int v2), (3, .int v3), (4, .int v4), (5, .int v5)] → D_X9_requestAt_18 N  M k6 n v1 v2 v3 v4 v5 = some r → W p l e ({ frames := 1, cells := 0, slots := 0, locals := 22 } : Room) s m args below meth c s.heap [] 0 0 (MQ below (QcRd (some (.int r))) args s 0 0 nofree) (F0 m 18 ls [])) := by
  have C := C
  obtain ⟨hx, hb, hr, hml, hts, hown, hlocks, hK0⟩ := id C
  have hK := hK0.1
  intro n
  induction n with
  | zero =>
    intro v1 v2 v3 v4 v5 ls hl hV
    rw [D_X9_requestAt_18] at hV
    cases hV
  | succ n ih =>
    intro v1 v2 v3 v4 v5 ls hl hV
    rw [D_X9_requestAt_18] at hV
    refine lv_iload hx hb dX9_requestAt_18 (lv_at hl 5 rfl) ?_
    refine lv_aload_n hx hb dX9_requestAt_20 rfl (lv_at hl 0 rfl) ?_
    refine va_get (D := D) (ci := 11) (v := .ref (a 1)) (C := RX9) (T := TX9) (N := 16) hx hb hts ju_X9 hown hK hP 0 rfl rfl 1 (by decide) (hts _ jq_6_1) (fun _ h9 => h9) rfl dX9_requestAt_21 ?_
    refine lv_sipush (v := 180) hx hb dX9_requestAt_24 (by decide) ?_
    obtain ⟨g1, hV⟩ := jIf hV
    refine va_iald (D := D) (n := 2169) (f := (M 1)) hx hb hK hP 1 0 rfl rfl (inb_of g1) dX9_requestAt_27 ?_
    refine lv_icmp_ge (tgt := 73) hx hb dX9_requestAt_28 (by decide) (fun c7 => ?_) (fun c7 => ?_)
    · have hV := jT1 hV c7
      refine lv_iinc (v := (v4 + (-1))) (lv' := [(4, .int (v4 + (-1))), (0, .ref (a 0)), (1, .int v1), (2, .int v2), (3, .int v3), (5, .int v5)]) hx hb dX9_requestAt_73 hl (k := 4) rfl rfl (by decide) rfl (fun ls hl => ?_)
      refine lv_goto (tgt := 6) hx hb dX9_requestAt_76 (by decide) ?_
      exact hk6  v1 v2 v3 (v4 + (-1)) _ (lv_sub hl [1, 2, 3, 4, 0] rfl) hV
    · have hV := jF1 hV c7
      refine lv_aload_n hx hb dX9_requestAt_31 rfl (lv_at hl 0 rfl) ?_
      refine lv_iload hx hb dX9_requestAt_32 (lv_at hl 5 rfl) ?_
      refine lv_iconst (v := 0) hx hb dX9_requestAt_34 (by decide) ?_
      obtain ⟨r2, hr2, hV⟩ := jBind hV
      refine jVpI C dX9_requestAt_35 (k_X9_r l D G a N M v5 (0 : Int32) r2 hr2) jy_X9_r jq_14_10 jq_14_11 jq_14_12 ⟨rfl, rfl, Nat.le_of_ble_eq_true rfl, Nat.le_of_ble_eq_true rfl⟩ ⟨Nat.le_of_ble_eq_true rfl, Nat.le_of_ble_eq_true rfl⟩ hP  (ci := 11) (iw := 0) rfl rfl rfl hl (rest := []) rfl (Nat.le_of_ble_eq_true rfl) ?_
      refine lv_iload_n hx hb dX9_requestAt_38 rfl (lv_at hl 1 rfl) ?_
      refine lv_icmp_ne (tgt := 67) hx hb dX9_requestAt_39 (by decide) (fun c6 => ?_) (fun c6 => ?_)
      · have hV := jF1 hV c6
        refine lv_iinc (v := (v5 + 1)) (lv' := [(5, .int (v5 + 1)), (0, .ref (a 0)), (1, .int v1), (2, .int v2), (3, .int v3), (4, .int v4)]) hx hb dX9_requestAt_67 hl (k := 5) rfl rfl (by decide) rfl (fun ls hl => ?_)
        refine lv_goto (tgt := 18) hx hb dX9_requestAt_70 (by decide) ?_
        exact ih  v1 v2 v3 v4 (v5 + 1) _ (lv_sub hl [1, 2, 3, 4, 5, 0] rfl) hV
      · have hV := jT1 hV c6
        refine lv_aload_n hx hb dX9_requestAt_42 rfl (lv_at hl 0 rfl) ?_
        refine lv_iload hx hb dX9_requestAt_43 (lv_at hl 5 rfl) ?_
        refine lv_iconst (v := 2) hx hb dX9_requestAt_45 (by decide) ?_
        obtain ⟨r3, hr3, hV⟩ := jBind hV
        refine jVpI C dX9_requestAt_46 (k_X9_r l D G a N M v5 (2 : Int32) r3 hr3) jy_X9_r jq_14_10 jq_14_11 jq_14_12 ⟨rfl, rfl, Nat.le_of_ble_eq_true rfl, Nat.le_of_ble_eq_true rfl⟩ ⟨Nat.le_of_ble_eq_true rfl, Nat.le_of_ble_eq_true rfl⟩ hP  (ci := 11) (iw := 0) rfl rfl rfl hl (rest := []) rfl (Nat.le_of_ble_eq_true rfl) ?_
        refine lv_iload hx hb dX9_requestAt_49 (lv_at hl 4 rfl) ?_
        refine lv_icmp_eq (tgt := 57) hx hb dX9_requestAt_51 (by decide) (fun c5 => ?_) (fun c5 => ?_)
        · have hV := jT1 hV c5
          refine lv_iload_n hx hb dX9_requestAt_57 rfl (lv_at hl 3 rfl) ?_
          refine lv_if_ne (tgt := 64) hx hb dX9_requestAt_58 (by decide) (fun c4 => ?_) (fun c4 => ?_)
          · have hV := jF1 hV c4
            refine lv_iinc (v := (v3 + (-1))) (lv' := [(3, .int (v3 + (-1))), (0, .ref (a 0)), (1, .int v1), (2, .int v2), (4, .int v4), (5, .int v5)]) hx hb dX9_requestAt_64 hl (k := 3) rfl rfl (by decide) rfl (fun ls hl => ?_)
            refine lv_iinc (v := (v5 + 1)) (lv' := [(5, .int (v5 + 1)), (3, .int (v3 + (-1))), (0, .ref (a 0)), (1, .int v1), (2, .int v2), (4, .int v4)]) hx hb dX9_requestAt_67 hl (k := 5) rfl rfl (by decide) rfl (fun ls hl => ?_)
            refine lv_goto (tgt := 18) hx hb dX9_requestAt_70 (by decide) ?_
            exact ih  v1 v2 (v3 + (-1)) v4 (v5 + 1) _ (lv_sub hl [2, 3, 4, 1, 5, 0] rfl) hV
          · have hV := jT1 hV c4
            refine lv_iload hx hb dX9_requestAt_61 (lv_at hl 5 rfl) ?_
            exact pRet C rfl dX9_requestAt_63 rfl (Option.some.inj hV)
        · have hV := jF1 hV c5
          refine lv_goto (tgt := 67) hx hb dX9_requestAt_54 (by decide) ?_
          refine lv_iinc (v := (v5 + 1)) (lv' := [(5, .int (v5 + 1)), (0, .ref (a 0)), (1, .int v1), (2, .int v2), (3, .int v3), (4, .int v4)]) hx hb dX9_requestAt_67 hl (k := 5) rfl rfl (by decide) rfl (fun ls hl => ?_)
          refine lv_goto (tgt := 18) hx hb dX9_requestAt_70 (by decide) ?_
          exact ih  v1 v2 v3 v4 (v5 + 1) _ (lv_sub hl [1, 2, 3, 4, 5, 0] rfl) hV
def D_X9_requestAt_6 (N : Nat)  (M : Nat → Nat → Int32) : Nat → Int32 → Int32 → Int32 → Int32 → Option Int32
  | 0, _, _, _, _ => none
  | n + 1, v1, v2, v3, v4 => (if v4 < 0 then (some (-1 : Int32)) else (if v2 < 0 then (some (-1 : Int32)) else (D_X9_requestAt_18 N  M (D_X9_requestAt_6 N  M  n) N  v1 v2 v3 v4 (0 : Int32))))
set_option maxHeartbeats 4000000 in
set_option maxRecDepth 100000 in
theorem B_X9_requestAt_6 {p : Program} {l : Launch} {e : Env} {s : State} {m : MethodId} {args : Array Value} {below : List Frame} {meth : Method} {c : Code} {D : va_G} {G : Nat → ClassId} (C : Cx p s m args meth c cX9_requestAt 6 RX9 (some .int) D G) (N : Nat) (a : Nat → Nat) (M : Nat → Nat → Int32) (r : Int32) (hP : va_P D vwCl (wM a G M) s.heap) : (∀ (n : Nat) (v1 : Int32) (v2 : Int32) (v3 : Int32) (v4 : Int32) (ls : Array Slot), lv_has ls 6 [(0, .ref (a 0)), (1, .int v1), (2, .int v2), (3, .int v3), (4, .int v4)] → D_X9_requestAt_6 N  M  n v1 v2 v3 v4 = some r → W p l e ({ frames := 1, cells := 0, slots := 0, locals := 22 } : Room) s m args below meth c s.heap [] 0 0 (MQ below (QcRd (some (.int r))) args s 0 0 nofree) (F0 m 6 ls [])) := by
  have C := C
  obtain ⟨hx, hb, hr, hml, hts, hown, hlocks, hK0⟩ := id C
  have hK := hK0.1
  intro n
  induction n with
  | zero =>
    intro v1 v2 v3 v4 ls hl hV
    rw [D_X9_requestAt_6] at hV
    cases hV
  | succ n ih =>
    intro v1 v2 v3 v4 ls hl hV
    rw [D_X9_requestAt_6] at hV
    refine lv_iload hx hb dX9_requestAt_6 (lv_at hl 4 rfl) ?_
    refine lv_if_lt (tgt := 79) hx hb dX9_requestAt_8 (by decide) (fun c9 => ?_) (fun c9 => ?_)
    · have hV := jT1 hV c9
      refine lv_iconst (v := -1) hx hb dX9_requestAt_79 (by decide) ?_
      exact pRet C rfl dX9_requestAt_80 rfl (Option.some.inj hV)
    · have hV := jF1 hV c9
      refine lv_iload_n hx hb dX9_requestAt_11 rfl (lv_at hl 2 rfl) ?_
      refine lv_if_lt (tgt := 79) hx hb dX9_requestAt_12 (by decide) (fun c8 => ?_) (fun c8 => ?_)
      · have hV := jT1 hV c8
        refine lv_iconst (v := -1) hx hb dX9_requestAt_79 (by decide) ?_
        exact pRet C rfl dX9_requestAt_80 rfl (Option.some.inj hV)
      · have hV := jF1 hV c8
        refine lv_iconst (v := 0) hx hb dX9_requestAt_15 (by decide) ?_
        refine lv_istore (lv' := [(5, .int (0 : Int32)), (0, .ref (a 0)), (1, .int v1), (2, .int v2), (3, .int v3), (4, .int v4)]) hx hb dX9_requestAt_16 hl (by decide) rfl (fun ls hl => ?_)
        exact B_X9_requestAt_18 C  N a M r hP (D_X9_requestAt_6 N  M  n) ih N  v1 v2 v3 v4 (0 : Int32) _ (lv_sub hl [1, 2, 3, 4, 5, 0] rfl) hV
def F_X9_requestAt (N : Nat)  (M : Nat → Nat → Int32) (v1 v2 : Int32) : Option Int32 := (D_X9_requestAt_6 N  M  N  v1 v2 v2 (9 : Int32))
set_option maxHeartbeats 4000000 in
set_option maxRecDepth 100000 in
theorem k_X9_requestAt (l : Launch) (D : va_G) (G : Nat → ClassId) (a : Nat → Nat) (N : Nat) (M : Nat → Nat → Int32) (v1 v2 : Int32) (r : Int32) (hV : F_X9_requestAt N  M v1 v2 = some r) : pM l yX9_requestAt (jws yX9_requestAt cX9_requestAt 6 (some .int)) ({ frames := 1, cells := 0, slots := 0, locals := 22 } : Room) [.ref (a 0), .int v1, .int v2] D G (wM a G M) (some (.int r)) := by
  refine pM_of (by decide +kernel) (Nat.le_of_ble_eq_true rfl) (fun p e s m args below meth c ls C hP hl => ?_)
  have C : Cx p s m args meth c cX9_requestAt 6 RX9 (some .int) D G := C
  obtain ⟨hx, hb, hr, hml, hts, hown, hlocks, hK0⟩ := id C
  have hK := hK0.1
  have hl : lv_has ls 6 [(0, .ref (a 0)), (1, .int v1), (2, .int v2)] := hl
  rw [F_X9_requestAt] at hV
  refine lv_iload_n hx hb dX9_requestAt_0 rfl (lv_at hl 2 rfl) ?_
  refine lv_istore_n (lv' := [(3, .int v2), (0, .ref (a 0)), (1, .int v1), (2, .int v2)]) hx hb dX9_requestAt_1 rfl hl (by decide) rfl (fun ls hl => ?_)
  refine lv_bipush (v := 9) hx hb dX9_requestAt_2 (by decide) ?_
  refine lv_istore (lv' := [(4, .int (9 : Int32)), (3, .int v2), (0, .ref (a 0)), (1, .int v1), (2, .int v2)]) hx hb dX9_requestAt_4 hl (by decide) rfl (fun ls hl => ?_)
  exact B_X9_requestAt_6 C  N a M r hP   N  v1 v2 v2 (9 : Int32) _ (lv_sub hl [2, 3, 4, 1, 0] rfl) hV
