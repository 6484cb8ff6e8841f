theorem jy_X9_takesOut : jY yX9_takesOut cX9_takesOut 3 none 1 := ⟨by decide +kernel, jq_14_21, jq_1_5⟩
def D_X9_takesOut_16 (N : Nat)  : Nat → (Nat → Nat → Int32) → Int32 → Option (Nat → Nat → Int32)
  | 0, _, _ => none
  | n + 1, M, v2 => (if inb (180 : Int32) 2169 = true then (if ((3 : Int32) * ((M 1) (180 : Int32).toNatClampNeg)) ≤ v2 then (some M) else (if inb (((181 : Int32) + v2) + (3 : Int32)) 2169 = true then (if inb ((181 : Int32) + v2) 2169 = true then (jlet (stA M 1 ((181 : Int32) + v2) ((M 1) (((181 : Int32) + v2) + (3 : Int32)).toNatClampNeg)) (fun M4 => (D_X9_takesOut_16 N   n M4 (v2 + 1)))) else none) else none)) else none)
set_option maxHeartbeats 4000000 in
set_option maxRecDepth 100000 in
theorem B_X9_takesOut_16 {p : Program} {l : Launch} {e : Env} {s : State} {m : MethodId} {args : Array Value} {below : List Frame} {meth : Method} {c : Code} {D : va_G} {G : Nat → ClassId} {A : Nat → Prop} (C : Cx p s m args meth c cX9_takesOut 3 RX9 none D G) (hA : ∀ q : Nat, s.heap.size ≤ q → A q) (N : Nat) (a : Nat → Nat) (r : (Nat → Nat → Int32)) : (∀ (n : Nat) (M : Nat → Nat → Int32) (v2 : Int32) (ls : Array Slot) (H : Heap) (locs : List Loc), va_P D vwCl (wM a G M) H → va_D A (wM a G M) → va_S A s.heap H locs → lv_has ls 3 [(0, .ref (a 0)), (2, .int v2)] → D_X9_takesOut_16 N   n M v2 = some r → W p l e ({ frames := 0, cells := 0, slots := 0, locals := 0 } : Room) s m args below meth c H locs 0 0 (MQ below (mQ D (wM a G r) none A) args s 0 0 A) (F0 m 16 ls [])) := by
  have C := C
  obtain ⟨hx, hb, hr, hml, hts, hown, hlocks, hK0⟩ := id C
  have hK := hK0.1
  intro n
  induction n with
  | zero =>
    intro M v2 ls H locs hP hD hS hl hV
    rw [D_X9_takesOut_16] at hV
    cases hV
  | succ n ih =>
    intro M v2 ls H locs hP hD hS hl hV
    rw [D_X9_takesOut_16] at hV
    refine lv_iload_n hx hb dX9_takesOut_16 rfl (lv_at hl 1 rfl) ?_
    refine lv_iconst (v := 3) hx hb dX9_takesOut_17 (by decide) ?_
    refine lv_aload_n hx hb dX9_takesOut_18 rfl (lv_at hl 0 rfl) ?_
    refine va_get (D := D) (ci := 11) (v := .ref (a 1)) (C := RX9) (T := TX9) (N := 16) hx hb hts ju_X9 hown hK hP 0 rfl rfl 1 (by decide) (hts _ jq_6_1) (fun _ h9 => h9) rfl dX9_takesOut_19 ?_
    refine lv_sipush (v := 180) hx hb dX9_takesOut_22 (by decide) ?_
    obtain ⟨g1, hV⟩ := jIf hV
    refine va_iald (D := D) (n := 2169) (f := (M 1)) hx hb hK hP 1 0 rfl rfl (inb_of g1) dX9_takesOut_25 ?_
    refine lv_imul hx hb dX9_takesOut_26 ?_
    refine lv_icmp_ge (tgt := 58) hx hb dX9_takesOut_27 (by decide) (fun c6 => ?_) (fun c6 => ?_)
    · have hV := jT1 hV c6
      cases hV
      exact mRetV C dX9_takesOut_58 hP hS
    · have hV := jF1 hV c6
      refine lv_aload_n hx hb dX9_takesOut_30 rfl (lv_at hl 0 rfl) ?_
      refine va_get (D := D) (ci := 11) (v := .ref (a 1)) (C := RX9) (T := TX9) (N := 16) hx hb hts ju_X9 hown hK hP 0 rfl rfl 1 (by decide) (hts _ jq_6_1) (fun _ h9 => h9) rfl dX9_takesOut_31 ?_
      refine lv_sipush (v := 181) hx hb dX9_takesOut_34 (by decide) ?_
      refine lv_iload_n hx hb dX9_takesOut_37 rfl (lv_at hl 1 rfl) ?_
      refine lv_iadd hx hb dX9_takesOut_38 ?_
      refine lv_aload_n hx hb dX9_takesOut_39 rfl (lv_at hl 0 rfl) ?_
      refine va_get (D := D) (ci := 11) (v := .ref (a 1)) (C := RX9) (T := TX9) (N := 16) hx hb hts ju_X9 hown hK hP 0 rfl rfl 1 (by decide) (hts _ jq_6_1) (fun _ h9 => h9) rfl dX9_takesOut_40 ?_
      refine lv_sipush (v := 181) hx hb dX9_takesOut_43 (by decide) ?_
      refine lv_iload_n hx hb dX9_takesOut_46 rfl (lv_at hl 1 rfl) ?_
      refine lv_iadd hx hb dX9_takesOut_47 ?_
      refine lv_iconst (v := 3) hx hb dX9_takesOut_48 (by decide) ?_
      refine lv_iadd hx hb dX9_takesOut_49 ?_
      obtain ⟨g2, hV⟩ := jIf hV
      refine va_iald (D := D) (n := 2169) (f := (M 1)) hx hb hK hP 1 0 rfl rfl (inb_of g2) dX9_takesOut_50 ?_
      obtain ⟨g3, hV⟩ := jIf hV
      refine va_iast (D := D) (n := 2169) (f := (M 1)) hx hb hK hP hD hS 1 0 rfl rfl (inb_of g3) dX9_takesOut_51 (fun H locs hP hD hS => ?_)
      obtain ⟨M4, e5, hV⟩ := jLet hV
      have hP : va_P D vwCl (wM a G M4) H := by rw [e5]; exact hP
      have hD : va_D A (wM a G M4) := by rw [e5]; exact hD
      refine lv_iinc (v := (v2 + 1)) (lv' := [(2, .int (v2 + 1)), (0, .ref (a 0))]) hx hb dX9_takesOut_52 hl (k := 1) rfl rfl (by decide) rfl (fun ls hl => ?_)
      refine lv_goto (tgt := 16) hx hb dX9_takesOut_55 (by decide) ?_
      exact ih M4 (v2 + 1) _ _ _ hP hD hS (lv_sub hl [1, 0] rfl) hV
def F_X9_takesOut (N : Nat)  (M : Nat → Nat → Int32) (v1 : Int32) : Option (Nat → Nat → Int32) := (if inb (180 : Int32) 2169 = true then (if inb (180 : Int32) 2169 = true then (jlet (stA M 1 (180 : Int32) (((M 1) (180 : Int32).toNatClampNeg) - (1 : Int32))) (fun M9 => (D_X9_takesOut_16 N   N M9 ((3 : Int32) * v1)))) else none) else none)
set_option maxHeartbeats 4000000 in
set_option maxRecDepth 100000 in
theorem k_X9_takesOut (l : Launch) (D : va_G) (G : Nat → ClassId) (a : Nat → Nat) (N : Nat) (M : Nat → Nat → Int32) (v1 : Int32) (r : (Nat → Nat → Int32)) (hV : F_X9_takesOut N  M v1 = some r) : mM l yX9_takesOut (jws yX9_takesOut cX9_takesOut 3 none) ({ frames := 0, cells := 0, slots := 0, locals := 0 } : Room) [.ref (a 0), .int v1] D G (wM a G M) (wM a G r) none := by
  refine mM_of (by decide +kernel) (Nat.le_of_ble_eq_true rfl) (fun p e s m args below meth c ls A C hP hD hA hl => ?_)
  have C : Cx p s m args meth c cX9_takesOut 3 RX9 none D G := C
  have hS : va_S A s.heap s.heap [] := va_S.rf
  obtain ⟨hx, hb, hr, hml, hts, hown, hlocks, hK0⟩ := id C
  have hK := hK0.1
  have hl : lv_has ls 3 [(0, .ref (a 0)), (1, .int v1)] := hl
  rw [F_X9_takesOut] at hV
  refine lv_aload_n hx hb dX9_takesOut_0 rfl (lv_at hl 0 rfl) ?_
  refine va_get (D := D) (ci := 11) (v := .ref (a 1)) (C := RX9) (T := TX9) (N := 16) hx hb hts ju_X9 hown hK hP 0 rfl rfl 1 (by decide) (hts _ jq_6_1) (fun _ h9 => h9) rfl dX9_takesOut_1 ?_
  refine lv_sipush (v := 180) hx hb dX9_takesOut_4 (by decide) ?_
  refine lv_dup2_11 hx hb dX9_takesOut_7 rfl rfl ?_
  obtain ⟨g7, hV⟩ := jIf hV
  refine va_iald (D := D) (n := 2169) (f := (M 1)) hx hb hK hP 1 0 rfl rfl (inb_of g7) dX9_takesOut_8 ?_
  refine lv_iconst (v := 1) hx hb dX9_takesOut_9 (by decide) ?_
  refine lv_isub hx hb dX9_takesOut_10 ?_
  obtain ⟨g8, hV⟩ := jIf hV
  refine va_iast (D := D) (n := 2169) (f := (M 1)) hx hb hK hP hD hS 1 0 rfl rfl (inb_of g8) dX9_takesOut_11 (fun H locs hP hD hS => ?_)
  obtain ⟨M9, e10, hV⟩ := jLet hV
  have hP : va_P D vwCl (wM a G M9) H := by rw [e10]; exact hP
  have hD : va_D A (wM a G M9) := by rw [e10]; exact hD
  refine lv_iconst (v := 3) hx hb dX9_takesOut_12 (by decide) ?_
  refine lv_iload_n hx hb dX9_takesOut_13 rfl (lv_at hl 1 rfl) ?_
  refine lv_imul hx hb dX9_takesOut_14 ?_
  refine lv_istore_n (lv' := [(2, .int ((3 : Int32) * v1)), (0, .ref (a 0)), (1, .int v1)]) hx hb dX9_takesOut_15 rfl hl (by decide) rfl (fun ls hl => ?_)
  exact B_X9_takesOut_16 C hA N a r   N M9 ((3 : Int32) * v1) _ _ _ hP hD hS (lv_sub hl [1, 0] rfl) hV
theorem jy_X9_serves : jY yX9_serves cX9_serves 3 none 1 := ⟨by decide +kernel, jq_14_5, jq_1_5⟩
def D_X9_serves_7 (N : Nat)  : Nat → (Nat → Nat → Int32) → Int32 → Int32 → Option (Nat → Nat → Int32)
  | 0, _, _, _ => none
  | n + 1, M, v1, v2 => (if v2 = (-1 : Int32) then (some M) else ((F_X9_r N M v2 (1 : Int32)).bind (fun r1 => ((F_X9_freeAt N M v1).bind (fun r2 => (if r2 < r1 then (some M) else (if inb (((39 : Int32) + ((4 : Int32) * v1)) + (3 : Int32)) 2169 = true then ((F_X9_r N M v2 (1 : Int32)).bind (fun r4 => (if inb (((39 : Int32) + ((4 : Int32) * v1)) + (3 : Int32)) 2169 = true then (jlet (stA M 1 (((39 : Int32) + ((4 : Int32) * v1)) + (3 : Int32)) (((M 1) (((39 : Int32) + ((4 : Int32) * v1)) + (3 : Int32)).toNatClampNeg) + r4)) (fun M6 => ((F_X9_takesOut N M6 v2).bind (fun r7 => ((F_X9_requestAt N r7 v1 (0 : Int32)).bind (fun r8 => (D_X9_serves_7 N   n r7 v1 r8))))))) else none))) else none)))))))
set_option maxHeartbeats 4000000 in
set_option maxRecDepth 100000 in
theorem B_X9_serves_7 {p : Program} {l : Launch} {e : Env} {s : State} {m : MethodId} {args : Array Value} {below : List Frame} {meth : Method} {c : Code} {D : va_G} {G : Nat → ClassId} {A : Nat → Prop} (C : Cx p s m args meth c cX9_serves 3 RX9 none D G) (hA : ∀ q : Nat, s.heap.size ≤ q → A q) (N : Nat) (a : Nat → Nat) (r : (Nat → Nat → Int32)) : (∀ (n : Nat) (M : Nat → Nat → Int32) (v1 : Int32) (v2 : Int32) (ls : Array Slot) (H : Heap) (locs : List Loc), va_P D vwCl (wM a G M) H → va_D A (wM a G M) → va_S A s.heap H locs → lv_has ls 3 [(0, .ref (a 0)), (1, .int v1), (2, .int v2)] → D_X9_serves_7 N   n M v1 v2 = some r → W p l e ({ frames := 3, cells := 0, slots := 0, locals := 66 } : Room) s m args below meth c H locs 0 0 (MQ below (mQ D (wM a G r) none A) args s 0 0 A) (F0 m 7 ls [])) := by
  have C := C
  obtain ⟨hx, hb, hr, hml, hts, hown, hlocks, hK0⟩ := id C
  have hK := hK0.1
  intro n
  induction n with
  | zero =>
    intro M v1 v2 ls H locs hP hD hS hl hV
    rw [D_X9_serves_7] at hV
    cases hV
  | succ n ih =>
    intro M v1 v2 ls H locs hP hD hS hl hV
    rw [D_X9_serves_7] at hV
    refine lv_iload_n hx hb dX9_serves_7 rfl (lv_at hl 2 rfl) ?_
    refine lv_iconst (v := -1) hx hb dX9_serves_8 (by decide) ?_
    refine lv_icmp_eq (tgt := 63) hx hb dX9_serves_9 (by decide) (fun c11 => ?_) (fun c11 => ?_)
    · have hV := jT1 hV c11
      cases hV
      exact mRetV C dX9_serves_63 hP hS
    · have hV := jF1 hV c11
      refine lv_aload_n hx hb dX9_serves_12 rfl (lv_at hl 0 rfl) ?_
      refine lv_iload_n hx hb dX9_serves_13 rfl (lv_at hl 2 rfl) ?_
      refine lv_iconst (v := 1) hx hb dX9_serves_14 (by decide) ?_
      obtain ⟨r1, hr1, hV⟩ := jBind hV
      refine jVpI C dX9_serves_15 (k_X9_r l D G a N M v2 (1 : Int32) r1 hr1) jy_X9_r jq_14_10 jq_14_11 jq_14_12 ⟨rfl, rfl, Nat.le_of_ble_eq_true rfl, Nat.le_of_ble_eq_true rfl⟩ ⟨Nat.le_of_ble_eq_true rfl, Nat.le_of_ble_eq_true rfl⟩ hP  (ci := 11) (iw := 0) rfl rfl rfl hl (rest := []) rfl (Nat.le_of_ble_eq_true rfl) ?_
      refine lv_aload_n hx hb dX9_serves_18 rfl (lv_at hl 0 rfl) ?_
      refine lv_iload_n hx hb dX9_serves_19 rfl (lv_at hl 1 rfl) ?_
      obtain ⟨r2, hr2, hV⟩ := jBind hV
      refine jVpI C dX9_serves_20 (k_X9_freeAt l D G a N M v1 r2 hr2) jy_X9_freeAt jq_14_14 jq_14_15 jq_14_16 ⟨rfl, rfl, Nat.le_of_ble_eq_true rfl, Nat.le_of_ble_eq_true rfl⟩ ⟨Nat.le_of_ble_eq_true rfl, Nat.le_of_ble_eq_true rfl⟩ hP  (ci := 11) (iw := 0) rfl rfl rfl hl (rest := [.int r1]) rfl (Nat.le_of_ble_eq_true rfl) ?_
      refine lv_icmp_gt (tgt := 63) hx hb dX9_serves_23 (by decide) (fun c10 => ?_) (fun c10 => ?_)
      · have hV := jT1 hV c10
        cases hV
        exact mRetV C dX9_serves_63 hP hS
      · have hV := jF1 hV c10
        refine lv_aload_n hx hb dX9_serves_26 rfl (lv_at hl 0 rfl) ?_
        refine va_get (D := D) (ci := 11) (v := .ref (a 1)) (C := RX9) (T := TX9) (N := 16) hx hb hts ju_X9 hown hK hP 0 rfl rfl 1 (by decide) (hts _ jq_6_1) (fun _ h9 => h9) rfl dX9_serves_27 ?_
        refine lv_bipush (v := 39) hx hb dX9_serves_30 (by decide) ?_
        refine lv_iconst (v := 4) hx hb dX9_serves_32 (by decide) ?_
        refine lv_iload_n hx hb dX9_serves_33 rfl (lv_at hl 1 rfl) ?_
        refine lv_imul hx hb dX9_serves_34 ?_
        refine lv_iadd hx hb dX9_serves_35 ?_
        refine lv_iconst (v := 3) hx hb dX9_serves_36 (by decide) ?_
        refine lv_iadd hx hb dX9_serves_37 ?_
        refine lv_dup2_11 hx hb dX9_serves_38 rfl rfl ?_
        obtain ⟨g3, hV⟩ := jIf hV
        refine va_iald (D := D) (n := 2169) (f := (M 1)) hx hb hK hP 1 0 rfl rfl (inb_of g3) dX9_serves_39 ?_
        refine lv_aload_n hx hb dX9_serves_40 rfl (lv_at hl 0 rfl) ?_
        refine lv_iload_n hx hb dX9_serves_41 rfl (lv_at hl 2 rfl) ?_
        refine lv_iconst (v := 1) hx hb dX9_serves_42 (by decide) ?_
        obtain ⟨r4, hr4, hV⟩ := jBind hV
        refine jVpI C dX9_serves_43 (k_X9_r l D G a N M v2 (1 : Int32) r4 hr4) jy_X9_r jq_14_10 jq_14_11 jq_14_12 ⟨rfl, rfl, Nat.le_of_ble_eq_true rfl, Nat.le_of_ble_eq_true rfl⟩ ⟨Nat.le_of_ble_eq_true rfl, Nat.le_of_ble_eq_true rfl⟩ hP  (ci := 11) (iw := 0) rfl rfl rfl hl (rest := [.int ((M 1) (((39 : Int32) + ((4 : Int32) * v1)) + (3 : Int32)).toNatClampNeg), .int (((39 : Int32) + ((4 : Int32) * v1)) + (3 : Int32)), .ref (a 1)]) rfl (Nat.le_of_ble_eq_true rfl) ?_
        refine lv_iadd hx hb dX9_serves_46 ?_
        obtain ⟨g5, hV⟩ := jIf hV
        refine va_iast (D := D) (n := 2169) (f := (M 1)) hx hb hK hP hD hS 1 0 rfl rfl (inb_of g5) dX9_serves_47 (fun H locs hP hD hS => ?_)
        obtain ⟨M6, e9, hV⟩ := jLet hV
        have hP : va_P D vwCl (wM a G M6) H := by rw [e9]; exact hP
        have hD : va_D A (wM a G M6) := by rw [e9]; exact hD
        refine lv_aload_n hx hb dX9_serves_48 rfl (lv_at hl 0 rfl) ?_
        refine lv_iload_n hx hb dX9_serves_49 rfl (lv_at hl 2 rfl) ?_
        obtain ⟨r7, hr7, hV⟩ := jBind hV
        refine jVmV C dX9_serves_50 (k_X9_takesOut l D G a N M6 v2 r7 hr7) jy_X9_takesOut jq_14_18 jq_14_19 jq_14_20 ⟨rfl, rfl, Nat.le_of_ble_eq_true rfl, Nat.le_of_ble_eq_true rfl⟩ ⟨Nat.le_of_ble_eq_true rfl, Nat.le_of_ble_eq_true rfl⟩ hP hD hA hS (ci := 11) (iw := 0) rfl rfl rfl hl (rest := []) rfl (Nat.le_of_ble_eq_true rfl) (fun H locs hQ hz hkp hS => ?_)
        have hP : va_P D vwCl (wM a G r7) H := hQ
        have hD : va_D A (wM a G r7) := jD (w := (wM a G M6)) rfl hD
        refine lv_aload_n hx hb dX9_serves_53 rfl (lv_at hl 0 rfl) ?_
        refine lv_iload_n hx hb dX9_serves_54 rfl (lv_at hl 1 rfl) ?_
        refine lv_iconst (v := 0) hx hb dX9_serves_55 (by decide) ?_
        obtain ⟨r8, hr8, hV⟩ := jBind hV
        refine jVpI C dX9_serves_56 (k_X9_requestAt l D G a N r7 v1 (0 : Int32) r8 hr8) jy_X9_requestAt jq_14_6 jq_14_7 jq_14_8 ⟨rfl, rfl, Nat.le_of_ble_eq_true rfl, Nat.le_of_ble_eq_true rfl⟩ ⟨Nat.le_of_ble_eq_true rfl, Nat.le_of_ble_eq_true rfl⟩ hP  (ci := 11) (iw := 0) rfl rfl rfl hl (rest := []) rfl (Nat.le_of_ble_eq_true rfl) ?_
        refine lv_istore_n (lv' := [(2, .int r8), (0, .ref (a 0)), (1, .int v1)]) hx hb dX9_serves_59 rfl hl (by decide) rfl (fun ls hl => ?_)
        refine lv_goto (tgt := 7) hx hb dX9_serves_60 (by decide) ?_
        exact ih r7 v1 r8 _ _ _ hP hD hS (lv_sub hl [1, 2, 0] rfl) hV
def F_X9_serves (N : Nat)  (M : Nat → Nat → Int32) (v1 : Int32) : Option (Nat → Nat → Int32) := ((F_X9_requestAt N M v1 (0 : Int32)).bind (fun r12 => (D_X9_serves_7 N   N M v1 r12)))
set_option maxHeartbeats 4000000 in
set_option maxRecDepth 100000 in
theorem k_X9_serves (l : Launch) (D : va_G) (G : Nat → ClassId) (a : Nat → Nat) (N : Nat) (M : Nat → Nat → Int32) (v1 : Int32) (r : (Nat → Nat → Int32)) (hV : F_X9_serves N  M v1 = some r) : mM l yX9_serves (jws yX9_serves cX9_serves 3 none) ({ frames := 3, cells := 0, slots := 0, locals := 66 } : Room) [.ref (a 0), .int v1] D G (wM a G M) (wM a G r) none := by
  refine mM_of (by decide +kernel) (Nat.le_of_ble_eq_true rfl) (fun p e s m args below meth c ls A C hP hD hA hl => ?_)
  have C : Cx p s m args meth c cX9_serves 3 RX9 none D G := C
  have hS : va_S A s.heap s.heap [] := va_S.rf
  obtain ⟨hx, hb, hr, hml, hts, hown, hlocks, hK0⟩ := id C
  have hK := hK0.1
  have hl : lv_has ls 3 [(0, .ref (a 0)), (1, .int v1)] := hl
  rw [F_X9_serves] at hV
  refine lv_aload_n hx hb dX9_serves_0 rfl (lv_at hl 0 rfl) ?_
  refine lv_iload_n hx hb dX9_serves_1 rfl (lv_at hl 1 rfl) ?_
  refine lv_iconst (v := 0) hx hb dX9_serves_2 (by decide) ?_
  obtain ⟨r12, hr12, hV⟩ := jBind hV
  refine jVpI C dX9_serves_3 (k_X9_requestAt l D G a N M v1 (0 : Int32) r12 hr12) jy_X9_requestAt jq_14_6 jq_14_7 jq_14_8 ⟨rfl, rfl, Nat.le_of_ble_eq_true rfl, Nat.le_of_ble_eq_true rfl⟩ ⟨Nat.le_of_ble_eq_true rfl, Nat.le_of_ble_eq_true rfl⟩ hP  (ci := 11) (iw := 0) rfl rfl rfl hl (rest := []) rfl (Nat.le_of_ble_eq_true rfl) ?_
  refine lv_istore_n (lv' := [(2, .int r12), (0, .ref (a 0)), (1, .int v1)]) hx hb dX9_serves_6 rfl hl (by decide) rfl (fun ls hl => ?_)
  exact B_X9_serves_7 C hA N a r   N M v1 r12 _ _ _ hP hD hS (lv_sub hl [1, 2, 0] rfl) hV
theorem jy_X9_setsSeats : jY yX9_setsSeats cX9_setsSeats 4 (some .int) 2 := ⟨by decide +kernel, jq_12_20, jq_1_5⟩
def D_X9_setsSeats_107 (N : Nat)  : Nat → (Nat → Nat → Int32) → Int32 → Int32 → Option (Int32 × (Nat → Nat → Int32))
  | 0, _, _, _ => none
  | n + 1, M, v1, v3 => (if inb (38 : Int32) 2169 = true then (if ((M 1) (38 : Int32).toNatClampNeg) ≤ v3 then (some ((0 : Int32), M)) else ((F_X9_p N M v3 (1 : Int32)).bind (fun r2 => (if r2 = v1 then ((F_X9_serves N M v3).bind (fun r3 => (D_X9_setsSeats_107 N   n r3 v1 (v3 + 1)))) else (D_X9_setsSeats_107 N   n M v1 (v3 + 1)))))) else none)
set_option maxHeartbeats 4000000 in
set_option maxRecDepth 100000 in
theorem B_X9_setsSeats_107 {p : Program} {l : Launch} {e : Env} {s : State} {m : MethodId} {args : Array Value} {below : List Frame} {meth : Method} {c : Code} {D : va_G} {G : Nat → ClassId} {A : Nat → Prop} (C : Cx p s m args meth c cX9_setsSeats 4 RX9 (some .int) D G) (hA : ∀ q : Nat, s.heap.size ≤ q → A q) (N : Nat) (a : Nat → Nat) (r : (Int32 × (Nat → Nat → Int32))) : (∀ (n : Nat) (M : Nat → Nat → Int32) (v1 : Int32) (v3 : Int32) (ls : Array Slot) (H : Heap) (locs : List Loc), va_P D vwCl (wM a G M) H → va_D A (wM a G M) → va_S A s.heap H locs → lv_has ls 4 [(0, .ref (a 0)), (1, .int v1), (3, .int v3)] → D_X9_setsSeats_107 N   n M v1 v3 = some r → W p l e ({ frames := 4, cells := 0, slots := 0, locals := 88 } : Room) s m args below meth c H locs 0 0 (MQ below (mQ D (wM a G r.2) (some (.int r.1)) A) args s 0 0 A) (F0 m 107 ls [])) := by
  have C := C
  obtain ⟨hx, hb, hr, hml, hts, hown, hlocks, hK0⟩ := id C
  have hK := hK0.1
  intro n
  induction n with
  | zero =>
    intro M v1 v3 ls H locs hP hD hS hl hV
    rw [D_X9_setsSeats_107] at hV
    cases hV
  | succ n ih =>
    intro M v1 v3 ls H locs hP hD hS hl hV
    rw [D_X9_setsSeats_107] at hV
    refine lv_iload_n hx hb dX9_setsSeats_107 rfl (lv_at hl 2 rfl) ?_
    refine lv_aload_n hx hb dX9_setsSeats_108 rfl (lv_at hl 0 rfl) ?_
    refine va_get (D := D) (ci := 11) (v := .ref (a 1)) (C := RX9) (T := TX9) (N := 16) hx hb hts ju_X9 hown hK hP 0 rfl rfl 1 (by decide) (hts _ jq_6_1) (fun _ h9 => h9) rfl dX9_setsSeats_109 ?_
    refine lv_bipush (v := 38) hx hb dX9_setsSeats_112 (by decide) ?_
    obtain ⟨g1, hV⟩ := jIf hV
    refine va_iald (D := D) (n := 2169) (f := (M 1)) hx hb hK hP 1 0 rfl rfl (inb_of g1) dX9_setsSeats_114 ?_
    refine lv_icmp_ge (tgt := 139) hx hb dX9_setsSeats_115 (by decide) (fun c5 => ?_) (fun c5 => ?_)
    · have hV := jT1 hV c5
      refine lv_iconst (v := 0) hx hb dX9_setsSeats_139 (by decide) ?_
      cases hV
      exact mRet C rfl dX9_setsSeats_140 rfl rfl hP hS
    · have hV := jF1 hV c5
      refine lv_aload_n hx hb dX9_setsSeats_118 rfl (lv_at hl 0 rfl) ?_
      refine lv_iload_n hx hb dX9_setsSeats_119 rfl (lv_at hl 2 rfl) ?_
      refine lv_iconst (v := 1) hx hb dX9_setsSeats_120 (by decide) ?_
      obtain ⟨r2, hr2, hV⟩ := jBind hV
      refine jVpI C dX9_setsSeats_121 (k_X9_p l D G a N M v3 (1 : Int32) r2 hr2) jy_X9_p jq_13_4 jq_13_5 jq_13_6 ⟨rfl, rfl, Nat.le_of_ble_eq_true rfl, Nat.le_of_ble_eq_true rfl⟩ ⟨Nat.le_of_ble_eq_true rfl, Nat.le_of_ble_eq_true rfl⟩ hP  (ci := 11) (iw := 0) rfl rfl rfl hl (rest := []) rfl (Nat.le_of_ble_eq_true rfl) ?_
      refine lv_iload_n hx hb dX9_setsSeats_124 rfl (lv_at hl 1 rfl) ?_
      refine lv_icmp_ne (tgt := 133) hx hb dX9_setsSeats_125 (by decide) (fun c4 => ?_) (fun c4 => ?_)
      · have hV := jF1 hV c4
        refine lv_iinc (v := (v3 + 1)) (lv' := [(3, .int (v3 + 1)), (0, .ref (a 0)), (1, .int v1)]) hx hb dX9_setsSeats_133 hl (k := 2) rfl rfl (by decide) rfl (fun ls hl => ?_)
        refine lv_goto (tgt := 107) hx hb dX9_setsSeats_136 (by decide) ?_
        exact ih M v1 (v3 + 1) _ _ _ hP hD hS (lv_sub hl [1, 2, 0] rfl) hV
      · have hV := jT1 hV c4
        refine lv_aload_n hx hb dX9_setsSeats_128 rfl (lv_at hl 0 rfl) ?_
        refine lv_iload_n hx hb dX9_setsSeats_129 rfl (lv_at hl 2 rfl) ?_
        obtain ⟨r3, hr3, hV⟩ := jBind hV
        refine jVmV C dX9_setsSeats_130 (k_X9_serves l D G a N M v3 r3 hr3) jy_X9_serves jq_14_2 jq_14_3 jq_14_4 ⟨rfl, rfl, Nat.le_of_ble_eq_true rfl, Nat.le_of_ble_eq_true rfl⟩ ⟨Nat.le_of_ble_eq_true rfl, Nat.le_of_ble_eq_true rfl⟩ hP hD hA hS (ci := 11) (iw := 0) rfl rfl rfl hl (rest := []) rfl (Nat.le_of_ble_eq_true rfl) (fun H locs hQ hz hkp hS => ?_)
        have hP : va_P D vwCl (wM a G r3) H := hQ
        have hD : va_D A (wM a G r3) := jD (w := (wM a G M)) rfl hD
        refine lv_iinc (v := (v3 + 1)) (lv' := [(3, .int (v3 + 1)), (0, .ref (a 0)), (1, .int v1)]) hx hb dX9_setsSeats_133 hl (k := 2) rfl rfl (by decide) rfl (fun ls hl => ?_)
        refine lv_goto (tgt := 107) hx hb dX9_setsSeats_136 (by decide) ?_
        exact ih r3 v1 (v3 + 1) _ _ _ hP hD hS (lv_sub hl [1, 2, 0] rfl) hV
def D_X9_setsSeats_66 (N : Nat)  (k24 : (Nat → Nat → Int32) → Int32 → Int32 → Int32 → Option (Int32 × (Nat → Nat → Int32))) (M : Nat → Nat → Int32) (v1 : Int32) (v2 : Int32) (v3 : Int32) : Option (Int32 × (Nat → Nat → Int32)) := ((F_X9_isRefused N M (0 : Int32) (9 : Int32) v3).bind (fun r6 => (if r6.1 = 0 then (k24 r6.2 v1 v2 (v3 + 1)) else (some ((4 : Int32), r6.2)))))
set_option maxHeartbeats 4000000 in
set_option maxRecDepth 100000 in
theorem B_X9_setsSeats_66 {p : Program} {l : Launch} {e : Env} {s : State} {m : MethodId} {args : Array Value} {below : List Frame} {meth : Method} {c : Code} {D : va_G} {G : Nat → ClassId} {A : Nat → Prop} (C : Cx p s m args meth c cX9_setsSeats 4 RX9 (some .int) D G) (hA : ∀ q : Nat, s.heap.size ≤ q → A q) (N : Nat) (a : Nat → Nat) (r : (Int32 × (Nat → Nat → Int32))) (k24 : (Nat → Nat → Int32) → Int32 → Int32 → Int32 → Option (Int32 × (Nat → Nat → Int32))) (hk24 : (∀ (M : Nat → Nat → Int32) (v1 : Int32) (v2 : Int32) (v3 : Int32) (ls : Array Slot) (H : Heap) (locs : List Loc), va_P D vwCl (wM a G M) H → va_D A (wM a G M) → va_S A s.heap H locs → lv_has ls 4 [(0, .ref (a 0)), (1, .int v1), (2, .int v2), (3, .int v3)] → k24 M v1 v2 v3 = some r → W p l e ({ frames := 4, cells := 0, slots := 0, locals := 88 } : Room) s m args below meth c H locs 0 0 (MQ below (mQ D (wM a G r.2) (some (.int r.1)) A) args s 0 0 A) (F0 m 24 ls []))) : (∀ (M : Nat → Nat → Int32) (v1 : Int32) (v2 : Int32) (v3 : Int32) (ls : Array Slot) (H : Heap) (locs : List Loc), va_P D vwCl (wM a G M) H → va_D A (wM a G M) → va_S A s.heap H locs → lv_has ls 4 [(0, .ref (a 0)), (1, .int v1), (2, .int v2), (3, .int v3)] → D_X9_setsSeats_66 N  k24 M v1 v2 v3 = some r → W p l e ({ frames := 4, cells := 0, slots := 0, locals := 88 } : Room) s m args below meth c H locs 0 0 (MQ below (mQ D (wM a G r.2) (some (.int r.1)) A) args s 0 0 A) (F0 m 66 ls [.ref (a 0)])) := by
  have C := C
  obtain ⟨hx, hb, hr, hml, hts, hown, hlocks, hK0⟩ := id C
  have hK := hK0.1
  intro M v1 v2 v3 ls H locs hP hD hS hl hV
  rw [D_X9_setsSeats_66] at hV
  refine lv_iconst (v := 0) hx hb dX9_setsSeats_66 (by decide) ?_
  refine lv_bipush (v := 9) hx hb dX9_setsSeats_67 (by decide) ?_
  refine lv_iload_n hx hb dX9_setsSeats_69 rfl (lv_at hl 3 rfl) ?_
  obtain ⟨r6, hr6, hV⟩ := jBind hV
  refine jVmI C dX9_setsSeats_70 (k_X9_isRefused l D G a N M (0 : Int32) (9 : Int32) v3 r6 hr6) jy_X9_isRefused jq_13_20 jq_13_21 jq_13_22 ⟨rfl, rfl, Nat.le_of_ble_eq_true rfl, Nat.le_of_ble_eq_true rfl⟩ ⟨Nat.le_of_ble_eq_true rfl, Nat.le_of_ble_eq_true rfl⟩ hP hD hA hS (ci := 11) (iw := 0) rfl rfl rfl hl (rest := []) rfl (Nat.le_of_ble_eq_true rfl) (fun H locs hQ hz hkp hS => ?_)
  have hP : va_P D vwCl (wM a G r6.2) H := hQ
  have hD : va_D A (wM a G r6.2) := jD (w := (wM a G M)) rfl hD
  refine lv_if_eq (tgt := 78) hx hb dX9_setsSeats_73 (by decide) (fun c7 => ?_) (fun c7 => ?_)
  · have hV := jT1 hV c7
    refine lv_iinc (v := (v3 + 1)) (lv' := [(3, .int (v3 + 1)), (0, .ref (a 0)), (1, .int v1), (2, .int v2)]) hx hb dX9_setsSeats_78 hl (k := 3) rfl rfl (by decide) rfl (fun ls hl => ?_)
    refine lv_goto (tgt := 24) hx hb dX9_setsSeats_81 (by decide) ?_
    exact hk24 r6.2 v1 v2 (v3 + 1) _ _ _ hP hD hS (lv_sub hl [1, 2, 3, 0] rfl) hV
  · have hV := jF1 hV c7
    refine lv_iconst (v := 4) hx hb dX9_setsSeats_76 (by decide) ?_
    cases hV
    exact mRet C rfl dX9_setsSeats_77 rfl rfl hP hS
def D_X9_setsSeats_24 (N : Nat)  : Nat → (Nat → Nat → Int32) → Int32 → Int32 → Int32 → Option (Int32 × (Nat → Nat → Int32))
  | 0, _, _, _, _ => none
  | n + 1, M, v1, v2, v3 => (if inb (38 : Int32) 2169 = true then (if ((M 1) (38 : Int32).toNatClampNeg) ≤ v3 then (if inb ((0 : Int32) + v1) 2169 = true then (jlet (stF M 6 ((M 1) ((0 : Int32) + v1).toNatClampNeg)) (fun M10 => (if inb ((0 : Int32) + v1) 2169 = true then (jlet (stA M10 1 ((0 : Int32) + v1) v2) (fun M12 => (D_X9_setsSeats_107 N   N M12 v1 (0 : Int32)))) else none))) else none) else ((F_X9_p N M v3 (1 : Int32)).bind (fun r15 => (if r15 = v1 then ((F_X9_p N M v3 (3 : Int32)).bind (fun r16 => ((F_X9_heldAt N M v3).bind (fun r17 => (if (r16 + r17) ≤ v2 then (D_X9_setsSeats_66 N  (D_X9_setsSeats_24 N   n) M v1 v2 v3) else ((F_X9_isRefused N M (1 : Int32) (9 : Int32) v3).bind (fun r18 => (if r18.1 = 0 then (D_X9_setsSeats_24 N   n r18.2 v1 v2 (v3 + 1)) else (some ((4 : Int32), r18.2)))))))))) else (D_X9_setsSeats_66 N  (D_X9_setsSeats_24 N   n) M v1 v2 v3))))) else none)
set_option maxHeartbeats 4000000 in
set_option maxRecDepth 100000 in
theorem B_X9_setsSeats_24 {p : Program} {l : Launch} {e : Env} {s : State} {m : MethodId} {args : Array Value} {below : List Frame} {meth : Method} {c : Code} {D : va_G} {G : Nat → ClassId} {A : Nat → Prop} (C : Cx p s m args meth c cX9_setsSeats 4 RX9 (some .int) D G) (hA : ∀ q : Nat, s.heap.size ≤ q → A q) (N : Nat) (a : Nat → Nat) (r : (Int32 × (Nat → Nat → Int32))) : (∀ (n : Nat) (M : Nat → Nat → Int32) (v1 : Int32) (v2 : Int32) (v3 : Int32) (ls : Array Slot) (H : Heap) (locs : List Loc), va_P D vwCl (wM a G M) H → va_D A (wM a G M) → va_S A s.heap H locs → lv_has ls 4 [(0, .ref (a 0)), (1, .int v1), (2, .int v2), (3, .int v3)] → D_X9_setsSeats_24 N   n M v1 v2 v3 = some r → W p l e ({ frames := 4, cells := 0, slots := 0, locals := 88 } : Room) s m args below meth c H locs 0 0 (MQ below (mQ D (wM a G r.2) (some (.int r.1)) A) args s 0 0 A) (F0 m 24 ls [])) := by
  have C := C
  obtain ⟨hx, hb, hr, hml, hts, hown, hlocks, hK0⟩ := id C
  have hK := hK0.1
  intro n
  induction n with
  | zero =>
    intro M v1 v2 v3 ls H locs hP hD hS hl hV
    rw [D_X9_setsSeats_24] at hV
    cases hV
  | succ n ih =>
    intro M v1 v2 v3 ls H locs hP hD hS hl hV
    rw [D_X9_setsSeats_24] at hV
    refine lv_iload_n hx hb dX9_setsSeats_24 rfl (lv_at hl 3 rfl) ?_
    refine lv_aload_n hx hb dX9_setsSeats_25 rfl (lv_at hl 0 rfl) ?_
    refine va_get (D := D) (ci := 11) (v := .ref (a 1)) (C := RX9) (T := TX9) (N := 16) hx hb hts ju_X9 hown hK hP 0 rfl rfl 1 (by decide) (hts _ jq_6_1) (fun _ h9 => h9) rfl dX9_setsSeats_26 ?_
    refine lv_bipush (v := 38) hx hb dX9_setsSeats_29 (by decide) ?_
    obtain ⟨g8, hV⟩ := jIf hV
    refine va_iald (D := D) (n := 2169) (f := (M 1)) hx hb hK hP 1 0 rfl rfl (inb_of g8) dX9_setsSeats_31 ?_
    refine lv_icmp_ge (tgt := 84) hx hb dX9_setsSeats_32 (by decide) (fun c22 => ?_) (fun c22 => ?_)
    · have hV := jT1 hV c22
      refine lv_aload_n hx hb dX9_setsSeats_84 rfl (lv_at hl 0 rfl) ?_
      refine lv_aload_n hx hb dX9_setsSeats_85 rfl (lv_at hl 0 rfl) ?_
      refine va_get (D := D) (ci := 11) (v := .ref (a 1)) (C := RX9) (T := TX9) (N := 16) hx hb hts ju_X9 hown hK hP 0 rfl rfl 1 (by decide) (hts _ jq_6_1) (fun _ h9 => h9) rfl dX9_setsSeats_86 ?_
      refine lv_iconst (v := 0) hx hb dX9_setsSeats_89 (by decide) ?_
      refine lv_iload_n hx hb dX9_setsSeats_90 rfl (lv_at hl 1 rfl) ?_
      refine lv_iadd hx hb dX9_setsSeats_91 ?_
      obtain ⟨g9, hV⟩ := jIf hV
      refine va_iald (D := D) (n := 2169) (f := (M 1)) hx hb hK hP 1 0 rfl rfl (inb_of g9) dX9_setsSeats_92 ?_
      refine va_put (D := D) (ci := 11) (v := .int ((M 1) ((0 : Int32) + v1).toNatClampNeg)) (ty := .int) (C := RX9) (T := TX9) (N := 16) hx hb hts ju_X9 tyX9 tyX9_ok nmX9 hown hK hP hD hS 0 rfl rfl 6 (by decide) (hts _ jq_12_21) (fun _ h9 => h9) rfl (by decide +kernel) rfl rfl (Nat.le_of_ble_eq_true rfl) dX9_setsSeats_93 (fun H locs hP hD hS => ?_)
      obtain ⟨M10, e14, hV⟩ := jLet hV
      have hP : va_P D vwCl (wM a G M10) H := by rw [e14]; exact hP
      have hD : va_D A (wM a G M10) := by rw [e14]; exact hD
      refine lv_aload_n hx hb dX9_setsSeats_96 rfl (lv_at hl 0 rfl) ?_
      refine va_get (D := D) (ci := 11) (v := .ref (a 1)) (C := RX9) (T := TX9) (N := 16) hx hb hts ju_X9 hown hK hP 0 rfl rfl 1 (by decide) (hts _ jq_6_1) (fun _ h9 => h9) rfl dX9_setsSeats_97 ?_
      refine lv_iconst (v := 0) hx hb dX9_setsSeats_100 (by decide) ?_
      refine lv_iload_n hx hb dX9_setsSeats_101 rfl (lv_at hl 1 rfl) ?_
      refine lv_iadd hx hb dX9_setsSeats_102 ?_
      refine lv_iload_n hx hb dX9_setsSeats_103 rfl (lv_at hl 2 rfl) ?_
      obtain ⟨g11, hV⟩ := jIf hV
      refine va_iast (D := D) (n := 2169) (f := (M10 1)) hx hb hK hP hD hS 1 0 rfl rfl (inb_of g11) dX9_setsSeats_104 (fun H locs hP hD hS => ?_)
      obtain ⟨M12, e13, hV⟩ := jLet hV
      have hP : va_P D vwCl (wM a G M12) H := by rw [e13]; exact hP
      have hD : va_D A (wM a G M12) := by rw [e13]; exact hD
      refine lv_iconst (v := 0) hx hb dX9_setsSeats_105 (by decide) ?_
      refine lv_istore_n (lv' := [(3, .int (0 : Int32)), (0, .ref (a 0)), (1, .int v1), (2, .int v2)]) hx hb dX9_setsSeats_106 rfl hl (by decide) rfl (fun ls hl => ?_)
      exact B_X9_setsSeats_107 C hA N a r   N M12 v1 (0 : Int32) _ _ _ hP hD hS (lv_sub hl [1, 2, 0] rfl) hV
    · have hV := jF1 hV c22
      refine lv_aload_n hx hb dX9_setsSeats_35 rfl (lv_at hl 0 rfl) ?_
      refine lv_aload_n hx hb dX9_setsSeats_36 rfl (lv_at hl 0 rfl) ?_
      refine lv_iload_n hx hb dX9_setsSeats_37 rfl (lv_at hl 3 rfl) ?_
      refine lv_iconst (v := 1) hx hb dX9_setsSeats_38 (by decide) ?_
      obtain ⟨r15, hr15, hV⟩ := jBind hV
      refine jVpI C dX9_setsSeats_39 (k_X9_p l D G a N M v3 (1 : Int32) r15 hr15) jy_X9_p jq_13_4 jq_13_5 jq_13_6 ⟨rfl, rfl, Nat.le_of_ble_eq_true rfl, Nat.le_of_ble_eq_true rfl⟩ ⟨Nat.le_of_ble_eq_true rfl, Nat.le_of_ble_eq_true rfl⟩ hP  (ci := 11) (iw := 0) rfl rfl rfl hl (rest := [.ref (a 0)]) rfl (Nat.le_of_ble_eq_true rfl) ?_
      refine lv_iload_n hx hb dX9_setsSeats_42 rfl (lv_at hl 1 rfl) ?_
      refine lv_icmp_ne (tgt := 66) hx hb dX9_setsSeats_43 (by decide) (fun c21 => ?_) (fun c21 => ?_)
      · have hV := jF1 hV c21
        exact B_X9_setsSeats_66 C hA N a r (D_X9_setsSeats_24 N   n) ih M v1 v2 v3 _ _ _ hP hD hS (lv_sub hl [0, 1, 2, 3] rfl) hV
      · have hV := jT1 hV c21
        refine lv_aload_n hx hb dX9_setsSeats_46 rfl (lv_at hl 0 rfl) ?_
        refine lv_iload_n hx hb dX9_setsSeats_47 rfl (lv_at hl 3 rfl) ?_
        refine lv_iconst (v := 3) hx hb dX9_setsSeats_48 (by decide) ?_
        obtain ⟨r16, hr16, hV⟩ := jBind hV
        refine jVpI C dX9_setsSeats_49 (k_X9_p l D G a N M v3 (3 : Int32) r16 hr16) jy_X9_p jq_13_4 jq_13_5 jq_13_6 ⟨rfl, rfl, Nat.le_of_ble_eq_true rfl, Nat.le_of_ble_eq_true rfl⟩ ⟨Nat.le_of_ble_eq_true rfl, Nat.le_of_ble_eq_true rfl⟩ hP  (ci := 11) (iw := 0) rfl rfl rfl hl (rest := [.ref (a 0)]) rfl (Nat.le_of_ble_eq_true rfl) ?_
        refine lv_aload_n hx hb dX9_setsSeats_52 rfl (lv_at hl 0 rfl) ?_
        refine lv_iload_n hx hb dX9_setsSeats_53 rfl (lv_at hl 3 rfl) ?_
        obtain ⟨r17, hr17, hV⟩ := jBind hV
        refine jVpI C dX9_setsSeats_54 (k_X9_heldAt l D G a N M v3 r17 hr17) jy_X9_heldAt jq_13_8 jq_13_9 jq_13_10 ⟨rfl, rfl, Nat.le_of_ble_eq_true rfl, Nat.le_of_ble_eq_true rfl⟩ ⟨Nat.le_of_ble_eq_true rfl, Nat.le_of_ble_eq_true rfl⟩ hP  (ci := 11) (iw := 0) rfl rfl rfl hl (rest := [.int r16, .ref (a 0)]) rfl (Nat.le_of_ble_eq_true rfl) ?_
        refine lv_iadd hx hb dX9_setsSeats_57 ?_
        refine lv_iload_n hx hb dX9_setsSeats_58 rfl (lv_at hl 2 rfl) ?_
        refine lv_icmp_le (tgt := 66) hx hb dX9_setsSeats_59 (by decide) (fun c20 => ?_) (fun c20 => ?_)
        · have hV := jT1 hV c20
          exact B_X9_setsSeats_66 C hA N a r (D_X9_setsSeats_24 N   n) ih M v1 v2 v3 _ _ _ hP hD hS (lv_sub hl [0, 1, 2, 3] rfl) hV
        · have hV := jF1 hV c20
          refine lv_iconst (v := 1) hx hb dX9_setsSeats_62 (by decide) ?_
          refine lv_goto (tgt := 67) hx hb dX9_setsSeats_63 (by decide) ?_
          refine lv_bipush (v := 9) hx hb dX9_setsSeats_67 (by decide) ?_
          refine lv_iload_n hx hb dX9_setsSeats_69 rfl (lv_at hl 3 rfl) ?_
          obtain ⟨r18, hr18, hV⟩ := jBind hV
          refine jVmI C dX9_setsSeats_70 (k_X9_isRefused l D G a N M (1 : Int32) (9 : Int32) v3 r18 hr18) jy_X9_isRefused jq_13_20 jq_13_21 jq_13_22 ⟨rfl, rfl, Nat.le_of_ble_eq_true rfl, Nat.le_of_ble_eq_true rfl⟩ ⟨Nat.le_of_ble_eq_true rfl, Nat.le_of_ble_eq_true rfl⟩ hP hD hA hS (ci := 11) (iw := 0) rfl rfl rfl hl (rest := []) rfl (Nat.le_of_ble_eq_true rfl) (fun H locs hQ hz hkp hS => ?_)
          have hP : va_P D vwCl (wM a G r18.2) H := hQ
          have hD : va_D A (wM a G r18.2) := jD (w := (wM a G M)) rfl hD
          refine lv_if_eq (tgt := 78) hx hb dX9_setsSeats_73 (by decide) (fun c19 => ?_) (fun c19 => ?_)
          · have hV := jT1 hV c19
            refine lv_iinc (v := (v3 + 1)) (lv' := [(3, .int (v3 + 1)), (0, .ref (a 0)), (1, .int v1), (2, .int v2)]) hx hb dX9_setsSeats_78 hl (k := 3) rfl rfl (by decide) rfl (fun ls hl => ?_)
            refine lv_goto (tgt := 24) hx hb dX9_setsSeats_81 (by decide) ?_
            exact ih r18.2 v1 v2 (v3 + 1) _ _ _ hP hD hS (lv_sub hl [1, 2, 3, 0] rfl) hV
          · have hV := jF1 hV c19
            refine lv_iconst (v := 4) hx hb dX9_setsSeats_76 (by decide) ?_
            cases hV
            exact mRet C rfl dX9_setsSeats_77 rfl rfl hP hS
def F_X9_setsSeats (N : Nat)  (M : Nat → Nat → Int32) (v1 v2 : Int32) : Option (Int32 × (Nat → Nat → Int32)) := ((F_X9_isStage N  v1).bind (fun r23 => (if r23 = 0 then (some ((1 : Int32), M)) else ((F_X9_in N  v2 (10 : Int32) (99 : Int32)).bind (fun r24 => (if r24 = 0 then (some ((2 : Int32), M)) else (D_X9_setsSeats_24 N   N M v1 v2 (0 : Int32))))))))
set_option maxHeartbeats 4000000 in
set_option maxRecDepth 100000 in
theorem k_X9_setsSeats (l : Launch) (D : va_G) (G : Nat → ClassId) (a : Nat → Nat) (N : Nat) (M : Nat → Nat → Int32) (v1 v2 : Int32) (r : (Int32 × (Nat → Nat → Int32))) (hV : F_X9_setsSeats N  M v1 v2 = some r) : mM l yX9_setsSeats (jws yX9_setsSeats cX9_setsSeats 4 (some .int)) ({ frames := 4, cells := 0, slots := 0, locals := 88 } : Room) [.ref (a 0), .int v1, .int v2] D G (wM a G M) (wM a G r.2) (some (.int r.1)) := by
  refine mM_of (by decide +kernel) (Nat.le_of_ble_eq_true rfl) (fun p e s m args below meth c ls A C hP hD hA hl => ?_)
  have C : Cx p s m args meth c cX9_setsSeats 4 RX9 (some .int) D G := C
  have hS : va_S A s.heap s.heap [] := va_S.rf
  obtain ⟨hx, hb, hr, hml, hts, hown, hlocks, hK0⟩ := id C
  have hK := hK0.1
  have hl : lv_has ls 4 [(0, .ref (a 0)), (1, .int v1), (2, .int v2)] := hl
  rw [F_X9_setsSeats] at hV
  refine lv_iload_n hx hb dX9_setsSeats_0 rfl (lv_at hl 1 rfl) ?_
  obtain ⟨r23, hr23, hV⟩ := jBind hV
  refine jSpI C dX9_setsSeats_1 (k_X9_isStage l D G  N  v1 r23 hr23) jy_X9_isStage jq_12_22 jq_12_23 ⟨rfl, rfl, Nat.le_of_ble_eq_true rfl, Nat.le_of_ble_eq_true rfl⟩ ⟨Nat.le_of_ble_eq_true rfl, Nat.le_of_ble_eq_true rfl⟩ jE  hl (rest := []) rfl (Nat.le_of_ble_eq_true rfl) ?_
  refine lv_if_ne (tgt := 9) hx hb dX9_setsSeats_4 (by decide) (fun c26 => ?_) (fun c26 => ?_)
  · have hV := jF1 hV c26
    refine lv_iload_n hx hb dX9_setsSeats_9 rfl (lv_at hl 2 rfl) ?_
    refine lv_bipush (v := 10) hx hb dX9_setsSeats_10 (by decide) ?_
    refine lv_bipush (v := 99) hx hb dX9_setsSeats_12 (by decide) ?_
    obtain ⟨r24, hr24, hV⟩ := jBind hV
    refine jSpI C dX9_setsSeats_14 (k_X9_in l D G  N  v2 (10 : Int32) (99 : Int32) r24 hr24) jy_X9_in jq_13_1 jq_13_2 ⟨rfl, rfl, Nat.le_of_ble_eq_true rfl, Nat.le_of_ble_eq_true rfl⟩ ⟨Nat.le_of_ble_eq_true rfl, Nat.le_of_ble_eq_true rfl⟩ jE  hl (rest := []) rfl (Nat.le_of_ble_eq_true rfl) ?_
    refine lv_if_ne (tgt := 22) hx hb dX9_setsSeats_17 (by decide) (fun c25 => ?_) (fun c25 => ?_)
    · have hV := jF1 hV c25
      refine lv_iconst (v := 0) hx hb dX9_setsSeats_22 (by decide) ?_
      refine lv_istore_n (lv' := [(3, .int (0 : Int32)), (0, .ref (a 0)), (1, .int v1), (2, .int v2)]) hx hb dX9_setsSeats_23 rfl hl (by decide) rfl (fun ls hl => ?_)
      exact B_X9_setsSeats_24 C hA N a r   N M v1 v2 (0 : Int32) _ _ _ hP hD hS (lv_sub hl [1, 2, 3, 0] rfl) hV
    · have hV := jT1 hV c25
      refine lv_iconst (v := 2) hx hb dX9_setsSeats_20 (by decide) ?_
      cases hV
      exact mRet C rfl dX9_setsSeats_21 rfl rfl hP hS
  · have hV := jT1 hV c26
    refine lv_iconst (v := 1) hx hb dX9_setsSeats_7 (by decide) ?_
    cases hV
    exact mRet C rfl dX9_setsSeats_8 rfl rfl hP hS
theorem jy_X9_setSeats : jY yX9_setSeats cX9_setSeats 3 (some .int) 2 := ⟨by decide +kernel, jq_12_8, jq_1_5⟩
def F_X9_setSeats (N : Nat)  (M : Nat → Nat → Int32) (v1 v2 : Int32) : Option (Int32 × (Nat → Nat → Int32)) := ((F_X9_begins N M ).bind (fun r1 => ((F_X9_setsSeats N r1 v1 v2).bind (fun r2 => ((F_X9_ends N r2.2 r2.1 (2 : Int32) (0 : Int32) (3 : Int32)).bind (fun r3 => (some (r3.1, r3.2))))))))
set_option maxHeartbeats 4000000 in
set_option maxRecDepth 100000 in
theorem k_X9_setSeats (l : Launch) (D : va_G) (G : Nat → ClassId) (a : Nat → Nat) (N : Nat) (M : Nat → Nat → Int32) (v1 v2 : Int32) (r : (Int32 × (Nat → Nat → Int32))) (hV : F_X9_setSeats N  M v1 v2 = some r) : mM l yX9_setSeats (jws yX9_setSeats cX9_setSeats 3 (some .int)) ({ frames := 5, cells := 0, slots := 0, locals := 111 } : Room) [.ref (a 0), .int v1, .int v2] D G (wM a G M) (wM a G r.2) (some (.int r.1)) := by
  refine mM_of (by decide +kernel) (Nat.le_of_ble_eq_true rfl) (fun p e s m args below meth c ls A C hP hD hA hl => ?_)
  have C : Cx p s m args meth c cX9_setSeats 3 RX9 (some .int) D G := C
  have hS : va_S A s.heap s.heap [] := va_S.rf
  obtain ⟨hx, hb, hr, hml, hts, hown, hlocks, hK0⟩ := id C
  have hK := hK0.1
  have hl : lv_has ls 3 [(0, .ref (a 0)), (1, .int v1), (2, .int v2)] := hl
  rw [F_X9_setSeats] at hV
  refine lv_aload_n hx hb dX9_setSeats_0 rfl (lv_at hl 0 rfl) ?_
  obtain ⟨r1, hr1, hV⟩ := jBind hV
  refine jVmV C dX9_setSeats_1 (k_X9_begins l D G a N M  r1 hr1) jy_X9_begins jq_12_9 jq_12_10 jq_12_11 ⟨rfl, rfl, Nat.le_of_ble_eq_true rfl, Nat.le_of_ble_eq_true rfl⟩ ⟨Nat.le_of_ble_eq_true rfl, Nat.le_of_ble_eq_true rfl⟩ hP hD hA hS (ci := 11) (iw := 0) rfl rfl rfl hl (rest := []) rfl (Nat.le_of_ble_eq_true rfl) (fun H locs hQ hz hkp hS => ?_)
  have hP : va_P D vwCl (wM a G r1) H := hQ
  have hD : va_D A (wM a G r1) := jD (w := (wM a G M)) rfl hD
  refine lv_aload_n hx hb dX9_setSeats_4 rfl (lv_at hl 0 rfl) ?_
  refine lv_aload_n hx hb dX9_setSeats_5 rfl (lv_at hl 0 rfl) ?_
  refine lv_iload_n hx hb dX9_setSeats_6 rfl (lv_at hl 1 rfl) ?_
  refine lv_iload_n hx hb dX9_setSeats_7 rfl (lv_at hl 2 rfl) ?_
  obtain ⟨r2, hr2, hV⟩ := jBind hV
  refine jVmI C dX9_setSeats_8 (k_X9_setsSeats l D G a N r1 v1 v2 r2 hr2) jy_X9_setsSeats jq_12_17 jq_12_18 jq_12_19 ⟨rfl, rfl, Nat.le_of_ble_eq_true rfl, Nat.le_of_ble_eq_true rfl⟩ ⟨Nat.le_of_ble_eq_true rfl, Nat.le_of_ble_eq_true rfl⟩ hP hD hA hS (ci := 11) (iw := 0) rfl rfl rfl hl (rest := [.ref (a 0)]) rfl (Nat.le_of_ble_eq_true rfl) (fun H locs hQ hz hkp hS => ?_)
  have hP : va_P D vwCl (wM a G r2.2) H := hQ
  have hD : va_D A (wM a G r2.2) := jD (w := (wM a G r1)) rfl hD
  refine lv_iconst (v := 2) hx hb dX9_setSeats_11 (by decide) ?_
  refine lv_iconst (v := 0) hx hb dX9_setSeats_12 (by decide) ?_
  refine lv_iconst (v := 3) hx hb dX9_setSeats_13 (by decide) ?_
  obtain ⟨r3, hr3, hV⟩ := jBind hV
  refine jVmI C dX9_setSeats_14 (k_X9_ends l D G a N r2.2 r2.1 (2 : Int32) (0 : Int32) (3 : Int32) r3 hr3) jy_X9_ends jq_14_22 jq_14_23 jq_15_0 ⟨rfl, rfl, Nat.le_of_ble_eq_true rfl, Nat.le_of_ble_eq_true rfl⟩ ⟨Nat.le_of_ble_eq_true rfl, Nat.le_of_ble_eq_true rfl⟩ hP hD hA hS (ci := 11) (iw := 0) rfl rfl rfl hl (rest := []) rfl (Nat.le_of_ble_eq_true rfl) (fun H locs hQ hz hkp hS => ?_)
  have hP : va_P D vwCl (wM a G r3.2) H := hQ
  have hD : va_D A (wM a G r3.2) := jD (w := (wM a G r2.2)) rfl hD
  cases hV
  exact mRet C rfl dX9_setSeats_17 rfl rfl hP hS
theorem jy_X9_sets : jY yX9_sets cX9_sets 5 (some .int) 4 := ⟨by decide +kernel, jq_16_17, jq_1_5⟩
def F_X9_sets (N : Nat)  (M : Nat → Nat → Int32) (v1 v2 v3 v4 : Int32) : Option (Int32 × (Nat → Nat → Int32)) := ((F_X9_in N  v2 v3 v4).bind (fun r1 => (if r1 = 0 then (some ((2 : Int32), M)) else (if inb v1 2169 = true then (jlet (stF M 6 ((M 1) v1.toNatClampNeg)) (fun M3 => (if inb v1 2169 = true then (jlet (stA M3 1 v1 v2) (fun M5 => (if v1 = (3 : Int32) then ((F_X9_lacksStaff N M5 ).bind (fun r9 => ((F_X9_isHindered N r9.2 r9.1).bind (fun r10 => (if r10.1 = 0 then (some ((0 : Int32), r10.2)) else (some ((4 : Int32), r10.2))))))) else ((F_X9_lacksRoom N M5 ).bind (fun r6 => ((F_X9_isHindered N r6.2 r6.1).bind (fun r7 => (if r7.1 = 0 then (some ((0 : Int32), r7.2)) else (some ((4 : Int32), r7.2)))))))))) else none))) else none))))
set_option maxHeartbeats 4000000 in
set_option maxRecDepth 100000 in
theorem k_X9_sets (l : Launch) (D : va_G) (G : Nat → ClassId) (a : Nat → Nat) (N : Nat) (M : Nat → Nat → Int32) (v1 v2 v3 v4 : Int32) (r : (Int32 × (Nat → Nat → Int32))) (hV : F_X9_sets N  M v1 v2 v3 v4 = some r) : mM l yX9_sets (jws yX9_sets cX9_sets 5 (some .int)) ({ frames := 4, cells := 0, slots := 0, locals := 90 } : Room) [.ref (a 0), .int v1, .int v2, .int v3, .int v4] D G (wM a G M) (wM a G r.2) (some (.int r.1)) := by
  refine mM_of (by decide +kernel) (Nat.le_of_ble_eq_true rfl) (fun p e s m args below meth c ls A C hP hD hA hl => ?_)
  have C : Cx p s m args meth c cX9_sets 5 RX9 (some .int) D G := C
  have hS : va_S A s.heap s.heap [] := va_S.rf
  obtain ⟨hx, hb, hr, hml, hts, hown, hlocks, hK0⟩ := id C
  have hK := hK0.1
  have hl : lv_has ls 5 [(0, .ref (a 0)), (1, .int v1), (2, .int v2), (3, .int v3), (4, .int v4)] := hl
  rw [F_X9_sets] at hV
  refine lv_iload_n hx hb dX9_sets_0 rfl (lv_at hl 2 rfl) ?_
  refine lv_iload_n hx hb dX9_sets_1 rfl (lv_at hl 3 rfl) ?_
  refine lv_iload hx hb dX9_sets_2 (lv_at hl 4 rfl) ?_
  obtain ⟨r1, hr1, hV⟩ := jBind hV
  refine jSpI C dX9_sets_4 (k_X9_in l D G  N  v2 v3 v4 r1 hr1) jy_X9_in jq_13_1 jq_13_2 ⟨rfl, rfl, Nat.le_of_ble_eq_true rfl, Nat.le_of_ble_eq_true rfl⟩ ⟨Nat.le_of_ble_eq_true rfl, Nat.le_of_ble_eq_true rfl⟩ jE  hl (rest := []) rfl (Nat.le_of_ble_eq_true rfl) ?_
  refine lv_if_ne (tgt := 12) hx hb dX9_sets_7 (by decide) (fun c15 => ?_) (fun c15 => ?_)
  · have hV := jF1 hV c15
    refine lv_aload_n hx hb dX9_sets_12 rfl (lv_at hl 0 rfl) ?_
    refine lv_aload_n hx hb dX9_sets_13 rfl (lv_at hl 0 rfl) ?_
    refine va_get (D := D) (ci := 11) (v := .ref (a 1)) (C := RX9) (T := TX9) (N := 16) hx hb hts ju_X9 hown hK hP 0 rfl rfl 1 (by decide) (hts _ jq_6_1) (fun _ h9 => h9) rfl dX9_sets_14 ?_
    refine lv_iload_n hx hb dX9_sets_17 rfl (lv_at hl 1 rfl) ?_
    obtain ⟨g2, hV⟩ := jIf hV
    refine va_iald (D := D) (n := 2169) (f := (M 1)) hx hb hK hP 1 0 rfl rfl (inb_of g2) dX9_sets_18 ?_
    refine va_put (D := D) (ci := 11) (v := .int ((M 1) v1.toNatClampNeg)) (ty := .int) (C := RX9) (T := TX9) (N := 16) hx hb hts ju_X9 tyX9 tyX9_ok nmX9 hown hK hP hD hS 0 rfl rfl 6 (by decide) (hts _ jq_12_21) (fun _ h9 => h9) rfl (by decide +kernel) rfl rfl (Nat.le_of_ble_eq_true rfl) dX9_sets_19 (fun H locs hP hD hS => ?_)
    obtain ⟨M3, e14, hV⟩ := jLet hV
    have hP : va_P D vwCl (wM a G M3) H := by rw [e14]; exact hP
    have hD : va_D A (wM a G M3) := by rw [e14]; exact hD
    refine lv_aload_n hx hb dX9_sets_22 rfl (lv_at hl 0 rfl) ?_
    refine va_get (D := D) (ci := 11) (v := .ref (a 1)) (C := RX9) (T := TX9) (N := 16) hx hb hts ju_X9 hown hK hP 0 rfl rfl 1 (by decide) (hts _ jq_6_1) (fun _ h9 => h9) rfl dX9_sets_23 ?_
    refine lv_iload_n hx hb dX9_sets_26 rfl (lv_at hl 1 rfl) ?_
    refine lv_iload_n hx hb dX9_sets_27 rfl (lv_at hl 2 rfl) ?_
    obtain ⟨g4, hV⟩ := jIf hV
    refine va_iast (D := D) (n := 2169) (f := (M3 1)) hx hb hK hP hD hS 1 0 rfl rfl (inb_of g4) dX9_sets_28 (fun H locs hP hD hS => ?_)
    obtain ⟨M5, e13, hV⟩ := jLet hV
    have hP : va_P D vwCl (wM a G M5) H := by rw [e13]; exact hP
    have hD : va_D A (wM a G M5) := by rw [e13]; exact hD
    refine lv_aload_n hx hb dX9_sets_29 rfl (lv_at hl 0 rfl) ?_
    refine lv_iload_n hx hb dX9_sets_30 rfl (lv_at hl 1 rfl) ?_
    refine lv_iconst (v := 3) hx hb dX9_sets_31 (by decide) ?_
    refine lv_icmp_ne (tgt := 42) hx hb dX9_sets_32 (by decide) (fun c12 => ?_) (fun c12 => ?_)
    · have hV := jF1 hV c12
      refine lv_aload_n hx hb dX9_sets_42 rfl (lv_at hl 0 rfl) ?_
      obtain ⟨r6, hr6, hV⟩ := jBind hV
      refine jVmI C dX9_sets_43 (k_X9_lacksRoom l D G a N M5  r6 hr6) jy_X9_lacksRoom jq_17_12 jq_17_13 jq_17_14 ⟨rfl, rfl, Nat.le_of_ble_eq_true rfl, Nat.le_of_ble_eq_true rfl⟩ ⟨Nat.le_of_ble_eq_true rfl, Nat.le_of_ble_eq_true rfl⟩ hP hD hA hS (ci := 11) (iw := 0) rfl rfl rfl hl (rest := [.ref (a 0)]) rfl (Nat.le_of_ble_eq_true rfl) (fun H locs hQ hz hkp hS => ?_)
      have hP : va_P D vwCl (wM a G r6.2) H := hQ
      have hD : va_D A (wM a G r6.2) := jD (w := (wM a G M5)) rfl hD
      obtain ⟨r7, hr7, hV⟩ := jBind hV
      refine jVmI C dX9_sets_46 (k_X9_isHindered l D G a N r6.2 r6.1 r7 hr7) jy_X9_isHindered jq_18_8 jq_18_9 jq_18_10 ⟨rfl, rfl, Nat.le_of_ble_eq_true rfl, Nat.le_of_ble_eq_true rfl⟩ ⟨Nat.le_of_ble_eq_true rfl, Nat.le_of_ble_eq_true rfl⟩ hP hD hA hS (ci := 11) (iw := 0) rfl rfl rfl hl (rest := []) rfl (Nat.le_of_ble_eq_true rfl) (fun H locs hQ hz hkp hS => ?_)
      have hP : va_P D vwCl (wM a G r7.2) H := hQ
      have hD : va_D A (wM a G r7.2) := jD (w := (wM a G r6.2)) rfl hD
      refine lv_if_eq (tgt := 56) hx hb dX9_sets_49 (by decide) (fun c8 => ?_) (fun c8 => ?_)
      · have hV := jT1 hV c8
        refine lv_iconst (v := 0) hx hb dX9_sets_56 (by decide) ?_
        cases hV
        exact mRet C rfl dX9_sets_57 rfl rfl hP hS
      · have hV := jF1 hV c8
        refine lv_iconst (v := 4) hx hb dX9_sets_52 (by decide) ?_
        refine lv_goto (tgt := 57) hx hb dX9_sets_53 (by decide) ?_
        cases hV
        exact mRet C rfl dX9_sets_57 rfl rfl hP hS
    · have hV := jT1 hV c12
      refine lv_aload_n hx hb dX9_sets_35 rfl (lv_at hl 0 rfl) ?_
      obtain ⟨r9, hr9, hV⟩ := jBind hV
      refine jVmI C dX9_sets_36 (k_X9_lacksStaff l D G a N M5  r9 hr9) jy_X9_lacksStaff jq_16_18 jq_16_19 jq_16_20 ⟨rfl, rfl, Nat.le_of_ble_eq_true rfl, Nat.le_of_ble_eq_true rfl⟩ ⟨Nat.le_of_ble_eq_true rfl, Nat.le_of_ble_eq_true rfl⟩ hP hD hA hS (ci := 11) (iw := 0) rfl rfl rfl hl (rest := [.ref (a 0)]) rfl (Nat.le_of_ble_eq_true rfl) (fun H locs hQ hz hkp hS => ?_)
      have hP : va_P D vwCl (wM a G r9.2) H := hQ
      have hD : va_D A (wM a G r9.2) := jD (w := (wM a G M5)) rfl hD
      refine lv_goto (tgt := 46) hx hb dX9_sets_39 (by decide) ?_
      obtain ⟨r10, hr10, hV⟩ := jBind hV
      refine jVmI C dX9_sets_46 (k_X9_isHindered l D G a N r9.2 r9.1 r10 hr10) jy_X9_isHindered jq_18_8 jq_18_9 jq_18_10 ⟨rfl, rfl, Nat.le_of_ble_eq_true rfl, Nat.le_of_ble_eq_true rfl⟩ ⟨Nat.le_of_ble_eq_true rfl, Nat.le_of_ble_eq_true rfl⟩ hP hD hA hS (ci := 11) (iw := 0) rfl rfl rfl hl (rest := []) rfl (Nat.le_of_ble_eq_true rfl) (fun H locs hQ hz hkp hS => ?_)
      have hP : va_P D vwCl (wM a G r10.2) H := hQ
      have hD : va_D A (wM a G r10.2) := jD (w := (wM a G r9.2)) rfl hD
      refine lv_if_eq (tgt := 56) hx hb dX9_sets_49 (by decide) (fun c11 => ?_) (fun c11 => ?_)
      · have hV := jT1 hV c11
        refine lv_iconst (v := 0) hx hb dX9_sets_56 (by decide) ?_
        cases hV
        exact mRet C rfl dX9_sets_57 rfl rfl hP hS
      · have hV := jF1 hV c11
        refine lv_iconst (v := 4) hx hb dX9_sets_52 (by decide) ?_
        refine lv_goto (tgt := 57) hx hb dX9_sets_53 (by decide) ?_
        cases hV
        exact mRet C rfl dX9_sets_57 rfl rfl hP hS
  · have hV := jT1 hV c15
    refine lv_iconst (v := 2) hx hb dX9_sets_10 (by decide) ?_
    cases hV
    exact mRet C rfl dX9_sets_11 rfl rfl hP hS
theorem jy_X9_setStaff : jY yX9_setStaff cX9_setStaff 2 (some .int) 1 := ⟨by decide +kernel, jq_16_13, jq_1_5⟩
def F_X9_setStaff (N : Nat)  (M : Nat → Nat → Int32) (v1 : Int32) : Option (Int32 × (Nat → Nat → Int32)) := ((F_X9_begins N M ).bind (fun r1 => ((F_X9_sets N r1 (3 : Int32) v1 (1 : Int32) (20 : Int32)).bind (fun r2 => ((F_X9_ends N r2.2 r2.1 (1 : Int32) (0 : Int32) (2 : Int32)).bind (fun r3 => (some (r3.1, r3.2))))))))
set_option maxHeartbeats 4000000 in
set_option maxRecDepth 100000 in
theorem k_X9_setStaff (l : Launch) (D : va_G) (G : Nat → ClassId) (a : Nat → Nat) (N : Nat) (M : Nat → Nat → Int32) (v1 : Int32) (r : (Int32 × (Nat → Nat → Int32))) (hV : F_X9_setStaff N  M v1 = some r) : mM l yX9_setStaff (jws yX9_setStaff cX9_setStaff 2 (some .int)) ({ frames := 5, cells := 0, slots := 0, locals := 114 } : Room) [.ref (a 0), .int v1] D G (wM a G M) (wM a G r.2) (some (.int r.1)) := by
  refine mM_of (by decide +kernel) (Nat.le_of_ble_eq_true rfl) (fun p e s m args below meth c ls A C hP hD hA hl => ?_)
  have C : Cx p s m args meth c cX9_setStaff 2 RX9 (some .int) D G := C
  have hS : va_S A s.heap s.heap [] := va_S.rf
  obtain ⟨hx, hb, hr, hml, hts, hown, hlocks, hK0⟩ := id C
  have hK := hK0.1
  have hl : lv_has ls 2 [(0, .ref (a 0)), (1, .int v1)] := hl
  rw [F_X9_setStaff] at hV
  refine lv_aload_n hx hb dX9_setStaff_0 rfl (lv_at hl 0 rfl) ?_
  obtain ⟨r1, hr1, hV⟩ := jBind hV
  refine jVmV C dX9_setStaff_1 (k_X9_begins l D G a N M  r1 hr1) jy_X9_begins jq_12_9 jq_12_10 jq_12_11 ⟨rfl, rfl, Nat.le_of_ble_eq_true rfl, Nat.le_of_ble_eq_true rfl⟩ ⟨Nat.le_of_ble_eq_true rfl, Nat.le_of_ble_eq_true rfl⟩ hP hD hA hS (ci := 11) (iw := 0) rfl rfl rfl hl (rest := []) rfl (Nat.le_of_ble_eq_true rfl) (fun H locs hQ hz hkp hS => ?_)
  have hP : va_P D vwCl (wM a G r1) H := hQ
  have hD : va_D A (wM a G r1) := jD (w := (wM a G M)) rfl hD
  refine lv_aload_n hx hb dX9_setStaff_4 rfl (lv_at hl 0 rfl) ?_
  refine lv_aload_n hx hb dX9_setStaff_5 rfl (lv_at hl 0 rfl) ?_
  refine lv_iconst (v := 3) hx hb dX9_setStaff_6 (by decide) ?_
  refine lv_iload_n hx hb dX9_setStaff_7 rfl (lv_at hl 1 rfl) ?_
  refine lv_iconst (v := 1) hx hb dX9_setStaff_8 (by decide) ?_
  refine lv_bipush (v := 20) hx hb dX9_setStaff_9 (by decide) ?_
  obtain ⟨r2, hr2, hV⟩ := jBind hV
  refine jVmI C dX9_setStaff_11 (k_X9_sets l D G a N r1 (3 : Int32) v1 (1 : Int32) (20 : Int32) r2 hr2) jy_X9_sets jq_16_14 jq_16_15 jq_16_16 ⟨rfl, rfl, Nat.le_of_ble_eq_true rfl, Nat.le_of_ble_eq_true rfl⟩ ⟨Nat.le_of_ble_eq_true rfl, Nat.le_of_ble_eq_true rfl⟩ hP hD hA hS (ci := 11) (iw := 0) rfl rfl rfl hl (rest := [.ref (a 0)]) rfl (Nat.le_of_ble_eq_true rfl) (fun H locs hQ hz hkp hS => ?_)
  have hP : va_P D vwCl (wM a G r2.2) H := hQ
  have hD : va_D A (wM a G r2.2) := jD (w := (wM a G r1)) rfl hD
  refine lv_iconst (v := 1) hx hb dX9_setStaff_14 (by decide) ?_
  refine lv_iconst (v := 0) hx hb dX9_setStaff_15 (by decide) ?_
  refine lv_iconst (v := 2) hx hb dX9_setStaff_16 (by decide) ?_
  obtain ⟨r3, hr3, hV⟩ := jBind hV
  refine jVmI C dX9_setStaff_17 (k_X9_ends l D G a N r2.2 r2.1 (1 : Int32) (0 : Int32) (2 : Int32) r3 hr3) jy_X9_ends jq_14_22 jq_14_23 jq_15_0 ⟨rfl, rfl, Nat.le_of_ble_eq_true rfl, Nat.le_of_ble_eq_true rfl⟩ ⟨Nat.le_of_ble_eq_true rfl, Nat.le_of_ble_eq_true rfl⟩ hP hD hA hS (ci := 11) (iw := 0) rfl rfl rfl hl (rest := []) rfl (Nat.le_of_ble_eq_true rfl) (fun H locs hQ hz hkp hS => ?_)
  have hP : va_P D vwCl (wM a G r3.2) H := hQ
  have hD : va_D A (wM a G r3.2) := jD (w := (wM a G r2.2)) rfl hD
  cases hV
  exact mRet C rfl dX9_setStaff_20 rfl rfl hP hS
theorem jy_X9_setRoom : jY yX9_setRoom cX9_setRoom 2 (some .int) 1 := ⟨by decide +kernel, jq_19_13, jq_1_5⟩
def F_X9_setRoom (N : Nat)  (M : Nat → Nat → Int32) (v1 : Int32) : Option (Int32 × (Nat → Nat → Int32)) := ((F_X9_begins N M ).bind (fun r1 => ((F_X9_sets N r1 (4 : Int32) v1 (0 : Int32) (99 : Int32)).bind (fun r2 => ((F_X9_ends N r2.2 r2.1 (1 : Int32) (0 : Int32) (2 : Int32)).bind (fun r3 => (some (r3.1, r3.2))))))))
set_option maxHeartbeats 4000000 in
set_option maxRecDepth 100000 in
theorem k_X9_setRoom (l : Launch) (D : va_G) (G : Nat → ClassId) (a : Nat → Nat) (N : Nat) (M : Nat → Nat → Int32) (v1 : Int32) (r : (Int32 × (Nat → Nat → Int32))) (hV : F_X9_setRoom N  M v1 = some r) : mM l yX9_setRoom (jws yX9_setRoom cX9_setRoom 2 (some .int)) ({ frames := 5, cells := 0, slots := 0, locals := 114 } : Room) [.ref (a 0), .int v1] D G (wM a G M) (wM a G r.2) (some (.int r.1)) := by
  refine mM_of (by decide +kernel) (Nat.le_of_ble_eq_true rfl) (fun p e s m args below meth c ls A C hP hD hA hl => ?_)
  have C : Cx p s m args meth c cX9_setRoom 2 RX9 (some .int) D G := C
  have hS : va_S A s.heap s.heap [] := va_S.rf
  obtain ⟨hx, hb, hr, hml, hts, hown, hlocks, hK0⟩ := id C
  have hK := hK0.1
  have hl : lv_has ls 2 [(0, .ref (a 0)), (1, .int v1)] := hl
  rw [F_X9_setRoom] at hV
  refine lv_aload_n hx hb dX9_setRoom_0 rfl (lv_at hl 0 rfl) ?_
  obtain ⟨r1, hr1, hV⟩ := jBind hV
  refine jVmV C dX9_setRoom_1 (k_X9_begins l D G a N M  r1 hr1) jy_X9_begins jq_12_9 jq_12_10 jq_12_11 ⟨rfl, rfl, Nat.le_of_ble_eq_true rfl, Nat.le_of_ble_eq_true rfl⟩ ⟨Nat.le_of_ble_eq_true rfl, Nat.le_of_ble_eq_true rfl⟩ hP hD hA hS (ci := 11) (iw := 0) rfl rfl rfl hl (rest := []) rfl (Nat.le_of_ble_eq_true rfl) (fun H locs hQ hz hkp hS => ?_)
  have hP : va_P D vwCl (wM a G r1) H := hQ
  have hD : va_D A (wM a G r1) := jD (w := (wM a G M)) rfl hD
  refine lv_aload_n hx hb dX9_setRoom_4 rfl (lv_at hl 0 rfl) ?_
  refine lv_aload_n hx hb dX9_setRoom_5 rfl (lv_at hl 0 rfl) ?_
  refine lv_iconst (v := 4) hx hb dX9_setRoom_6 (by decide) ?_
  refine lv_iload_n hx hb dX9_setRoom_7 rfl (lv_at hl 1 rfl) ?_
  refine lv_iconst (v := 0) hx hb dX9_setRoom_8 (by decide) ?_
  refine lv_bipush (v := 99) hx hb dX9_setRoom_9 (by decide) ?_
  obtain ⟨r2, hr2, hV⟩ := jBind hV
  refine jVmI C dX9_setRoom_11 (k_X9_sets l D G a N r1 (4 : Int32) v1 (0 : Int32) (99 : Int32) r2 hr2) jy_X9_sets jq_16_14 jq_16_15 jq_16_16 ⟨rfl, rfl, Nat.le_of_ble_eq_true rfl, Nat.le_of_ble_eq_true rfl⟩ ⟨Nat.le_of_ble_eq_true rfl, Nat.le_of_ble_eq_true rfl⟩ hP hD hA hS (ci := 11) (iw := 0) rfl rfl rfl hl (rest := [.ref (a 0)]) rfl (Nat.le_of_ble_eq_true rfl) (fun H locs hQ hz hkp hS => ?_)
  have hP : va_P D vwCl (wM a G r2.2) H := hQ
  have hD : va_D A (wM a G r2.2) := jD (w := (wM a G r1)) rfl hD
  refine lv_iconst (v := 1) hx hb dX9_setRoom_14 (by decide) ?_
  refine lv_iconst (v := 0) hx hb dX9_setRoom_15 (by decide) ?_
  refine lv_iconst (v := 2) hx hb dX9_setRoom_16 (by decide) ?_
  obtain ⟨r3, hr3, hV⟩ := jBind hV
  refine jVmI C dX9_setRoom_17 (k_X9_ends l D G a N r2.2 r2.1 (1 : Int32) (0 : Int32) (2 : Int32) r3 hr3) jy_X9_ends jq_14_22 jq_14_23 jq_15_0 ⟨rfl, rfl, Nat.le_of_ble_eq_true rfl, Nat.le_of_ble_eq_true rfl⟩ ⟨Nat.le_of_ble_eq_true rfl, Nat.le_of_ble_eq_true rfl⟩ hP hD hA hS (ci := 11) (iw := 0) rfl rfl rfl hl (rest := []) rfl (Nat.le_of_ble_eq_true rfl) (fun H locs hQ hz hkp hS => ?_)
  have hP : va_P D vwCl (wM a G r3.2) H := hQ
  have hD : va_D A (wM a G r3.2) := jD (w := (wM a G r2.2)) rfl hD
  cases hV
  exact mRet C rfl dX9_setRoom_20 rfl rfl hP hS
theorem jy_X9_addsProduction : jY yX9_addsProduction cX9_addsProduction 6 (some .int) 4 := ⟨by decide +kernel, jq_20_14, jq_1_5⟩
def F_X9_addsProduction (N : Nat)  (M : Nat → Nat → Int32) (v1 v2 v3 v4 : Int32) : Option (Int32 × (Nat → Nat → Int32)) := ((F_X9_in N  v1 (1 : Int32) (9 : Int32)).bind (fun r1 => (if r1 = 0 then (some ((2 : Int32), M)) else ((F_X9_in N  v2 (1 : Int32) (6 : Int32)).bind (fun r2 => (if r2 = 0 then (some ((2 : Int32), M)) else ((F_X9_in N  v3 (1 : Int32) (50 : Int32)).bind (fun r3 => (if r3 = 0 then (some ((2 : Int32), M)) else ((F_X9_in N  v4 (0 : Int32) (100 : Int32)).bind (fun r4 => (if r4 = 0 then (some ((2 : Int32), M)) else (if inb (5 : Int32) 2169 = true then (if ((M 1) (5 : Int32).toNatClampNeg) = (8 : Int32) then (some ((3 : Int32), M)) else (if inb (((6 : Int32) + ((4 : Int32) * ((M 1) (5 : Int32).toNatClampNeg))) + (0 : Int32)) 2169 = true then (jlet (stA M 1 (((6 : Int32) + ((4 : Int32) * ((M 1) (5 : Int32).toNatClampNeg))) + (0 : Int32)) v1) (fun M7 => (if inb (((6 : Int32) + ((4 : Int32) * ((M 1) (5 : Int32).toNatClampNeg))) + (1 : Int32)) 2169 = true then (jlet (stA M7 1 (((6 : Int32) + ((4 : Int32) * ((M 1) (5 : Int32).toNatClampNeg))) + (1 : Int32)) v2) (fun M9 => (if inb (((6 : Int32) + ((4 : Int32) * ((M 1) (5 : Int32).toNatClampNeg))) + (2 : Int32)) 2169 = true then (jlet (stA M9 1 (((6 : Int32) + ((4 : Int32) * ((M 1) (5 : Int32).toNatClampNeg))) + (2 : Int32)) v3) (fun M11 => (if inb (((6 : Int32) + ((4 : Int32) * ((M 1) (5 : Int32).toNatClampNeg))) + (3 : Int32)) 2169 = true then (jlet (stA M11 1 (((6 : Int32) + ((4 : Int32) * ((M 1) (5 : Int32).toNatClampNeg))) + (3 : Int32)) v4) (fun M13 => (if inb (5 : Int32) 2169 = true then (if inb (5 : Int32) 2169 = true then (jlet (stA M13 1 (5 : Int32) (((M13 1) (5 : Int32).toNatClampNeg) + (1 : Int32))) (fun M16 => (jlet (stF M16 6 ((M 1) (5 : Int32).toNatClampNeg)) (fun M17 => (some ((0 : Int32), M17)))))) else none) else none))) else none))) else none))) else none))) else none)) else none)))))))))))))
set_option maxHeartbeats 4000000 in
set_option maxRecDepth 100000 in
theorem k_X9_addsProduction (l : Launch) (D : va_G) (G : Nat → ClassId) (a : Nat → Nat) (N : Nat) (M : Nat → Nat → Int32) (v1 v2 v3 v4 : Int32) (r : (Int32 × (Nat → Nat → Int32))) (hV : F_X9_addsProduction N  M v1 v2 v3 v4 = some r) : mM l yX9_addsProduction (jws yX9_addsProduction cX9_addsProduction 6 (some .int)) ({ frames := 1, cells := 0, slots := 0, locals := 22 } : Room) [.ref (a 0), .int v1, .int v2, .int v3, .int v4] D G (wM a G M) (wM a G r.2) (some (.int r.1)) := by
  refine mM_of (by decide +kernel) (Nat.le_of_ble_eq_true rfl) (fun p e s m args below meth c ls A C hP hD hA hl => ?_)
  have C : Cx p s m args meth c cX9_addsProduction 6 RX9 (some .int) D G := C
  have hS : va_S A s.heap s.heap [] := va_S.rf
  obtain ⟨hx, hb, hr, hml, hts, hown, hlocks, hK0⟩ := id C
  have hK := hK0.1
  have hl : lv_has ls 6 [(0, .ref (a 0)), (1, .int v1), (2, .int v2), (3, .int v3), (4, .int v4)] := hl
  rw [F_X9_addsProduction] at hV
  refine lv_iload_n hx hb dX9_addsProduction_0 rfl (lv_at hl 1 rfl) ?_
  refine lv_iconst (v := 1) hx hb dX9_addsProduction_1 (by decide) ?_
  refine lv_bipush (v := 9) hx hb dX9_addsProduction_2 (by decide) ?_
  obtain ⟨r1, hr1, hV⟩ := jBind hV
  refine jSpI C dX9_addsProduction_4 (k_X9_in l D G  N  v1 (1 : Int32) (9 : Int32) r1 hr1) jy_X9_in jq_13_1 jq_13_2 ⟨rfl, rfl, Nat.le_of_ble_eq_true rfl, Nat.le_of_ble_eq_true rfl⟩ ⟨Nat.le_of_ble_eq_true rfl, Nat.le_of_ble_eq_true rfl⟩ jE  hl (rest := []) rfl (Nat.le_of_ble_eq_true rfl) ?_
  refine lv_if_eq (tgt := 41) hx hb dX9_addsProduction_7 (by decide) (fun c28 => ?_) (fun c28 => ?_)
  · have hV := jT1 hV c28
    refine lv_iconst (v := 2) hx hb dX9_addsProduction_41 (by decide) ?_
    cases hV
    exact mRet C rfl dX9_addsProduction_42 rfl rfl hP hS
  · have hV := jF1 hV c28
    refine lv_iload_n hx hb dX9_addsProduction_10 rfl (lv_at hl 2 rfl) ?_
    refine lv_iconst (v := 1) hx hb dX9_addsProduction_11 (by decide) ?_
    refine lv_bipush (v := 6) hx hb dX9_addsProduction_12 (by decide) ?_
    obtain ⟨r2, hr2, hV⟩ := jBind hV
    refine jSpI C dX9_addsProduction_14 (k_X9_in l D G  N  v2 (1 : Int32) (6 : Int32) r2 hr2) jy_X9_in jq_13_1 jq_13_2 ⟨rfl, rfl, Nat.le_of_ble_eq_true rfl, Nat.le_of_ble_eq_true rfl⟩ ⟨Nat.le_of_ble_eq_true rfl, Nat.le_of_ble_eq_true rfl⟩ jE  hl (rest := []) rfl (Nat.le_of_ble_eq_true rfl) ?_
    refine lv_if_eq (tgt := 41) hx hb dX9_addsProduction_17 (by decide) (fun c27 => ?_) (fun c27 => ?_)
    · have hV := jT1 hV c27
      refine lv_iconst (v := 2) hx hb dX9_addsProduction_41 (by decide) ?_
      cases hV
      exact mRet C rfl dX9_addsProduction_42 rfl rfl hP hS
    · have hV := jF1 hV c27
      refine lv_iload_n hx hb dX9_addsProduction_20 rfl (lv_at hl 3 rfl) ?_
      refine lv_iconst (v := 1) hx hb dX9_addsProduction_21 (by decide) ?_
      refine lv_bipush (v := 50) hx hb dX9_addsProduction_22 (by decide) ?_
      obtain ⟨r3, hr3, hV⟩ := jBind hV
      refine jSpI C dX9_addsProduction_24 (k_X9_in l D G  N  v3 (1 : Int32) (50 : Int32) r3 hr3) jy_X9_in jq_13_1 jq_13_2 ⟨rfl, rfl, Nat.le_of_ble_eq_true rfl, Nat.le_of_ble_eq_true rfl⟩ ⟨Nat.le_of_ble_eq_true rfl, Nat.le_of_ble_eq_true rfl⟩ jE  hl (rest := []) rfl (Nat.le_of_ble_eq_true rfl) ?_
      refine lv_if_eq (tgt := 41) hx hb dX9_addsProduction_27 (by decide) (fun c26 => ?_) (fun c26 => ?_)
      · have hV := jT1 hV c26
        refine lv_iconst (v := 2) hx hb dX9_addsProduction_41 (by decide) ?_
        cases hV
        exact mRet C rfl dX9_addsProduction_42 rfl rfl hP hS
      · have hV := jF1 hV c26
        refine lv_iload hx hb dX9_addsProduction_30 (lv_at hl 4 rfl) ?_
        refine lv_iconst (v := 0) hx hb dX9_addsProduction_32 (by decide) ?_
        refine lv_bipush (v := 100) hx hb dX9_addsProduction_33 (by decide) ?_
        obtain ⟨r4, hr4, hV⟩ := jBind hV
        refine jSpI C dX9_addsProduction_35 (k_X9_in l D G  N  v4 (0 : Int32) (100 : Int32) r4 hr4) jy_X9_in jq_13_1 jq_13_2 ⟨rfl, rfl, Nat.le_of_ble_eq_true rfl, Nat.le_of_ble_eq_true rfl⟩ ⟨Nat.le_of_ble_eq_true rfl, Nat.le_of_ble_eq_true rfl⟩ jE  hl (rest := []) rfl (Nat.le_of_ble_eq_true rfl) ?_
        refine lv_if_ne (tgt := 43) hx hb dX9_addsProduction_38 (by decide) (fun c25 => ?_) (fun c25 => ?_)
        · have hV := jF1 hV c25
          refine lv_aload_n hx hb dX9_addsProduction_43 rfl (lv_at hl 0 rfl) ?_
          refine va_get (D := D) (ci := 11) (v := .ref (a 1)) (C := RX9) (T := TX9) (N := 16) hx hb hts ju_X9 hown hK hP 0 rfl rfl 1 (by decide) (hts _ jq_6_1) (fun _ h9 => h9) rfl dX9_addsProduction_44 ?_
          refine lv_iconst (v := 5) hx hb dX9_addsProduction_47 (by decide) ?_
          obtain ⟨g5, hV⟩ := jIf hV
          refine va_iald (D := D) (n := 2169) (f := (M 1)) hx hb hK hP 1 0 rfl rfl (inb_of g5) dX9_addsProduction_48 ?_
          refine lv_istore (lv' := [(5, .int ((M 1) (5 : Int32).toNatClampNeg)), (0, .ref (a 0)), (1, .int v1), (2, .int v2), (3, .int v3), (4, .int v4)]) hx hb dX9_addsProduction_49 hl (by decide) rfl (fun ls hl => ?_)
          refine lv_iload hx hb dX9_addsProduction_51 (lv_at hl 0 rfl) ?_
          refine lv_bipush (v := 8) hx hb dX9_addsProduction_53 (by decide) ?_
          refine lv_icmp_ne (tgt := 60) hx hb dX9_addsProduction_55 (by decide) (fun c24 => ?_) (fun c24 => ?_)
          · have hV := jF1 hV c24
            refine lv_aload_n hx hb dX9_addsProduction_60 rfl (lv_at hl 1 rfl) ?_
            refine va_get (D := D) (ci := 11) (v := .ref (a 1)) (C := RX9) (T := TX9) (N := 16) hx hb hts ju_X9 hown hK hP 0 rfl rfl 1 (by decide) (hts _ jq_6_1) (fun _ h9 => h9) rfl dX9_addsProduction_61 ?_
            refine lv_bipush (v := 6) hx hb dX9_addsProduction_64 (by decide) ?_
            refine lv_iconst (v := 4) hx hb dX9_addsProduction_66 (by decide) ?_
            refine lv_iload hx hb dX9_addsProduction_67 (lv_at hl 0 rfl) ?_
            refine lv_imul hx hb dX9_addsProduction_69 ?_
            refine lv_iadd hx hb dX9_addsProduction_70 ?_
            refine lv_iconst (v := 0) hx hb dX9_addsProduction_71 (by decide) ?_
            refine lv_iadd hx hb dX9_addsProduction_72 ?_
            refine lv_iload_n hx hb dX9_addsProduction_73 rfl (lv_at hl 2 rfl) ?_
            obtain ⟨g6, hV⟩ := jIf hV
            refine va_iast (D := D) (n := 2169) (f := (M 1)) hx hb hK hP hD hS 1 0 rfl rfl (inb_of g6) dX9_addsProduction_74 (fun H locs hP hD hS => ?_)
            obtain ⟨M7, e23, hV⟩ := jLet hV
            have hP : va_P D vwCl (wM a G M7) H := by rw [e23]; exact hP
            have hD : va_D A (wM a G M7) := by rw [e23]; exact hD
            refine lv_aload_n hx hb dX9_addsProduction_75 rfl (lv_at hl 1 rfl) ?_
            refine va_get (D := D) (ci := 11) (v := .ref (a 1)) (C := RX9) (T := TX9) (N := 16) hx hb hts ju_X9 hown hK hP 0 rfl rfl 1 (by decide) (hts _ jq_6_1) (fun _ h9 => h9) rfl dX9_addsProduction_76 ?_
            refine lv_bipush (v := 6) hx hb dX9_addsProduction_79 (by decide) ?_
            refine lv_iconst (v := 4) hx hb dX9_addsProduction_81 (by decide) ?_
            refine lv_iload hx hb dX9_addsProduction_82 (lv_at hl 0 rfl) ?_
            refine lv_imul hx hb dX9_addsProduction_84 ?_
            refine lv_iadd hx hb dX9_addsProduction_85 ?_
            refine lv_iconst (v := 1) hx hb dX9_addsProduction_86 (by decide) ?_
            refine lv_iadd hx hb dX9_addsProduction_87 ?_
            refine lv_iload_n hx hb dX9_addsProduction_88 rfl (lv_at hl 3 rfl) ?_
            obtain ⟨g8, hV⟩ := jIf hV
            refine va_iast (D := D) (n := 2169) (f := (M7 1)) hx hb hK hP hD hS 1 0 rfl rfl (inb_of g8) dX9_addsProduction_89 (fun H locs hP hD hS => ?_)
            obtain ⟨M9, e22, hV⟩ := jLet hV
            have hP : va_P D vwCl (wM a G M9) H := by rw [e22]; exact hP
            have hD : va_D A (wM a G M9) := by rw [e22]; exact hD
            refine lv_aload_n hx hb dX9_addsProduction_90 rfl (lv_at hl 1 rfl) ?_
            refine va_get (D := D) (ci := 11) (v := .ref (a 1)) (C := RX9) (T := TX9) (N := 16) hx hb hts ju_X9 hown hK hP 0 rfl rfl 1 (by decide) (hts _ jq_6_1) (fun _ h9 => h9) rfl dX9_addsProduction_91 ?_
            refine lv_bipush (v := 6) hx hb dX9_addsProduction_94 (by decide) ?_
            refine lv_iconst (v := 4) hx hb dX9_addsProduction_96 (by decide) ?_
            refine lv_iload hx hb dX9_addsProduction_97 (lv_at hl 0 rfl) ?_
            refine lv_imul hx hb dX9_addsProduction_99 ?_
            refine lv_iadd hx hb dX9_addsProduction_100 ?_
            refine lv_iconst (v := 2) hx hb dX9_addsProduction_101 (by decide) ?_
            refine lv_iadd hx hb dX9_addsProduction_102 ?_
            refine lv_iload_n hx hb dX9_addsProduction_103 rfl (lv_at hl 4 rfl) ?_
            obtain ⟨g10, hV⟩ := jIf hV
            refine va_iast (D := D) (n := 2169) (f := (M9 1)) hx hb hK hP hD hS 1 0 rfl rfl (inb_of g10) dX9_addsProduction_104 (fun H locs hP hD hS => ?_)
            obtain ⟨M11, e21, hV⟩ := jLet hV
            have hP : va_P D vwCl (wM a G M11) H := by rw [e21]; exact hP
            have hD : va_D A (wM a G M11) := by rw [e21]; exact hD
            refine lv_aload_n hx hb dX9_addsProduction_105 rfl (lv_at hl 1 rfl) ?_
            refine va_get (D := D) (ci := 11) (v := .ref (a 1)) (C := RX9) (T := TX9) (N := 16) hx hb hts ju_X9 hown hK hP 0 rfl rfl 1 (by decide) (hts _ jq_6_1) (fun _ h9 => h9) rfl dX9_addsProduction_106 ?_
            refine lv_bipush (v := 6) hx hb dX9_addsProduction_109 (by decide) ?_
            refine lv_iconst (v := 4) hx hb dX9_addsProduction_111 (by decide) ?_
            refine lv_iload hx hb dX9_addsProduction_112 (lv_at hl 0 rfl) ?_
            refine lv_imul hx hb dX9_addsProduction_114 ?_
            refine lv_iadd hx hb dX9_addsProduction_115 ?_
            refine lv_iconst (v := 3) hx hb dX9_addsProduction_116 (by decide) ?_
            refine lv_iadd hx hb dX9_addsProduction_117 ?_
            refine lv_iload hx hb dX9_addsProduction_118 (lv_at hl 5 rfl) ?_
            obtain ⟨g12, hV⟩ := jIf hV
            refine va_iast (D := D) (n := 2169) (f := (M11 1)) hx hb hK hP hD hS 1 0 rfl rfl (inb_of g12) dX9_addsProduction_120 (fun H locs hP hD hS => ?_)
            obtain ⟨M13, e20, hV⟩ := jLet hV
            have hP : va_P D vwCl (wM a G M13) H := by rw [e20]; exact hP
            have hD : va_D A (wM a G M13) := by rw [e20]; exact hD
            refine lv_aload_n hx hb dX9_addsProduction_121 rfl (lv_at hl 1 rfl) ?_
            refine va_get (D := D) (ci := 11) (v := .ref (a 1)) (C := RX9) (T := TX9) (N := 16) hx hb hts ju_X9 hown hK hP 0 rfl rfl 1 (by decide) (hts _ jq_6_1) (fun _ h9 => h9) rfl dX9_addsProduction_122 ?_
            refine lv_iconst (v := 5) hx hb dX9_addsProduction_125 (by decide) ?_
            refine lv_dup2_11 hx hb dX9_addsProduction_126 rfl rfl ?_
            obtain ⟨g14, hV⟩ := jIf hV
            refine va_iald (D := D) (n := 2169) (f := (M13 1)) hx hb hK hP 1 0 rfl rfl (inb_of g14) dX9_addsProduction_127 ?_
            refine lv_iconst (v := 1) hx hb dX9_addsProduction_128 (by decide) ?_
            refine lv_iadd hx hb dX9_addsProduction_129 ?_
            obtain ⟨g15, hV⟩ := jIf hV
            refine va_iast (D := D) (n := 2169) (f := (M13 1)) hx hb hK hP hD hS 1 0 rfl rfl (inb_of g15) dX9_addsProduction_130 (fun H locs hP hD hS => ?_)
            obtain ⟨M16, e19, hV⟩ := jLet hV
            have hP : va_P D vwCl (wM a G M16) H := by rw [e19]; exact hP
            have hD : va_D A (wM a G M16) := by rw [e19]; exact hD
            refine lv_aload_n hx hb dX9_addsProduction_131 rfl (lv_at hl 1 rfl) ?_
            refine lv_iload hx hb dX9_addsProduction_132 (lv_at hl 0 rfl) ?_
            refine va_put (D := D) (ci := 11) (v := .int ((M 1) (5 : Int32).toNatClampNeg)) (ty := .int) (C := RX9) (T := TX9) (N := 16) hx hb hts ju_X9 tyX9 tyX9_ok nmX9 hown hK hP hD hS 0 rfl rfl 6 (by decide) (hts _ jq_12_21) (fun _ h9 => h9) rfl (by decide +kernel) rfl rfl (Nat.le_of_ble_eq_true rfl) dX9_addsProduction_134 (fun H locs hP hD hS => ?_)
            obtain ⟨M17, e18, hV⟩ := jLet hV
            have hP : va_P D vwCl (wM a G M17) H := by rw [e18]; exact hP
            have hD : va_D A (wM a G M17) := by rw [e18]; exact hD
            refine lv_iconst (v := 0) hx hb dX9_addsProduction_137 (by decide) ?_
            cases hV
            exact mRet C rfl dX9_addsProduction_138 rfl rfl hP hS
          · have hV := jT1 hV c24
            refine lv_iconst (v := 3) hx hb dX9_addsProduction_58 (by decide) ?_
            cases hV
            exact mRet C rfl dX9_addsProduction_59 rfl rfl hP hS
        · have hV := jT1 hV c25
          refine lv_iconst (v := 2) hx hb dX9_addsProduction_41 (by decide) ?_
          cases hV
          exact mRet C rfl dX9_addsProduction_42 rfl rfl hP hS
theorem jy_X9_addProduction : jY yX9_addProduction cX9_addProduction 5 (some .int) 4 := ⟨by decide +kernel, jq_20_10, jq_1_5⟩
def F_X9_addProduction (N : Nat)  (M : Nat → Nat → Int32) (v1 v2 v3 v4 : Int32) : Option (Int32 × (Nat → Nat → Int32)) := ((F_X9_begins N M ).bind (fun r1 => ((F_X9_addsProduction N r1 v1 v2 v3 v4).bind (fun r2 => ((F_X9_ends N r2.2 r2.1 (1 : Int32) (2 : Int32) (0 : Int32)).bind (fun r3 => (some (r3.1, r3.2))))))))
set_option maxHeartbeats 4000000 in
set_option maxRecDepth 100000 in
theorem k_X9_addProduction (l : Launch) (D : va_G) (G : Nat → ClassId) (a : Nat → Nat) (N : Nat) (M : Nat → Nat → Int32) (v1 v2 v3 v4 : Int32) (r : (Int32 × (Nat → Nat → Int32))) (hV : F_X9_addProduction N  M v1 v2 v3 v4 = some r) : mM l yX9_addProduction (jws yX9_addProduction cX9_addProduction 5 (some .int)) ({ frames := 3, cells := 0, slots := 0, locals := 68 } : Room) [.ref (a 0), .int v1, .int v2, .int v3, .int v4] D G (wM a G M) (wM a G r.2) (some (.int r.1)) := by
  refine mM_of (by decide +kernel) (Nat.le_of_ble_eq_true rfl) (fun p e s m args below meth c ls A C hP hD hA hl => ?_)
  have C : Cx p s m args meth c cX9_addProduction 5 RX9 (some .int) D G := C
  have hS : va_S A s.heap s.heap [] := va_S.rf
  obtain ⟨hx, hb, hr, hml, hts, hown, hlocks, hK0⟩ := id C
  have hK := hK0.1
  have hl : lv_has ls 5 [(0, .ref (a 0)), (1, .int v1), (2, .int v2), (3, .int v3), (4, .int v4)] := hl
  rw [F_X9_addProduction] at hV
  refine lv_aload_n hx hb dX9_addProduction_0 rfl (lv_at hl 0 rfl) ?_
  obtain ⟨r1, hr1, hV⟩ := jBind hV
  refine jVmV C dX9_addProduction_1 (k_X9_begins l D G a N M  r1 hr1) jy_X9_begins jq_12_9 jq_12_10 jq_12_11 ⟨rfl, rfl, Nat.le_of_ble_eq_true rfl, Nat.le_of_ble_eq_true rfl⟩ ⟨Nat.le_of_ble_eq_true rfl, Nat.le_of_ble_eq_true rfl⟩ hP hD hA hS (ci := 11) (iw := 0) rfl rfl rfl hl (rest := []) rfl (Nat.le_of_ble_eq_true rfl) (fun H locs hQ hz hkp hS => ?_)
  have hP : va_P D vwCl (wM a G r1) H := hQ
  have hD : va_D A (wM a G r1) := jD (w := (wM a G M)) rfl hD
  refine lv_aload_n hx hb dX9_addProduction_4 rfl (lv_at hl 0 rfl) ?_
  refine lv_aload_n hx hb dX9_addProduction_5 rfl (lv_at hl 0 rfl) ?_
  refine lv_iload_n hx hb dX9_addProduction_6 rfl (lv_at hl 1 rfl) ?_
  refine lv_iload_n hx hb dX9_addProduction_7 rfl (lv_at hl 2 rfl) ?_
  refine lv_iload_n hx hb dX9_addProduction_8 rfl (lv_at hl 3 rfl) ?_
  refine lv_iload hx hb dX9_addProduction_9 (lv_at hl 4 rfl) ?_
  obtain ⟨r2, hr2, hV⟩ := jBind hV
  refine jVmI C dX9_addProduction_11 (k_X9_addsProduction l D G a N r1 v1 v2 v3 v4 r2 hr2) jy_X9_addsProduction jq_20_11 jq_20_12 jq_20_13 ⟨rfl, rfl, Nat.le_of_ble_eq_true rfl, Nat.le_of_ble_eq_true rfl⟩ ⟨Nat.le_of_ble_eq_true rfl, Nat.le_of_ble_eq_true rfl⟩ hP hD hA hS (ci := 11) (iw := 0) rfl rfl rfl hl (rest := [.ref (a 0)]) rfl (Nat.le_of_ble_eq_true rfl) (fun H locs hQ hz hkp hS => ?_)
  have hP : va_P D vwCl (wM a G r2.2) H := hQ
  have hD : va_D A (wM a G r2.2) := jD (w := (wM a G r1)) rfl hD
  refine lv_iconst (v := 1) hx hb dX9_addProduction_14 (by decide) ?_
  refine lv_iconst (v := 2) hx hb dX9_addProduction_15 (by decide) ?_
  refine lv_iconst (v := 0) hx hb dX9_addProduction_16 (by decide) ?_
  obtain ⟨r3, hr3, hV⟩ := jBind hV
  refine jVmI C dX9_addProduction_17 (k_X9_ends l D G a N r2.2 r2.1 (1 : Int32) (2 : Int32) (0 : Int32) r3 hr3) jy_X9_ends jq_14_22 jq_14_23 jq_15_0 ⟨rfl, rfl, Nat.le_of_ble_eq_true rfl, Nat.le_of_ble_eq_true rfl⟩ ⟨Nat.le_of_ble_eq_true rfl, Nat.le_of_ble_eq_true rfl⟩ hP hD hA hS (ci := 11) (iw := 0) rfl rfl rfl hl (rest := []) rfl (Nat.le_of_ble_eq_true rfl) (fun H locs hQ hz hkp hS => ?_)
  have hP : va_P D vwCl (wM a G r3.2) H := hQ
  have hD : va_D A (wM a G r3.2) := jD (w := (wM a G r2.2)) rfl hD
  cases hV
  exact mRet C rfl dX9_addProduction_20 rfl rfl hP hS
theorem jy_X9_takings : jY yX9_takings cX9_takings 5 (some .int) 1 := ⟨by decide +kernel, jq_22_12, jq_1_5⟩
def D_X9_takings_12 (N : Nat)  (M : Nat → Nat → Int32) : Nat → Int32 → Int32 → Int32 → Int32 → Option Int32
  | 0, _, _, _, _ => none
  | n + 1, v1, v2, v3, v4 => (if inb (38 : Int32) 2169 = true then (if ((M 1) (38 : Int32).toNatClampNeg) ≤ v4 then (some v2) else ((F_X9_p N M v4 (0 : Int32)).bind (fun r2 => (if r2 = v1 then ((F_X9_p N M v4 (3 : Int32)).bind (fun r3 => ((F_X9_heldAt N M v4).bind (fun r4 => (D_X9_takings_12 N  M  n  v1 (v2 + ((v3 * r3) + ((((4 : Int32) * v3) / (5 : Int32)) * r4))) v3 (v4 + 1)))))) else (D_X9_takings_12 N  M  n  v1 (v2 + (0 : Int32)) v3 (v4 + 1)))))) else none)
set_option maxHeartbeats 4000000 in
set_option maxRecDepth 100000 in
theorem B_X9_takings_12 {p : Program} {l : Launch} {e : Env} {s : State} {m : MethodId} {args : Array Value} {below : List Frame} {meth : Method} {c : Code} {D : va_G} {G : Nat → ClassId} (C : Cx p s m args meth c cX9_takings 5 RX9 (some .int) D G) (N : Nat) (a : Nat → Nat) (M : Nat → Nat → Int32) (r : Int32) (hP : va_P D vwCl (wM a G M) s.heap) : (∀ (n : Nat) (v1 : Int32) (v2 : Int32) (v3 : Int32) (v4 : Int32) (ls : Array Slot), lv_has ls 5 [(0, .ref (a 0)), (1, .int v1), (2, .int v2), (3, .int v3), (4, .int v4)] → D_X9_takings_12 N  M  n v1 v2 v3 v4 = some r → W p l e ({ frames := 2, cells := 0, slots := 0, locals := 45 } : Room) s m args below meth c s.heap [] 0 0 (MQ below (QcRd (some (.int r))) args s 0 0 nofree) (F0 m 12 ls [])) := by
  have C := C
  obtain ⟨hx, hb, hr, hml, hts, hown, hlocks, hK0⟩ := id C
  have hK := hK0.1
  intro n
  induction n with
  | zero =>
    intro v1 v2 v3 v4 ls hl hV
    rw [D_X9_takings_12] at hV
    cases hV
  | succ n ih =>
    intro v1 v2 v3 v4 ls hl hV
    rw [D_X9_takings_12] at hV
    refine lv_iload hx hb dX9_takings_12 (lv_at hl 4 rfl) ?_
    refine lv_aload_n hx hb dX9_takings_14 rfl (lv_at hl 0 rfl) ?_
    refine va_get (D := D) (ci := 11) (v := .ref (a 1)) (C := RX9) (T := TX9) (N := 16) hx hb hts ju_X9 hown hK hP 0 rfl rfl 1 (by decide) (hts _ jq_6_1) (fun _ h9 => h9) rfl dX9_takings_15 ?_
    refine lv_bipush (v := 38) hx hb dX9_takings_18 (by decide) ?_
    obtain ⟨g1, hV⟩ := jIf hV
    refine va_iald (D := D) (n := 2169) (f := (M 1)) hx hb hK hP 1 0 rfl rfl (inb_of g1) dX9_takings_20 ?_
    refine lv_icmp_ge (tgt := 70) hx hb dX9_takings_21 (by decide) (fun c6 => ?_) (fun c6 => ?_)
    · have hV := jT1 hV c6
      refine lv_iload_n hx hb dX9_takings_70 rfl (lv_at hl 2 rfl) ?_
      exact pRet C rfl dX9_takings_71 rfl (Option.some.inj hV)
    · have hV := jF1 hV c6
      refine lv_iload_n hx hb dX9_takings_24 rfl (lv_at hl 2 rfl) ?_
      refine lv_aload_n hx hb dX9_takings_25 rfl (lv_at hl 0 rfl) ?_
      refine lv_iload hx hb dX9_takings_26 (lv_at hl 4 rfl) ?_
      refine lv_iconst (v := 0) hx hb dX9_takings_28 (by decide) ?_
      obtain ⟨r2, hr2, hV⟩ := jBind hV
      refine jVpI C dX9_takings_29 (k_X9_p l D G a N M v4 (0 : Int32) r2 hr2) jy_X9_p jq_13_4 jq_13_5 jq_13_6 ⟨rfl, rfl, Nat.le_of_ble_eq_true rfl, Nat.le_of_ble_eq_true rfl⟩ ⟨Nat.le_of_ble_eq_true rfl, Nat.le_of_ble_eq_true rfl⟩ hP  (ci := 11) (iw := 0) rfl rfl rfl hl (rest := [.int v2]) rfl (Nat.le_of_ble_eq_true rfl) ?_
      refine lv_iload_n hx hb dX9_takings_32 rfl (lv_at hl 1 rfl) ?_
      refine lv_icmp_ne (tgt := 61) hx hb dX9_takings_33 (by decide) (fun c5 => ?_) (fun c5 => ?_)
      · have hV := jF1 hV c5
        refine lv_iconst (v := 0) hx hb dX9_takings_61 (by decide) ?_
        refine lv_iadd hx hb dX9_takings_62 ?_
        refine lv_istore_n (lv' := [(2, .int (v2 + (0 : Int32))), (0, .ref (a 0)), (1, .int v1), (3, .int v3), (4, .int v4)]) hx hb dX9_takings_63 rfl hl (by decide) rfl (fun ls hl => ?_)
        refine lv_iinc (v := (v4 + 1)) (lv' := [(4, .int (v4 + 1)), (2, .int (v2 + (0 : Int32))), (0, .ref (a 0)), (1, .int v1), (3, .int v3)]) hx hb dX9_takings_64 hl (k := 4) rfl rfl (by decide) rfl (fun ls hl => ?_)
        refine lv_goto (tgt := 12) hx hb dX9_takings_67 (by decide) ?_
        exact ih  v1 (v2 + (0 : Int32)) v3 (v4 + 1) _ (lv_sub hl [2, 3, 1, 4, 0] rfl) hV
      · have hV := jT1 hV c5
        refine lv_iload_n hx hb dX9_takings_36 rfl (lv_at hl 3 rfl) ?_
        refine lv_aload_n hx hb dX9_takings_37 rfl (lv_at hl 0 rfl) ?_
        refine lv_iload hx hb dX9_takings_38 (lv_at hl 4 rfl) ?_
        refine lv_iconst (v := 3) hx hb dX9_takings_40 (by decide) ?_
        obtain ⟨r3, hr3, hV⟩ := jBind hV
        refine jVpI C dX9_takings_41 (k_X9_p l D G a N M v4 (3 : Int32) r3 hr3) jy_X9_p jq_13_4 jq_13_5 jq_13_6 ⟨rfl, rfl, Nat.le_of_ble_eq_true rfl, Nat.le_of_ble_eq_true rfl⟩ ⟨Nat.le_of_ble_eq_true rfl, Nat.le_of_ble_eq_true rfl⟩ hP  (ci := 11) (iw := 0) rfl rfl rfl hl (rest := [.int v3, .int v2]) rfl (Nat.le_of_ble_eq_true rfl) ?_
        refine lv_imul hx hb dX9_takings_44 ?_
        refine lv_iconst (v := 4) hx hb dX9_takings_45 (by decide) ?_
        refine lv_iload_n hx hb dX9_takings_46 rfl (lv_at hl 3 rfl) ?_
        refine lv_imul hx hb dX9_takings_47 ?_
        refine lv_iconst (v := 5) hx hb dX9_takings_48 (by decide) ?_
        refine lv_idiv hx hb dX9_takings_49 (by decide) ?_
        refine lv_aload_n hx hb dX9_takings_50 rfl (lv_at hl 0 rfl) ?_
        refine lv_iload hx hb dX9_takings_51 (lv_at hl 4 rfl) ?_
        obtain ⟨r4, hr4, hV⟩ := jBind hV
        refine jVpI C dX9_takings_53 (k_X9_heldAt l D G a N M v4 r4 hr4) jy_X9_heldAt jq_13_8 jq_13_9 jq_13_10 ⟨rfl, rfl, Nat.le_of_ble_eq_true rfl, Nat.le_of_ble_eq_true rfl⟩ ⟨Nat.le_of_ble_eq_true rfl, Nat.le_of_ble_eq_true rfl⟩ hP  (ci := 11) (iw := 0) rfl rfl rfl hl (rest := [.int (((4 : Int32) * v3) / (5 : Int32)), .int (v3 * r3), .int v2]) rfl (Nat.le_of_ble_eq_true rfl) ?_
        refine lv_imul hx hb dX9_takings_56 ?_
        refine lv_iadd hx hb dX9_takings_57 ?_
        refine lv_goto (tgt := 62) hx hb dX9_takings_58 (by decide) ?_
        refine lv_iadd hx hb dX9_takings_62 ?_
        refine lv_istore_n (lv' := [(2, .int (v2 + ((v3 * r3) + ((((4 : Int32) * v3) / (5 : Int32)) * r4)))), (0, .ref (a 0)), (1, .int v1), (3, .int v3), (4, .int v4)]) hx hb dX9_takings_63 rfl hl (by decide) rfl (fun ls hl => ?_)
        refine lv_iinc (v := (v4 + 1)) (lv' := [(4, .int (v4 + 1)), (2, .int (v2 + ((v3 * r3) + ((((4 : Int32) * v3) / (5 : Int32)) * r4)))), (0, .ref (a 0)), (1, .int v1), (3, .int v3)]) hx hb dX9_takings_64 hl (k := 4) rfl rfl (by decide) rfl (fun ls hl => ?_)
        refine lv_goto (tgt := 12) hx hb dX9_takings_67 (by decide) ?_
        exact ih  v1 (v2 + ((v3 * r3) + ((((4 : Int32) * v3) / (5 : Int32)) * r4))) v3 (v4 + 1) _ (lv_sub hl [2, 3, 1, 4, 0] rfl) hV
def F_X9_takings (N : Nat)  (M : Nat → Nat → Int32) (v1 : Int32) : Option Int32 := ((F_X9_d N M v1 (2 : Int32)).bind (fun r7 => (D_X9_takings_12 N  M  N  v1 (0 : Int32) r7 (0 : Int32))))
set_option maxHeartbeats 4000000 in
set_option maxRecDepth 100000 in
theorem k_X9_takings (l : Launch) (D : va_G) (G : Nat → ClassId) (a : Nat → Nat) (N : Nat) (M : Nat → Nat → Int32) (v1 : Int32) (r : Int32) (hV : F_X9_takings N  M v1 = some r) : pM l yX9_takings (jws yX9_takings cX9_takings 5 (some .int)) ({ frames := 2, cells := 0, slots := 0, locals := 45 } : Room) [.ref (a 0), .int v1] D G (wM a G M) (some (.int r)) := by
  refine pM_of (by decide +kernel) (Nat.le_of_ble_eq_true rfl) (fun p e s m args below meth c ls C hP hl => ?_)
  have C : Cx p s m args meth c cX9_takings 5 RX9 (some .int) D G := C
  obtain ⟨hx, hb, hr, hml, hts, hown, hlocks, hK0⟩ := id C
  have hK := hK0.1
  have hl : lv_has ls 5 [(0, .ref (a 0)), (1, .int v1)] := hl
  rw [F_X9_takings] at hV
  refine lv_iconst (v := 0) hx hb dX9_takings_0 (by decide) ?_
  refine lv_istore_n (lv' := [(2, .int (0 : Int32)), (0, .ref (a 0)), (1, .int v1)]) hx hb dX9_takings_1 rfl hl (by decide) rfl (fun ls hl => ?_)
  refine lv_aload_n hx hb dX9_takings_2 rfl (lv_at hl 1 rfl) ?_
  refine lv_iload_n hx hb dX9_takings_3 rfl (lv_at hl 2 rfl) ?_
  refine lv_iconst (v := 2) hx hb dX9_takings_4 (by decide) ?_
  obtain ⟨r7, hr7, hV⟩ := jBind hV
  refine jVpI C dX9_takings_5 (k_X9_d l D G a N M v1 (2 : Int32) r7 hr7) jy_X9_d jq_17_2 jq_17_3 jq_17_4 ⟨rfl, rfl, Nat.le_of_ble_eq_true rfl, Nat.le_of_ble_eq_true rfl⟩ ⟨Nat.le_of_ble_eq_true rfl, Nat.le_of_ble_eq_true rfl⟩ hP  (ci := 11) (iw := 0) rfl rfl rfl hl (rest := []) rfl (Nat.le_of_ble_eq_true rfl) ?_
  refine lv_istore_n (lv' := [(3, .int r7), (2, .int (0 : Int32)), (0, .ref (a 0)), (1, .int v1)]) hx hb dX9_takings_8 rfl hl (by decide) rfl (fun ls hl => ?_)
  refine lv_iconst (v := 0) hx hb dX9_takings_9 (by decide) ?_
  refine lv_istore (lv' := [(4, .int (0 : Int32)), (3, .int r7), (2, .int (0 : Int32)), (0, .ref (a 0)), (1, .int v1)]) hx hb dX9_takings_10 hl (by decide) rfl (fun ls hl => ?_)
  exact B_X9_takings_12 C  N a M r hP   N  v1 (0 : Int32) r7 (0 : Int32) _ (lv_sub hl [3, 4, 2, 1, 0] rfl) hV
theorem jy_X9_performancesOf : jY yX9_performancesOf cX9_performancesOf 4 (some .int) 1 := ⟨by decide +kernel, jq_22_8, jq_1_5⟩
def D_X9_performancesOf_4 (N : Nat)  (M : Nat → Nat → Int32) : Nat → Int32 → Int32 → Int32 → Option Int32
  | 0, _, _, _ => none
  | n + 1, v1, v2, v3 => (if inb (38 : Int32) 2169 = true then (if ((M 1) (38 : Int32).toNatClampNeg) ≤ v3 then (some v2) else ((F_X9_p N M v3 (0 : Int32)).bind (fun r2 => (if r2 = v1 then (D_X9_performancesOf_4 N  M  n  v1 (v2 + (1 : Int32)) (v3 + 1)) else (D_X9_performancesOf_4 N  M  n  v1 (v2 + (0 : Int32)) (v3 + 1)))))) else none)
set_option maxHeartbeats 4000000 in
set_option maxRecDepth 100000 in
theorem B_X9_performancesOf_4 {p : Program} {l : Launch} {e : Env} {s : State} {m : MethodId} {args : Array Value} {below : List Frame} {meth : Method} {c : Code} {D : va_G} {G : Nat → ClassId} (C : Cx p s m args meth c cX9_performancesOf 4 RX9 (some .int) D G) (N : Nat) (a : Nat → Nat) (M : Nat → Nat → Int32) (r : Int32) (hP : va_P D vwCl (wM a G M) s.heap) : (∀ (n : Nat) (v1 : Int32) (v2 : Int32) (v3 : Int32) (ls : Array Slot), lv_has ls 4 [(0, .ref (a 0)), (1, .int v1), (2, .int v2), (3, .int v3)] → D_X9_performancesOf_4 N  M  n v1 v2 v3 = some r → W p l e ({ frames := 1, cells := 0, slots := 0, locals := 22 } : Room) s m args below meth c s.heap [] 0 0 (MQ below (QcRd (some (.int r))) args s 0 0 nofree) (F0 m 4 ls [])) := by
  have C := C
  obtain ⟨hx, hb, hr, hml, hts, hown, hlocks, hK0⟩ := id C
  have hK := hK0.1
  intro n
  induction n with
  | zero =>
    intro v1 v2 v3 ls hl hV
    rw [D_X9_performancesOf_4] at hV
    cases hV
  | succ n ih =>
    intro v1 v2 v3 ls hl hV
    rw [D_X9_performancesOf_4] at hV
    refine lv_iload_n hx hb dX9_performancesOf_4 rfl (lv_at hl 3 rfl) ?_
    refine lv_aload_n hx hb dX9_performancesOf_5 rfl (lv_at hl 0 rfl) ?_
    refine va_get (D := D) (ci := 11) (v := .ref (a 1)) (C := RX9) (T := TX9) (N := 16) hx hb hts ju_X9 hown hK hP 0 rfl rfl 1 (by decide) (hts _ jq_6_1) (fun _ h9 => h9) rfl dX9_performancesOf_6 ?_
    refine lv_bipush (v := 38) hx hb dX9_performancesOf_9 (by decide) ?_
    obtain ⟨g1, hV⟩ := jIf hV
    refine va_iald (D := D) (n := 2169) (f := (M 1)) hx hb hK hP 1 0 rfl rfl (inb_of g1) dX9_performancesOf_11 ?_
    refine lv_icmp_ge (tgt := 39) hx hb dX9_performancesOf_12 (by decide) (fun c4 => ?_) (fun c4 => ?_)
    · have hV := jT1 hV c4
      refine lv_iload_n hx hb dX9_performancesOf_39 rfl (lv_at hl 2 rfl) ?_
      exact pRet C rfl dX9_performancesOf_40 rfl (Option.some.inj hV)
    · have hV := jF1 hV c4
      refine lv_iload_n hx hb dX9_performancesOf_15 rfl (lv_at hl 2 rfl) ?_
      refine lv_aload_n hx hb dX9_performancesOf_16 rfl (lv_at hl 0 rfl) ?_
      refine lv_iload_n hx hb dX9_performancesOf_17 rfl (lv_at hl 3 rfl) ?_
      refine lv_iconst (v := 0) hx hb dX9_performancesOf_18 (by decide) ?_
      obtain ⟨r2, hr2, hV⟩ := jBind hV
      refine jVpI C dX9_performancesOf_19 (k_X9_p l D G a N M v3 (0 : Int32) r2 hr2) jy_X9_p jq_13_4 jq_13_5 jq_13_6 ⟨rfl, rfl, Nat.le_of_ble_eq_true rfl, Nat.le_of_ble_eq_true rfl⟩ ⟨Nat.le_of_ble_eq_true rfl, Nat.le_of_ble_eq_true rfl⟩ hP  (ci := 11) (iw := 0) rfl rfl rfl hl (rest := [.int v2]) rfl (Nat.le_of_ble_eq_true rfl) ?_
      refine lv_iload_n hx hb dX9_performancesOf_22 rfl (lv_at hl 1 rfl) ?_
      refine lv_icmp_ne (tgt := 30) hx hb dX9_performancesOf_23 (by decide) (fun c3 => ?_) (fun c3 => ?_)
      · have hV := jF1 hV c3
        refine lv_iconst (v := 0) hx hb dX9_performancesOf_30 (by decide) ?_
        refine lv_iadd hx hb dX9_performancesOf_31 ?_
        refine lv_istore_n (lv' := [(2, .int (v2 + (0 : Int32))), (0, .ref (a 0)), (1, .int v1), (3, .int v3)]) hx hb dX9_performancesOf_32 rfl hl (by decide) rfl (fun ls hl => ?_)
        refine lv_iinc (v := (v3 + 1)) (lv' := [(3, .int (v3 + 1)), (2, .int (v2 + (0 : Int32))), (0, .ref (a 0)), (1, .int v1)]) hx hb dX9_performancesOf_33 hl (k := 3) rfl rfl (by decide) rfl (fun ls hl => ?_)
        refine lv_goto (tgt := 4) hx hb dX9_performancesOf_36 (by decide) ?_
        exact ih  v1 (v2 + (0 : Int32)) (v3 + 1) _ (lv_sub hl [2, 3, 1, 0] rfl) hV
      · have hV := jT1 hV c3
        refine lv_iconst (v := 1) hx hb dX9_performancesOf_26 (by decide) ?_
        refine lv_goto (tgt := 31) hx hb dX9_performancesOf_27 (by decide) ?_
        refine lv_iadd hx hb dX9_performancesOf_31 ?_
        refine lv_istore_n (lv' := [(2, .int (v2 + (1 : Int32))), (0, .ref (a 0)), (1, .int v1), (3, .int v3)]) hx hb dX9_performancesOf_32 rfl hl (by decide) rfl (fun ls hl => ?_)
        refine lv_iinc (v := (v3 + 1)) (lv' := [(3, .int (v3 + 1)), (2, .int (v2 + (1 : Int32))), (0, .ref (a 0)), (1, .int v1)]) hx hb dX9_performancesOf_33 hl (k := 3) rfl rfl (by decide) rfl (fun ls hl => ?_)
        refine lv_goto (tgt := 4) hx hb dX9_performancesOf_36 (by decide) ?_
        exact ih  v1 (v2 + (1 : Int32)) (v3 + 1) _ (lv_sub hl [2, 3, 1, 0] rfl) hV
def F_X9_performancesOf (N : Nat)  (M : Nat → Nat → Int32) (v1 : Int32) : Option Int32 := (D_X9_performancesOf_4 N  M  N  v1 (0 : Int32) (0 : Int32))
set_option maxHeartbeats 4000000 in
set_option maxRecDepth 100000 in
theorem k_X9_performancesOf (l : Launch) (D : va_G) (G : Nat → ClassId) (a : Nat → Nat) (N : Nat) (M : Nat → Nat → Int32) (v1 : Int32) (r : Int32) (hV : F_X9_performancesOf N  M v1 = some r) : pM l yX9_performancesOf (jws yX9_performancesOf cX9_performancesOf 4 (some .int)) ({ frames := 1, cells := 0, slots := 0, locals := 22 } : Room) [.ref (a 0), .int v1] D G (wM a G M) (some (.int r)) := by
  refine pM_of (by decide +kernel) (Nat.le_of_ble_eq_true rfl) (fun p e s m args below meth c ls C hP hl => ?_)
  have C : Cx p s m args meth c cX9_performancesOf 4 RX9 (some .int) D G := C
  obtain ⟨hx, hb, hr, hml, hts, hown, hlocks, hK0⟩ := id C
  have hK := hK0.1
  have hl : lv_has ls 4 [(0, .ref (a 0)), (1, .int v1)] := hl
  rw [F_X9_performancesOf] at hV
  refine lv_iconst (v := 0) hx hb dX9_performancesOf_0 (by decide) ?_
  refine lv_istore_n (lv' := [(2, .int (0 : Int32)), (0, .ref (a 0)), (1, .int v1)]) hx hb dX9_performancesOf_1 rfl hl (by decide) rfl (fun ls hl => ?_)
  refine lv_iconst (v := 0) hx hb dX9_performancesOf_2 (by decide) ?_
  refine lv_istore_n (lv' := [(3, .int (0 : Int32)), (2, .int (0 : Int32)), (0, .ref (a 0)), (1, .int v1)]) hx hb dX9_performancesOf_3 rfl hl (by decide) rfl (fun ls hl => ?_)
  exact B_X9_performancesOf_4 C  N a M r hP   N  v1 (0 : Int32) (0 : Int32) _ (lv_sub hl [2, 3, 1, 0] rfl) hV
theorem jy_X9_production : jY yX9_production cX9_production 3 (some .int) 2 := ⟨by decide +kernel, jq_22_0, jq_1_5⟩
def D_X9_production_28 (N : Nat)  (M : Nat → Nat → Int32) (v1 : Int32) (v2 : Int32) (s0 : Int32) : Option (Int32 × (Nat → Nat → Int32)) := (jlet (stF M 0 s0) (fun M1 => (if (M1 0 0) = 0 then (if v2 = 4 then ((F_X9_performancesOf N M1 v1).bind (fun r7 => (some (r7, M1)))) else (if v2 = 5 then ((F_X9_firstOf N M1 v1).bind (fun r6 => (some (r6, M1)))) else (if v2 = 6 then ((F_X9_lastOf N M1 v1).bind (fun r5 => (some (r5, M1)))) else (if v2 = 7 then ((F_X9_takings N M1 v1).bind (fun r4 => (some (r4, M1)))) else ((F_X9_d N M1 v1 v2).bind (fun r3 => (some (r3, M1)))))))) else (some ((0 : Int32), M1)))))
set_option maxHeartbeats 4000000 in
set_option maxRecDepth 100000 in
theorem B_X9_production_28 {p : Program} {l : Launch} {e : Env} {s : State} {m : MethodId} {args : Array Value} {below : List Frame} {meth : Method} {c : Code} {D : va_G} {G : Nat → ClassId} {A : Nat → Prop} (C : Cx p s m args meth c cX9_production 3 RX9 (some .int) D G) (hA : ∀ q : Nat, s.heap.size ≤ q → A q) (N : Nat) (a : Nat → Nat) (r : (Int32 × (Nat → Nat → Int32))) : (∀ (M : Nat → Nat → Int32) (v1 : Int32) (v2 : Int32) (s0 : Int32) (ls : Array Slot) (H : Heap) (locs : List Loc), va_P D vwCl (wM a G M) H → va_D A (wM a G M) → va_S A s.heap H locs → lv_has ls 3 [(0, .ref (a 0)), (1, .int v1), (2, .int v2)] → D_X9_production_28 N   M v1 v2 s0 = some r → W p l e ({ frames := 3, cells := 0, slots := 0, locals := 69 } : Room) s m args below meth c H locs 0 0 (MQ below (mQ D (wM a G r.2) (some (.int r.1)) A) args s 0 0 A) (F0 m 28 ls [.int s0, .ref (a 0)])) := by
  have C := C
  obtain ⟨hx, hb, hr, hml, hts, hown, hlocks, hK0⟩ := id C
  have hK := hK0.1
  intro M v1 v2 s0 ls H locs hP hD hS hl hV
  rw [D_X9_production_28] at hV
  refine va_put (D := D) (ci := 11) (v := .int s0) (ty := .int) (C := RX9) (T := TX9) (N := 16) hx hb hts ju_X9 tyX9 tyX9_ok nmX9 hown hK hP hD hS 0 rfl rfl 0 (by decide) (hts _ jq_15_2) (fun _ h9 => h9) rfl (by decide +kernel) rfl rfl (Nat.le_of_ble_eq_true rfl) dX9_production_28 (fun H locs hP hD hS => ?_)
  obtain ⟨M1, e9, hV⟩ := jLet hV
  have hP : va_P D vwCl (wM a G M1) H := by rw [e9]; exact hP
  have hD : va_D A (wM a G M1) := by rw [e9]; exact hD
  refine lv_aload_n hx hb dX9_production_31 rfl (lv_at hl 0 rfl) ?_
  refine va_get (D := D) (ci := 11) (v := .int (M1 0 0)) (C := RX9) (T := TX9) (N := 16) hx hb hts ju_X9 hown hK hP 0 rfl rfl 0 (by decide) (hts _ jq_15_2) (fun _ h9 => h9) rfl dX9_production_32 ?_
  refine lv_if_eq (tgt := 40) hx hb dX9_production_35 (by decide) (fun c8 => ?_) (fun c8 => ?_)
  · have hV := jT1 hV c8
    refine lv_iload_n hx hb dX9_production_40 rfl (lv_at hl 2 rfl) ?_
    by_cases c2_0 : v2 = 4
    · have hV := jT1 hV c2_0
      refine lv_tableIn (tgt := 72) hx hb dX9_production_41 (by rw [c2_0]; decide) (by rw [c2_0]; decide) (by rw [c2_0]; rfl) (by decide) ?_
      refine lv_aload_n hx hb dX9_production_72 rfl (lv_at hl 0 rfl) ?_
      refine lv_iload_n hx hb dX9_production_73 rfl (lv_at hl 1 rfl) ?_
      obtain ⟨r7, hr7, hV⟩ := jBind hV
      refine jVpI C dX9_production_74 (k_X9_performancesOf l D G a N M1 v1 r7 hr7) jy_X9_performancesOf jq_22_5 jq_22_6 jq_22_7 ⟨rfl, rfl, Nat.le_of_ble_eq_true rfl, Nat.le_of_ble_eq_true rfl⟩ ⟨Nat.le_of_ble_eq_true rfl, Nat.le_of_ble_eq_true rfl⟩ hP  (ci := 11) (iw := 0) rfl rfl rfl hl (rest := []) rfl (Nat.le_of_ble_eq_true rfl) ?_
      cases hV
      exact mRet C rfl dX9_production_77 rfl rfl hP hS
    · have hV := jF1 hV c2_0
      by_cases c2_1 : v2 = 5
      · have hV := jT1 hV c2_1
        refine lv_tableIn (tgt := 78) hx hb dX9_production_41 (by rw [c2_1]; decide) (by rw [c2_1]; decide) (by rw [c2_1]; rfl) (by decide) ?_
        refine lv_aload_n hx hb dX9_production_78 rfl (lv_at hl 0 rfl) ?_
        refine lv_iload_n hx hb dX9_production_79 rfl (lv_at hl 1 rfl) ?_
        obtain ⟨r6, hr6, hV⟩ := jBind hV
        refine jVpI C dX9_production_80 (k_X9_firstOf l D G a N M1 v1 r6 hr6) jy_X9_firstOf jq_17_20 jq_17_21 jq_17_22 ⟨rfl, rfl, Nat.le_of_ble_eq_true rfl, Nat.le_of_ble_eq_true rfl⟩ ⟨Nat.le_of_ble_eq_true rfl, Nat.le_of_ble_eq_true rfl⟩ hP  (ci := 11) (iw := 0) rfl rfl rfl hl (rest := []) rfl (Nat.le_of_ble_eq_true rfl) ?_
        cases hV
        exact mRet C rfl dX9_production_83 rfl rfl hP hS
      · have hV := jF1 hV c2_1
        by_cases c2_2 : v2 = 6
        · have hV := jT1 hV c2_2
          refine lv_tableIn (tgt := 84) hx hb dX9_production_41 (by rw [c2_2]; decide) (by rw [c2_2]; decide) (by rw [c2_2]; rfl) (by decide) ?_
          refine lv_aload_n hx hb dX9_production_84 rfl (lv_at hl 0 rfl) ?_
          refine lv_iload_n hx hb dX9_production_85 rfl (lv_at hl 1 rfl) ?_
          obtain ⟨r5, hr5, hV⟩ := jBind hV
          refine jVpI C dX9_production_86 (k_X9_lastOf l D G a N M1 v1 r5 hr5) jy_X9_lastOf jq_18_0 jq_18_1 jq_18_2 ⟨rfl, rfl, Nat.le_of_ble_eq_true rfl, Nat.le_of_ble_eq_true rfl⟩ ⟨Nat.le_of_ble_eq_true rfl, Nat.le_of_ble_eq_true rfl⟩ hP  (ci := 11) (iw := 0) rfl rfl rfl hl (rest := []) rfl (Nat.le_of_ble_eq_true rfl) ?_
          cases hV
          exact mRet C rfl dX9_production_89 rfl rfl hP hS
        · have hV := jF1 hV c2_2
          by_cases c2_3 : v2 = 7
          · have hV := jT1 hV c2_3
            refine lv_tableIn (tgt := 90) hx hb dX9_production_41 (by rw [c2_3]; decide) (by rw [c2_3]; decide) (by rw [c2_3]; rfl) (by decide) ?_
            refine lv_aload_n hx hb dX9_production_90 rfl (lv_at hl 0 rfl) ?_
            refine lv_iload_n hx hb dX9_production_91 rfl (lv_at hl 1 rfl) ?_
            obtain ⟨r4, hr4, hV⟩ := jBind hV
            refine jVpI C dX9_production_92 (k_X9_takings l D G a N M1 v1 r4 hr4) jy_X9_takings jq_22_9 jq_22_10 jq_22_11 ⟨rfl, rfl, Nat.le_of_ble_eq_true rfl, Nat.le_of_ble_eq_true rfl⟩ ⟨Nat.le_of_ble_eq_true rfl, Nat.le_of_ble_eq_true rfl⟩ hP  (ci := 11) (iw := 0) rfl rfl rfl hl (rest := []) rfl (Nat.le_of_ble_eq_true rfl) ?_
            cases hV
            exact mRet C rfl dX9_production_95 rfl rfl hP hS
          · have hV := jF1 hV c2_3
            refine jTabDef (tgt := 96) hx hb dX9_production_41 (fun k h1 h2 h3 => ?_) (by decide) ?_
            · rcases (show k = 4 ∨ k = 5 ∨ k = 6 ∨ k = 7 by omega) with rfl | rfl | rfl | rfl <;> first | rfl | exact absurd (Int32.toInt_inj.mp (h3.trans (by decide))) c2_0 | exact absurd (Int32.toInt_inj.mp (h3.trans (by decide))) c2_1 | exact absurd (Int32.toInt_inj.mp (h3.trans (by decide))) c2_2 | exact absurd (Int32.toInt_inj.mp (h3.trans (by decide))) c2_3
            · refine lv_aload_n hx hb dX9_production_96 rfl (lv_at hl 0 rfl) ?_
              refine lv_iload_n hx hb dX9_production_97 rfl (lv_at hl 1 rfl) ?_
              refine lv_iload_n hx hb dX9_production_98 rfl (lv_at hl 2 rfl) ?_
              obtain ⟨r3, hr3, hV⟩ := jBind hV
              refine jVpI C dX9_production_99 (k_X9_d l D G a N M1 v1 v2 r3 hr3) jy_X9_d jq_17_2 jq_17_3 jq_17_4 ⟨rfl, rfl, Nat.le_of_ble_eq_true rfl, Nat.le_of_ble_eq_true rfl⟩ ⟨Nat.le_of_ble_eq_true rfl, Nat.le_of_ble_eq_true rfl⟩ hP  (ci := 11) (iw := 0) rfl rfl rfl hl (rest := []) rfl (Nat.le_of_ble_eq_true rfl) ?_
              cases hV
              exact mRet C rfl dX9_production_102 rfl rfl hP hS
  · have hV := jF1 hV c8
    refine lv_iconst (v := 0) hx hb dX9_production_38 (by decide) ?_
    cases hV
    exact mRet C rfl dX9_production_39 rfl rfl hP hS
def F_X9_production (N : Nat)  (M : Nat → Nat → Int32) (v1 v2 : Int32) : Option (Int32 × (Nat → Nat → Int32)) := ((F_X9_isProduction N M v1).bind (fun r10 => (if r10 = 0 then (D_X9_production_28 N   M v1 v2 (1 : Int32)) else ((F_X9_in N  v2 (0 : Int32) (7 : Int32)).bind (fun r11 => (if r11 = 0 then (D_X9_production_28 N   M v1 v2 (2 : Int32)) else (D_X9_production_28 N   M v1 v2 (0 : Int32))))))))
set_option maxHeartbeats 4000000 in
set_option maxRecDepth 100000 in
theorem k_X9_production (l : Launch) (D : va_G) (G : Nat → ClassId) (a : Nat → Nat) (N : Nat) (M : Nat → Nat → Int32) (v1 v2 : Int32) (r : (Int32 × (Nat → Nat → Int32))) (hV : F_X9_production N  M v1 v2 = some r) : mM l yX9_production (jws yX9_production cX9_production 3 (some .int)) ({ frames := 3, cells := 0, slots := 0, locals := 69 } : Room) [.ref (a 0), .int v1, .int v2] D G (wM a G M) (wM a G r.2) (some (.int r.1)) := by
  refine mM_of (by decide +kernel) (Nat.le_of_ble_eq_true rfl) (fun p e s m args below meth c ls A C hP hD hA hl => ?_)
  have C : Cx p s m args meth c cX9_production 3 RX9 (some .int) D G := C
  have hS : va_S A s.heap s.heap [] := va_S.rf
  obtain ⟨hx, hb, hr, hml, hts, hown, hlocks, hK0⟩ := id C
  have hK := hK0.1
  have hl : lv_has ls 3 [(0, .ref (a 0)), (1, .int v1), (2, .int v2)] := hl
  rw [F_X9_production] at hV
  refine lv_aload_n hx hb dX9_production_0 rfl (lv_at hl 0 rfl) ?_
  refine lv_aload_n hx hb dX9_production_1 rfl (lv_at hl 0 rfl) ?_
  refine lv_iload_n hx hb dX9_production_2 rfl (lv_at hl 1 rfl) ?_
  obtain ⟨r10, hr10, hV⟩ := jBind hV
  refine jVpI C dX9_production_3 (k_X9_isProduction l D G a N M v1 r10 hr10) jy_X9_isProduction jq_22_1 jq_22_2 jq_22_3 ⟨rfl, rfl, Nat.le_of_ble_eq_true rfl, Nat.le_of_ble_eq_true rfl⟩ ⟨Nat.le_of_ble_eq_true rfl, Nat.le_of_ble_eq_true rfl⟩ hP  (ci := 11) (iw := 0) rfl rfl rfl hl (rest := [.ref (a 0)]) rfl (Nat.le_of_ble_eq_true rfl) ?_
  refine lv_if_ne (tgt := 13) hx hb dX9_production_6 (by decide) (fun c13 => ?_) (fun c13 => ?_)
  · have hV := jF1 hV c13
    refine lv_iload_n hx hb dX9_production_13 rfl (lv_at hl 2 rfl) ?_
    refine lv_iconst (v := 0) hx hb dX9_production_14 (by decide) ?_
    refine lv_bipush (v := 7) hx hb dX9_production_15 (by decide) ?_
    obtain ⟨r11, hr11, hV⟩ := jBind hV
    refine jSpI C dX9_production_17 (k_X9_in l D G  N  v2 (0 : Int32) (7 : Int32) r11 hr11) jy_X9_in jq_13_1 jq_13_2 ⟨rfl, rfl, Nat.le_of_ble_eq_true rfl, Nat.le_of_ble_eq_true rfl⟩ ⟨Nat.le_of_ble_eq_true rfl, Nat.le_of_ble_eq_true rfl⟩ jE  hl (rest := [.ref (a 0)]) rfl (Nat.le_of_ble_eq_true rfl) ?_
    refine lv_if_eq (tgt := 27) hx hb dX9_production_20 (by decide) (fun c12 => ?_) (fun c12 => ?_)
    · have hV := jT1 hV c12
      refine lv_iconst (v := 2) hx hb dX9_production_27 (by decide) ?_
      exact B_X9_production_28 C hA N a r   M v1 v2 (2 : Int32) _ _ _ hP hD hS (lv_sub hl [0, 1, 2] rfl) hV
    · have hV := jF1 hV c12
      refine lv_iconst (v := 0) hx hb dX9_production_23 (by decide) ?_
      refine lv_goto (tgt := 28) hx hb dX9_production_24 (by decide) ?_
      exact B_X9_production_28 C hA N a r   M v1 v2 (0 : Int32) _ _ _ hP hD hS (lv_sub hl [0, 1, 2] rfl) hV
  · have hV := jT1 hV c13
    refine lv_iconst (v := 1) hx hb dX9_production_9 (by decide) ?_
    refine lv_goto (tgt := 28) hx hb dX9_production_10 (by decide) ?_
    exact B_X9_production_28 C hA N a r   M v1 v2 (1 : Int32) _ _ _ hP hD hS (lv_sub hl [0, 1, 2] rfl) hV
theorem jy_X9_lays : jY yX9_lays cX9_lays 5 none 4 := ⟨by decide +kernel, jq_24_14, jq_1_5⟩
def F_X9_lays (N : Nat)  (M : Nat → Nat → Int32) (v1 v2 v3 v4 : Int32) : Option (Nat → Nat → Int32) := (if inb (((39 : Int32) + ((4 : Int32) * v1)) + (0 : Int32)) 2169 = true then (jlet (stA M 1 (((39 : Int32) + ((4 : Int32) * v1)) + (0 : Int32)) v2) (fun M2 => (if inb (((39 : Int32) + ((4 : Int32) * v1)) + (1 : Int32)) 2169 = true then (jlet (stA M2 1 (((39 : Int32) + ((4 : Int32) * v1)) + (1 : Int32)) v3) (fun M4 => (if inb (((39 : Int32) + ((4 : Int32) * v1)) + (2 : Int32)) 2169 = true then (jlet (stA M4 1 (((39 : Int32) + ((4 : Int32) * v1)) + (2 : Int32)) v4) (fun M6 => (if inb (((39 : Int32) + ((4 : Int32) * v1)) + (3 : Int32)) 2169 = true then (jlet (stA M6 1 (((39 : Int32) + ((4 : Int32) * v1)) + (3 : Int32)) (0 : Int32)) (fun M8 => (if inb ((135 : Int32) + v1) 2169 = true then (jlet (stA M8 1 ((135 : Int32) + v1) (0 : Int32)) (fun M10 => (some M10))) else none))) else none))) else none))) else none))) else none)
set_option maxHeartbeats 4000000 in
set_option maxRecDepth 100000 in
theorem k_X9_lays (l : Launch) (D : va_G) (G : Nat → ClassId) (a : Nat → Nat) (N : Nat) (M : Nat → Nat → Int32) (v1 v2 v3 v4 : Int32) (r : (Nat → Nat → Int32)) (hV : F_X9_lays N  M v1 v2 v3 v4 = some r) : mM l yX9_lays (jws yX9_lays cX9_lays 5 none) ({ frames := 0, cells := 0, slots := 0, locals := 0 } : Room) [.ref (a 0), .int v1, .int v2, .int v3, .int v4] D G (wM a G M) (wM a G r) none := by
  refine mM_of (by decide +kernel) (Nat.le_of_ble_eq_true rfl) (fun p e s m args below meth c ls A C hP hD hA hl => ?_)
  have C : Cx p s m args meth c cX9_lays 5 RX9 none D G := C
  have hS : va_S A s.heap s.heap [] := va_S.rf
  obtain ⟨hx, hb, hr, hml, hts, hown, hlocks, hK0⟩ := id C
  have hK := hK0.1
  have hl : lv_has ls 5 [(0, .ref (a 0)), (1, .int v1), (2, .int v2), (3, .int v3), (4, .int v4)] := hl
  rw [F_X9_lays] at hV
  refine lv_aload_n hx hb dX9_lays_0 rfl (lv_at hl 0 rfl) ?_
  refine va_get (D := D) (ci := 11) (v := .ref (a 1)) (C := RX9) (T := TX9) (N := 16) hx hb hts ju_X9 hown hK hP 0 rfl rfl 1 (by decide) (hts _ jq_6_1) (fun _ h9 => h9) rfl dX9_lays_1 ?_
  refine lv_bipush (v := 39) hx hb dX9_lays_4 (by decide) ?_
  refine lv_iconst (v := 4) hx hb dX9_lays_6 (by decide) ?_
  refine lv_iload_n hx hb dX9_lays_7 rfl (lv_at hl 1 rfl) ?_
  refine lv_imul hx hb dX9_lays_8 ?_
  refine lv_iadd hx hb dX9_lays_9 ?_
  refine lv_iconst (v := 0) hx hb dX9_lays_10 (by decide) ?_
  refine lv_iadd hx hb dX9_lays_11 ?_
  refine lv_iload_n hx hb dX9_lays_12 rfl (lv_at hl 2 rfl) ?_
  obtain ⟨g1, hV⟩ := jIf hV
  refine va_iast (D := D) (n := 2169) (f := (M 1)) hx hb hK hP hD hS 1 0 rfl rfl (inb_of g1) dX9_lays_13 (fun H locs hP hD hS => ?_)
  obtain ⟨M2, e15, hV⟩ := jLet hV
  have hP : va_P D vwCl (wM a G M2) H := by rw [e15]; exact hP
  have hD : va_D A (wM a G M2) := by rw [e15]; exact hD
  refine lv_aload_n hx hb dX9_lays_14 rfl (lv_at hl 0 rfl) ?_
  refine va_get (D := D) (ci := 11) (v := .ref (a 1)) (C := RX9) (T := TX9) (N := 16) hx hb hts ju_X9 hown hK hP 0 rfl rfl 1 (by decide) (hts _ jq_6_1) (fun _ h9 => h9) rfl dX9_lays_15 ?_
  refine lv_bipush (v := 39) hx hb dX9_lays_18 (by decide) ?_
  refine lv_iconst (v := 4) hx hb dX9_lays_20 (by decide) ?_
  refine lv_iload_n hx hb dX9_lays_21 rfl (lv_at hl 1 rfl) ?_
  refine lv_imul hx hb dX9_lays_22 ?_
  refine lv_iadd hx hb dX9_lays_23 ?_
  refine lv_iconst (v := 1) hx hb dX9_lays_24 (by decide) ?_
  refine lv_iadd hx hb dX9_lays_25 ?_
  refine lv_iload_n hx hb dX9_lays_26 rfl (lv_at hl 3 rfl) ?_
  obtain ⟨g3, hV⟩ := jIf hV
  refine va_iast (D := D) (n := 2169) (f := (M2 1)) hx hb hK hP hD hS 1 0 rfl rfl (inb_of g3) dX9_lays_27 (fun H locs hP hD hS => ?_)
  obtain ⟨M4, e14, hV⟩ := jLet hV
  have hP : va_P D vwCl (wM a G M4) H := by rw [e14]; exact hP
  have hD : va_D A (wM a G M4) := by rw [e14]; exact hD
  refine lv_aload_n hx hb dX9_lays_28 rfl (lv_at hl 0 rfl) ?_
  refine va_get (D := D) (ci := 11) (v := .ref (a 1)) (C := RX9) (T := TX9) (N := 16) hx hb hts ju_X9 hown hK hP 0 rfl rfl 1 (by decide) (hts _ jq_6_1) (fun _ h9 => h9) rfl dX9_lays_29 ?_
  refine lv_bipush (v := 39) hx hb dX9_lays_32 (by decide) ?_
  refine lv_iconst (v := 4) hx hb dX9_lays_34 (by decide) ?_
  refine lv_iload_n hx hb dX9_lays_35 rfl (lv_at hl 1 rfl) ?_
  refine lv_imul hx hb dX9_lays_36 ?_
  refine lv_iadd hx hb dX9_lays_37 ?_
  refine lv_iconst (v := 2) hx hb dX9_lays_38 (by decide) ?_
  refine lv_iadd hx hb dX9_lays_39 ?_
  refine lv_iload hx hb dX9_lays_40 (lv_at hl 4 rfl) ?_
  obtain ⟨g5, hV⟩ := jIf hV
  refine va_iast (D := D) (n := 2169) (f := (M4 1)) hx hb hK hP hD hS 1 0 rfl rfl (inb_of g5) dX9_lays_42 (fun H locs hP hD hS => ?_)
  obtain ⟨M6, e13, hV⟩ := jLet hV
  have hP : va_P D vwCl (wM a G M6) H := by rw [e13]; exact hP
  have hD : va_D A (wM a G M6) := by rw [e13]; exact hD
  refine lv_aload_n hx hb dX9_lays_43 rfl (lv_at hl 0 rfl) ?_
  refine va_get (D := D) (ci := 11) (v := .ref (a 1)) (C := RX9) (T := TX9) (N := 16) hx hb hts ju_X9 hown hK hP 0 rfl rfl 1 (by decide) (hts _ jq_6_1) (fun _ h9 => h9) rfl dX9_lays_44 ?_
  refine lv_bipush (v := 39) hx hb dX9_lays_47 (by decide) ?_
  refine lv_iconst (v := 4) hx hb dX9_lays_49 (by decide) ?_
  refine lv_iload_n hx hb dX9_lays_50 rfl (lv_at hl 1 rfl) ?_
  refine lv_imul hx hb dX9_lays_51 ?_
  refine lv_iadd hx hb dX9_lays_52 ?_
  refine lv_iconst (v := 3) hx hb dX9_lays_53 (by decide) ?_
  refine lv_iadd hx hb dX9_lays_54 ?_
  refine lv_iconst (v := 0) hx hb dX9_lays_55 (by decide) ?_
  obtain ⟨g7, hV⟩ := jIf hV
  refine va_iast (D := D) (n := 2169) (f := (M6 1)) hx hb hK hP hD hS 1 0 rfl rfl (inb_of g7) dX9_lays_56 (fun H locs hP hD hS => ?_)
  obtain ⟨M8, e12, hV⟩ := jLet hV
  have hP : va_P D vwCl (wM a G M8) H := by rw [e12]; exact hP
  have hD : va_D A (wM a G M8) := by rw [e12]; exact hD
  refine lv_aload_n hx hb dX9_lays_57 rfl (lv_at hl 0 rfl) ?_
  refine va_get (D := D) (ci := 11) (v := .ref (a 1)) (C := RX9) (T := TX9) (N := 16) hx hb hts ju_X9 hown hK hP 0 rfl rfl 1 (by decide) (hts _ jq_6_1) (fun _ h9 => h9) rfl dX9_lays_58 ?_
  refine lv_sipush (v := 135) hx hb dX9_lays_61 (by decide) ?_
  refine lv_iload_n hx hb dX9_lays_64 rfl (lv_at hl 1 rfl) ?_
  refine lv_iadd hx hb dX9_lays_65 ?_
  refine lv_iconst (v := 0) hx hb dX9_lays_66 (by decide) ?_
  obtain ⟨g9, hV⟩ := jIf hV
  refine va_iast (D := D) (n := 2169) (f := (M8 1)) hx hb hK hP hD hS 1 0 rfl rfl (inb_of g9) dX9_lays_67 (fun H locs hP hD hS => ?_)
  obtain ⟨M10, e11, hV⟩ := jLet hV
  have hP : va_P D vwCl (wM a G M10) H := by rw [e11]; exact hP
  have hD : va_D A (wM a G M10) := by rw [e11]; exact hD
  cases hV
  exact mRetV C dX9_lays_68 hP hS
theorem jy_X9_performs : jY yX9_performs cX9_performs 5 (some .int) 3 := ⟨by decide +kernel, jq_24_7, jq_1_5⟩
def F_X9_performs (N : Nat)  (M : Nat → Nat → Int32) (v1 v2 v3 : Int32) : Option (Int32 × (Nat → Nat → Int32)) := ((F_X9_isProduction N M v1).bind (fun r1 => (if r1 = 0 then (some ((1 : Int32), M)) else ((F_X9_isStage N  v2).bind (fun r2 => (if r2 = 0 then (some ((1 : Int32), M)) else ((F_X9_isDate N  v3).bind (fun r3 => (if r3 = 0 then (some ((2 : Int32), M)) else (if inb (38 : Int32) 2169 = true then (if ((M 1) (38 : Int32).toNatClampNeg) = (24 : Int32) then (some ((3 : Int32), M)) else ((F_X9_lays N M ((M 1) (38 : Int32).toNatClampNeg) v1 v2 v3).bind (fun r5 => (if inb (38 : Int32) 2169 = true then (if inb (38 : Int32) 2169 = true then (jlet (stA r5 1 (38 : Int32) (((r5 1) (38 : Int32).toNatClampNeg) + (1 : Int32))) (fun M8 => (jlet (stF M8 6 ((M 1) (38 : Int32).toNatClampNeg)) (fun M9 => ((F_X9_hinders N M9 ((M 1) (38 : Int32).toNatClampNeg)).bind (fun r10 => (if r10.1 = 0 then ((F_X9_isHindered N r10.2 (0 : Int32)).bind (fun r11 => (if r11.1 = 0 then (some ((0 : Int32), r11.2)) else (some ((4 : Int32), r11.2))))) else ((F_X9_isHindered N r10.2 (1 : Int32)).bind (fun r13 => (if r13.1 = 0 then (some ((0 : Int32), r13.2)) else (some ((4 : Int32), r13.2)))))))))))) else none) else none)))) else none))))))))))
set_option maxHeartbeats 4000000 in
set_option maxRecDepth 100000 in
theorem k_X9_performs (l : Launch) (D : va_G) (G : Nat → ClassId) (a : Nat → Nat) (N : Nat) (M : Nat → Nat → Int32) (v1 v2 v3 : Int32) (r : (Int32 × (Nat → Nat → Int32))) (hV : F_X9_performs N  M v1 v2 v3 = some r) : mM l yX9_performs (jws yX9_performs cX9_performs 5 (some .int)) ({ frames := 5, cells := 0, slots := 0, locals := 113 } : Room) [.ref (a 0), .int v1, .int v2, .int v3] D G (wM a G M) (wM a G r.2) (some (.int r.1)) := by
  refine mM_of (by decide +kernel) (Nat.le_of_ble_eq_true rfl) (fun p e s m args below meth c ls A C hP hD hA hl => ?_)
  have C : Cx p s m args meth c cX9_performs 5 RX9 (some .int) D G := C
  have hS : va_S A s.heap s.heap [] := va_S.rf
  obtain ⟨hx, hb, hr, hml, hts, hown, hlocks, hK0⟩ := id C
  have hK := hK0.1
  have hl : lv_has ls 5 [(0, .ref (a 0)), (1, .int v1), (2, .int v2), (3, .int v3)] := hl
  rw [F_X9_performs] at hV
  refine lv_aload_n hx hb dX9_performs_0 rfl (lv_at hl 0 rfl) ?_
  refine lv_iload_n hx hb dX9_performs_1 rfl (lv_at hl 1 rfl) ?_
  obtain ⟨r1, hr1, hV⟩ := jBind hV
  refine jVpI C dX9_performs_2 (k_X9_isProduction l D G a N M v1 r1 hr1) jy_X9_isProduction jq_22_1 jq_22_2 jq_22_3 ⟨rfl, rfl, Nat.le_of_ble_eq_true rfl, Nat.le_of_ble_eq_true rfl⟩ ⟨Nat.le_of_ble_eq_true rfl, Nat.le_of_ble_eq_true rfl⟩ hP  (ci := 11) (iw := 0) rfl rfl rfl hl (rest := []) rfl (Nat.le_of_ble_eq_true rfl) ?_
  refine lv_if_eq (tgt := 15) hx hb dX9_performs_5 (by decide) (fun c21 => ?_) (fun c21 => ?_)
  · have hV := jT1 hV c21
    refine lv_iconst (v := 1) hx hb dX9_performs_15 (by decide) ?_
    cases hV
    exact mRet C rfl dX9_performs_16 rfl rfl hP hS
  · have hV := jF1 hV c21
    refine lv_iload_n hx hb dX9_performs_8 rfl (lv_at hl 2 rfl) ?_
    obtain ⟨r2, hr2, hV⟩ := jBind hV
    refine jSpI C dX9_performs_9 (k_X9_isStage l D G  N  v2 r2 hr2) jy_X9_isStage jq_12_22 jq_12_23 ⟨rfl, rfl, Nat.le_of_ble_eq_true rfl, Nat.le_of_ble_eq_true rfl⟩ ⟨Nat.le_of_ble_eq_true rfl, Nat.le_of_ble_eq_true rfl⟩ jE  hl (rest := []) rfl (Nat.le_of_ble_eq_true rfl) ?_
    refine lv_if_ne (tgt := 17) hx hb dX9_performs_12 (by decide) (fun c20 => ?_) (fun c20 => ?_)
    · have hV := jF1 hV c20
      refine lv_iload_n hx hb dX9_performs_17 rfl (lv_at hl 3 rfl) ?_
      obtain ⟨r3, hr3, hV⟩ := jBind hV
      refine jSpI C dX9_performs_18 (k_X9_isDate l D G  N  v3 r3 hr3) jy_X9_isDate jq_24_8 jq_24_9 ⟨rfl, rfl, Nat.le_of_ble_eq_true rfl, Nat.le_of_ble_eq_true rfl⟩ ⟨Nat.le_of_ble_eq_true rfl, Nat.le_of_ble_eq_true rfl⟩ jE  hl (rest := []) rfl (Nat.le_of_ble_eq_true rfl) ?_
      refine lv_if_ne (tgt := 26) hx hb dX9_performs_21 (by decide) (fun c19 => ?_) (fun c19 => ?_)
      · have hV := jF1 hV c19
        refine lv_aload_n hx hb dX9_performs_26 rfl (lv_at hl 0 rfl) ?_
        refine va_get (D := D) (ci := 11) (v := .ref (a 1)) (C := RX9) (T := TX9) (N := 16) hx hb hts ju_X9 hown hK hP 0 rfl rfl 1 (by decide) (hts _ jq_6_1) (fun _ h9 => h9) rfl dX9_performs_27 ?_
        refine lv_bipush (v := 38) hx hb dX9_performs_30 (by decide) ?_
        obtain ⟨g4, hV⟩ := jIf hV
        refine va_iald (D := D) (n := 2169) (f := (M 1)) hx hb hK hP 1 0 rfl rfl (inb_of g4) dX9_performs_32 ?_
        refine lv_istore (lv' := [(4, .int ((M 1) (38 : Int32).toNatClampNeg)), (0, .ref (a 0)), (1, .int v1), (2, .int v2), (3, .int v3)]) hx hb dX9_performs_33 hl (by decide) rfl (fun ls hl => ?_)
        refine lv_iload hx hb dX9_performs_35 (lv_at hl 0 rfl) ?_
        refine lv_bipush (v := 24) hx hb dX9_performs_37 (by decide) ?_
        refine lv_icmp_ne (tgt := 44) hx hb dX9_performs_39 (by decide) (fun c18 => ?_) (fun c18 => ?_)
        · have hV := jF1 hV c18
          refine lv_aload_n hx hb dX9_performs_44 rfl (lv_at hl 1 rfl) ?_
          refine lv_iload hx hb dX9_performs_45 (lv_at hl 0 rfl) ?_
          refine lv_iload_n hx hb dX9_performs_47 rfl (lv_at hl 2 rfl) ?_
          refine lv_iload_n hx hb dX9_performs_48 rfl (lv_at hl 3 rfl) ?_
          refine lv_iload_n hx hb dX9_performs_49 rfl (lv_at hl 4 rfl) ?_
          obtain ⟨r5, hr5, hV⟩ := jBind hV
          refine jVmV C dX9_performs_50 (k_X9_lays l D G a N M ((M 1) (38 : Int32).toNatClampNeg) v1 v2 v3 r5 hr5) jy_X9_lays jq_24_11 jq_24_12 jq_24_13 ⟨rfl, rfl, Nat.le_of_ble_eq_true rfl, Nat.le_of_ble_eq_true rfl⟩ ⟨Nat.le_of_ble_eq_true rfl, Nat.le_of_ble_eq_true rfl⟩ hP hD hA hS (ci := 11) (iw := 0) rfl rfl rfl hl (rest := []) rfl (Nat.le_of_ble_eq_true rfl) (fun H locs hQ hz hkp hS => ?_)
          have hP : va_P D vwCl (wM a G r5) H := hQ
          have hD : va_D A (wM a G r5) := jD (w := (wM a G M)) rfl hD
          refine lv_aload_n hx hb dX9_performs_53 rfl (lv_at hl 1 rfl) ?_
          refine va_get (D := D) (ci := 11) (v := .ref (a 1)) (C := RX9) (T := TX9) (N := 16) hx hb hts ju_X9 hown hK hP 0 rfl rfl 1 (by decide) (hts _ jq_6_1) (fun _ h9 => h9) rfl dX9_performs_54 ?_
          refine lv_bipush (v := 38) hx hb dX9_performs_57 (by decide) ?_
          refine lv_dup2_11 hx hb dX9_performs_59 rfl rfl ?_
          obtain ⟨g6, hV⟩ := jIf hV
          refine va_iald (D := D) (n := 2169) (f := (r5 1)) hx hb hK hP 1 0 rfl rfl (inb_of g6) dX9_performs_60 ?_
          refine lv_iconst (v := 1) hx hb dX9_performs_61 (by decide) ?_
          refine lv_iadd hx hb dX9_performs_62 ?_
          obtain ⟨g7, hV⟩ := jIf hV
          refine va_iast (D := D) (n := 2169) (f := (r5 1)) hx hb hK hP hD hS 1 0 rfl rfl (inb_of g7) dX9_performs_63 (fun H locs hP hD hS => ?_)
          obtain ⟨M8, e17, hV⟩ := jLet hV
          have hP : va_P D vwCl (wM a G M8) H := by rw [e17]; exact hP
          have hD : va_D A (wM a G M8) := by rw [e17]; exact hD
          refine lv_aload_n hx hb dX9_performs_64 rfl (lv_at hl 1 rfl) ?_
          refine lv_iload hx hb dX9_performs_65 (lv_at hl 0 rfl) ?_
          refine va_put (D := D) (ci := 11) (v := .int ((M 1) (38 : Int32).toNatClampNeg)) (ty := .int) (C := RX9) (T := TX9) (N := 16) hx hb hts ju_X9 tyX9 tyX9_ok nmX9 hown hK hP hD hS 0 rfl rfl 6 (by decide) (hts _ jq_12_21) (fun _ h9 => h9) rfl (by decide +kernel) rfl rfl (Nat.le_of_ble_eq_true rfl) dX9_performs_67 (fun H locs hP hD hS => ?_)
          obtain ⟨M9, e16, hV⟩ := jLet hV
          have hP : va_P D vwCl (wM a G M9) H := by rw [e16]; exact hP
          have hD : va_D A (wM a G M9) := by rw [e16]; exact hD
          refine lv_aload_n hx hb dX9_performs_70 rfl (lv_at hl 1 rfl) ?_
          refine lv_aload_n hx hb dX9_performs_71 rfl (lv_at hl 1 rfl) ?_
          refine lv_iload hx hb dX9_performs_72 (lv_at hl 0 rfl) ?_
          obtain ⟨r10, hr10, hV⟩ := jBind hV
          refine jVmI C dX9_performs_74 (k_X9_hinders l D G a N M9 ((M 1) (38 : Int32).toNatClampNeg) r10 hr10) jy_X9_hinders jq_24_15 jq_24_16 jq_24_17 ⟨rfl, rfl, Nat.le_of_ble_eq_true rfl, Nat.le_of_ble_eq_true rfl⟩ ⟨Nat.le_of_ble_eq_true rfl, Nat.le_of_ble_eq_true rfl⟩ hP hD hA hS (ci := 11) (iw := 0) rfl rfl rfl hl (rest := [.ref (a 0)]) rfl (Nat.le_of_ble_eq_true rfl) (fun H locs hQ hz hkp hS => ?_)
          have hP : va_P D vwCl (wM a G r10.2) H := hQ
          have hD : va_D A (wM a G r10.2) := jD (w := (wM a G M9)) rfl hD
          refine lv_if_eq (tgt := 84) hx hb dX9_performs_77 (by decide) (fun c15 => ?_) (fun c15 => ?_)
          · have hV := jT1 hV c15
            refine lv_iconst (v := 0) hx hb dX9_performs_84 (by decide) ?_
            obtain ⟨r11, hr11, hV⟩ := jBind hV
            refine jVmI C dX9_performs_85 (k_X9_isHindered l D G a N r10.2 (0 : Int32) r11 hr11) jy_X9_isHindered jq_18_8 jq_18_9 jq_18_10 ⟨rfl, rfl, Nat.le_of_ble_eq_true rfl, Nat.le_of_ble_eq_true rfl⟩ ⟨Nat.le_of_ble_eq_true rfl, Nat.le_of_ble_eq_true rfl⟩ hP hD hA hS (ci := 11) (iw := 0) rfl rfl rfl hl (rest := []) rfl (Nat.le_of_ble_eq_true rfl) (fun H locs hQ hz hkp hS => ?_)
            have hP : va_P D vwCl (wM a G r11.2) H := hQ
            have hD : va_D A (wM a G r11.2) := jD (w := (wM a G r10.2)) rfl hD
            refine lv_if_eq (tgt := 95) hx hb dX9_performs_88 (by decide) (fun c12 => ?_) (fun c12 => ?_)
            · have hV := jT1 hV c12
              refine lv_iconst (v := 0) hx hb dX9_performs_95 (by decide) ?_
              cases hV
              exact mRet C rfl dX9_performs_96 rfl rfl hP hS
            · have hV := jF1 hV c12
              refine lv_iconst (v := 4) hx hb dX9_performs_91 (by decide) ?_
              refine lv_goto (tgt := 96) hx hb dX9_performs_92 (by decide) ?_
              cases hV
              exact mRet C rfl dX9_performs_96 rfl rfl hP hS
          · have hV := jF1 hV c15
            refine lv_iconst (v := 1) hx hb dX9_performs_80 (by decide) ?_
            refine lv_goto (tgt := 85) hx hb dX9_performs_81 (by decide) ?_
            obtain ⟨r13, hr13, hV⟩ := jBind hV
            refine jVmI C dX9_performs_85 (k_X9_isHindered l D G a N r10.2 (1 : Int32) r13 hr13) jy_X9_isHindered jq_18_8 jq_18_9 jq_18_10 ⟨rfl, rfl, Nat.le_of_ble_eq_true rfl, Nat.le_of_ble_eq_true rfl⟩ ⟨Nat.le_of_ble_eq_true rfl, Nat.le_of_ble_eq_true rfl⟩ hP hD hA hS (ci := 11) (iw := 0) rfl rfl rfl hl (rest := []) rfl (Nat.le_of_ble_eq_true rfl) (fun H locs hQ hz hkp hS => ?_)
            have hP : va_P D vwCl (wM a G r13.2) H := hQ
            have hD : va_D A (wM a G r13.2) := jD (w := (wM a G r10.2)) rfl hD
            refine lv_if_eq (tgt := 95) hx hb dX9_performs_88 (by decide) (fun c14 => ?_) (fun c14 => ?_)
            · have hV := jT1 hV c14
              refine lv_iconst (v := 0) hx hb dX9_performs_95 (by decide) ?_
              cases hV
              exact mRet C rfl dX9_performs_96 rfl rfl hP hS
            · have hV := jF1 hV c14
              refine lv_iconst (v := 4) hx hb dX9_performs_91 (by decide) ?_
              refine lv_goto (tgt := 96) hx hb dX9_performs_92 (by decide) ?_
              cases hV
              exact mRet C rfl dX9_performs_96 rfl rfl hP hS
        · have hV := jT1 hV c18
          refine lv_iconst (v := 3) hx hb dX9_performs_42 (by decide) ?_
          cases hV
          exact mRet C rfl dX9_performs_43 rfl rfl hP hS
      · have hV := jT1 hV c19
        refine lv_iconst (v := 2) hx hb dX9_performs_24 (by decide) ?_
        cases hV
        exact mRet C rfl dX9_performs_25 rfl rfl hP hS
    · have hV := jT1 hV c20
      refine lv_iconst (v := 1) hx hb dX9_performs_15 (by decide) ?_
      cases hV
      exact mRet C rfl dX9_performs_16 rfl rfl hP hS
theorem jy_X9_perform : jY yX9_perform cX9_perform 4 (some .int) 3 := ⟨by decide +kernel, jq_24_3, jq_1_5⟩
def F_X9_perform (N : Nat)  (M : Nat → Nat → Int32) (v1 v2 v3 : Int32) : Option (Int32 × (Nat → Nat → Int32)) := ((F_X9_begins N M ).bind (fun r1 => ((F_X9_performs N r1 v1 v2 v3).bind (fun r2 => ((F_X9_ends N r2.2 r2.1 (2 : Int32) (3 : Int32) (4 : Int32)).bind (fun r3 => (some (r3.1, r3.2))))))))
set_option maxHeartbeats 4000000 in
set_option maxRecDepth 100000 in
theorem k_X9_perform (l : Launch) (D : va_G) (G : Nat → ClassId) (a : Nat → Nat) (N : Nat) (M : Nat → Nat → Int32) (v1 v2 v3 : Int32) (r : (Int32 × (Nat → Nat → Int32))) (hV : F_X9_perform N  M v1 v2 v3 = some r) : mM l yX9_perform (jws yX9_perform cX9_perform 4 (some .int)) ({ frames := 6, cells := 0, slots := 0, locals := 137 } : Room) [.ref (a 0), .int v1, .int v2, .int v3] D G (wM a G M) (wM a G r.2) (some (.int r.1)) := by
  refine mM_of (by decide +kernel) (Nat.le_of_ble_eq_true rfl) (fun p e s m args below meth c ls A C hP hD hA hl => ?_)
  have C : Cx p s m args meth c cX9_perform 4 RX9 (some .int) D G := C
  have hS : va_S A s.heap s.heap [] := va_S.rf
  obtain ⟨hx, hb, hr, hml, hts, hown, hlocks, hK0⟩ := id C
  have hK := hK0.1
  have hl : lv_has ls 4 [(0, .ref (a 0)), (1, .int v1), (2, .int v2), (3, .int v3)] := hl
  rw [F_X9_perform] at hV
  refine lv_aload_n hx hb dX9_perform_0 rfl (lv_at hl 0 rfl) ?_
  obtain ⟨r1, hr1, hV⟩ := jBind hV
  refine jVmV C dX9_perform_1 (k_X9_begins l D G a N M  r1 hr1) jy_X9_begins jq_12_9 jq_12_10 jq_12_11 ⟨rfl, rfl, Nat.le_of_ble_eq_true rfl, Nat.le_of_ble_eq_true rfl⟩ ⟨Nat.le_of_ble_eq_true rfl, Nat.le_of_ble_eq_true rfl⟩ hP hD hA hS (ci := 11) (iw := 0) rfl rfl rfl hl (rest := []) rfl (Nat.le_of_ble_eq_true rfl) (fun H locs hQ hz hkp hS => ?_)
  have hP : va_P D vwCl (wM a G r1) H := hQ
  have hD : va_D A (wM a G r1) := jD (w := (wM a G M)) rfl hD
  refine lv_aload_n hx hb dX9_perform_4 rfl (lv_at hl 0 rfl) ?_
  refine lv_aload_n hx hb dX9_perform_5 rfl (lv_at hl 0 rfl) ?_
  refine lv_iload_n hx hb dX9_perform_6 rfl (lv_at hl 1 rfl) ?_
  refine lv_iload_n hx hb dX9_perform_7 rfl (lv_at hl 2 rfl) ?_
  refine lv_iload_n hx hb dX9_perform_8 rfl (lv_at hl 3 rfl) ?_
  obtain ⟨r2, hr2, hV⟩ := jBind hV
  refine jVmI C dX9_perform_9 (k_X9_performs l D G a N r1 v1 v2 v3 r2 hr2) jy_X9_performs jq_24_4 jq_24_5 jq_24_6 ⟨rfl, rfl, Nat.le_of_ble_eq_true rfl, Nat.le_of_ble_eq_true rfl⟩ ⟨Nat.le_of_ble_eq_true rfl, Nat.le_of_ble_eq_true rfl⟩ hP hD hA hS (ci := 11) (iw := 0) rfl rfl rfl hl (rest := [.ref (a 0)]) rfl (Nat.le_of_ble_eq_true rfl) (fun H locs hQ hz hkp hS => ?_)
  have hP : va_P D vwCl (wM a G r2.2) H := hQ
  have hD : va_D A (wM a G r2.2) := jD (w := (wM a G r1)) rfl hD
  refine lv_iconst (v := 2) hx hb dX9_perform_12 (by decide) ?_
  refine lv_iconst (v := 3) hx hb dX9_perform_13 (by decide) ?_
  refine lv_iconst (v := 4) hx hb dX9_perform_14 (by decide) ?_
  obtain ⟨r3, hr3, hV⟩ := jBind hV
  refine jVmI C dX9_perform_15 (k_X9_ends l D G a N r2.2 r2.1 (2 : Int32) (3 : Int32) (4 : Int32) r3 hr3) jy_X9_ends jq_14_22 jq_14_23 jq_15_0 ⟨rfl, rfl, Nat.le_of_ble_eq_true rfl, Nat.le_of_ble_eq_true rfl⟩ ⟨Nat.le_of_ble_eq_true rfl, Nat.le_of_ble_eq_true rfl⟩ hP hD hA hS (ci := 11) (iw := 0) rfl rfl rfl hl (rest := []) rfl (Nat.le_of_ble_eq_true rfl) (fun H locs hQ hz hkp hS => ?_)
  have hP : va_P D vwCl (wM a G r3.2) H := hQ
  have hD : va_D A (wM a G r3.2) := jD (w := (wM a G r2.2)) rfl hD
  cases hV
  exact mRet C rfl dX9_perform_18 rfl rfl hP hS
theorem jy_X9_cancels : jY yX9_cancels cX9_cancels 4 (some .int) 1 := ⟨by decide +kernel, jq_26_0, jq_1_5⟩
def D_X9_cancels_113 (N : Nat)  (k100 : (Nat → Nat → Int32) → Int32 → Option (Int32 × (Nat → Nat → Int32))) : Nat → (Nat → Nat → Int32) → Int32 → Int32 → Option (Int32 × (Nat → Nat → Int32))
  | 0, _, _, _ => none
  | n + 1, M, v2, v3 => (if (4 : Int32) ≤ v3 then (if inb (((135 : Int32) + v2) + (1 : Int32)) 2169 = true then (if inb ((135 : Int32) + v2) 2169 = true then (jlet (stA M 1 ((135 : Int32) + v2) ((M 1) (((135 : Int32) + v2) + (1 : Int32)).toNatClampNeg)) (fun M3 => (k100 M3 (v2 + 1)))) else none) else none) else (if inb ((((39 : Int32) + ((4 : Int32) * v2)) + (4 : Int32)) + v3) 2169 = true then (if inb (((39 : Int32) + ((4 : Int32) * v2)) + v3) 2169 = true then (jlet (stA M 1 (((39 : Int32) + ((4 : Int32) * v2)) + v3) ((M 1) ((((39 : Int32) + ((4 : Int32) * v2)) + (4 : Int32)) + v3).toNatClampNeg)) (fun M7 => (D_X9_cancels_113 N  k100 n M7 v2 (v3 + 1)))) else none) else none))
set_option maxHeartbeats 4000000 in
set_option maxRecDepth 100000 in
theorem B_X9_cancels_113 {p : Program} {l : Launch} {e : Env} {s : State} {m : MethodId} {args : Array Value} {below : List Frame} {meth : Method} {c : Code} {D : va_G} {G : Nat → ClassId} {A : Nat → Prop} (C : Cx p s m args meth c cX9_cancels 4 RX9 (some .int) D G) (hA : ∀ q : Nat, s.heap.size ≤ q → A q) (N : Nat) (a : Nat → Nat) (r : (Int32 × (Nat → Nat → Int32))) (k100 : (Nat → Nat → Int32) → Int32 → Option (Int32 × (Nat → Nat → Int32))) (hk100 : (∀ (M : Nat → Nat → Int32) (v2 : Int32) (ls : Array Slot) (H : Heap) (locs : List Loc), va_P D vwCl (wM a G M) H → va_D A (wM a G M) → va_S A s.heap H locs → lv_has ls 4 [(0, .ref (a 0)), (2, .int v2)] → k100 M v2 = some r → W p l e ({ frames := 4, cells := 0, slots := 0, locals := 90 } : Room) s m args below meth c H locs 0 0 (MQ below (mQ D (wM a G r.2) (some (.int r.1)) A) args s 0 0 A) (F0 m 100 ls []))) : (∀ (n : Nat) (M : Nat → Nat → Int32) (v2 : Int32) (v3 : Int32) (ls : Array Slot) (H : Heap) (locs : List Loc), va_P D vwCl (wM a G M) H → va_D A (wM a G M) → va_S A s.heap H locs → lv_has ls 4 [(0, .ref (a 0)), (2, .int v2), (3, .int v3)] → D_X9_cancels_113 N  k100 n M v2 v3 = some r → W p l e ({ frames := 4, cells := 0, slots := 0, locals := 90 } : Room) s m args below meth c H locs 0 0 (MQ below (mQ D (wM a G r.2) (some (.int r.1)) A) args s 0 0 A) (F0 m 113 ls [])) := by
  have C := C
  obtain ⟨hx, hb, hr, hml, hts, hown, hlocks, hK0⟩ := id C
  have hK := hK0.1
  intro n
  induction n with
  | zero =>
    intro M v2 v3 ls H locs hP hD hS hl hV
    rw [D_X9_cancels_113] at hV
    cases hV
  | succ n ih =>
    intro M v2 v3 ls H locs hP hD hS hl hV
    rw [D_X9_cancels_113] at hV
    refine lv_iload_n hx hb dX9_cancels_113 rfl (lv_at hl 2 rfl) ?_
    refine lv_iconst (v := 4) hx hb dX9_cancels_114 (by decide) ?_
    refine lv_icmp_ge (tgt := 152) hx hb dX9_cancels_115 (by decide) (fun c9 => ?_) (fun c9 => ?_)
    · have hV := jT1 hV c9
      refine lv_aload_n hx hb dX9_cancels_152 rfl (lv_at hl 0 rfl) ?_
      refine va_get (D := D) (ci := 11) (v := .ref (a 1)) (C := RX9) (T := TX9) (N := 16) hx hb hts ju_X9 hown hK hP 0 rfl rfl 1 (by decide) (hts _ jq_6_1) (fun _ h9 => h9) rfl dX9_cancels_153 ?_
      refine lv_sipush (v := 135) hx hb dX9_cancels_156 (by decide) ?_
      refine lv_iload_n hx hb dX9_cancels_159 rfl (lv_at hl 1 rfl) ?_
      refine lv_iadd hx hb dX9_cancels_160 ?_
      refine lv_aload_n hx hb dX9_cancels_161 rfl (lv_at hl 0 rfl) ?_
      refine va_get (D := D) (ci := 11) (v := .ref (a 1)) (C := RX9) (T := TX9) (N := 16) hx hb hts ju_X9 hown hK hP 0 rfl rfl 1 (by decide) (hts _ jq_6_1) (fun _ h9 => h9) rfl dX9_cancels_162 ?_
      refine lv_sipush (v := 135) hx hb dX9_cancels_165 (by decide) ?_
      refine lv_iload_n hx hb dX9_cancels_168 rfl (lv_at hl 1 rfl) ?_
      refine lv_iadd hx hb dX9_cancels_169 ?_
      refine lv_iconst (v := 1) hx hb dX9_cancels_170 (by decide) ?_
      refine lv_iadd hx hb dX9_cancels_171 ?_
      obtain ⟨g1, hV⟩ := jIf hV
      refine va_iald (D := D) (n := 2169) (f := (M 1)) hx hb hK hP 1 0 rfl rfl (inb_of g1) dX9_cancels_172 ?_
      obtain ⟨g2, hV⟩ := jIf hV
      refine va_iast (D := D) (n := 2169) (f := (M 1)) hx hb hK hP hD hS 1 0 rfl rfl (inb_of g2) dX9_cancels_173 (fun H locs hP hD hS => ?_)
      obtain ⟨M3, e4, hV⟩ := jLet hV
      have hP : va_P D vwCl (wM a G M3) H := by rw [e4]; exact hP
      have hD : va_D A (wM a G M3) := by rw [e4]; exact hD
      refine lv_iinc (v := (v2 + 1)) (lv' := [(2, .int (v2 + 1)), (0, .ref (a 0)), (3, .int v3)]) hx hb dX9_cancels_174 hl (k := 1) rfl rfl (by decide) rfl (fun ls hl => ?_)
      refine lv_goto (tgt := 100) hx hb dX9_cancels_177 (by decide) ?_
      exact hk100 M3 (v2 + 1) _ _ _ hP hD hS (lv_sub hl [1, 0] rfl) hV
    · have hV := jF1 hV c9
      refine lv_aload_n hx hb dX9_cancels_118 rfl (lv_at hl 0 rfl) ?_
      refine va_get (D := D) (ci := 11) (v := .ref (a 1)) (C := RX9) (T := TX9) (N := 16) hx hb hts ju_X9 hown hK hP 0 rfl rfl 1 (by decide) (hts _ jq_6_1) (fun _ h9 => h9) rfl dX9_cancels_119 ?_
      refine lv_bipush (v := 39) hx hb dX9_cancels_122 (by decide) ?_
      refine lv_iconst (v := 4) hx hb dX9_cancels_124 (by decide) ?_
      refine lv_iload_n hx hb dX9_cancels_125 rfl (lv_at hl 1 rfl) ?_
      refine lv_imul hx hb dX9_cancels_126 ?_
      refine lv_iadd hx hb dX9_cancels_127 ?_
      refine lv_iload_n hx hb dX9_cancels_128 rfl (lv_at hl 2 rfl) ?_
      refine lv_iadd hx hb dX9_cancels_129 ?_
      refine lv_aload_n hx hb dX9_cancels_130 rfl (lv_at hl 0 rfl) ?_
      refine va_get (D := D) (ci := 11) (v := .ref (a 1)) (C := RX9) (T := TX9) (N := 16) hx hb hts ju_X9 hown hK hP 0 rfl rfl 1 (by decide) (hts _ jq_6_1) (fun _ h9 => h9) rfl dX9_cancels_131 ?_
      refine lv_bipush (v := 39) hx hb dX9_cancels_134 (by decide) ?_
      refine lv_iconst (v := 4) hx hb dX9_cancels_136 (by decide) ?_
      refine lv_iload_n hx hb dX9_cancels_137 rfl (lv_at hl 1 rfl) ?_
      refine lv_imul hx hb dX9_cancels_138 ?_
      refine lv_iadd hx hb dX9_cancels_139 ?_
      refine lv_iconst (v := 4) hx hb dX9_cancels_140 (by decide) ?_
      refine lv_iadd hx hb dX9_cancels_141 ?_
      refine lv_iload_n hx hb dX9_cancels_142 rfl (lv_at hl 2 rfl) ?_
      refine lv_iadd hx hb dX9_cancels_143 ?_
      obtain ⟨g5, hV⟩ := jIf hV
      refine va_iald (D := D) (n := 2169) (f := (M 1)) hx hb hK hP 1 0 rfl rfl (inb_of g5) dX9_cancels_144 ?_
      obtain ⟨g6, hV⟩ := jIf hV
      refine va_iast (D := D) (n := 2169) (f := (M 1)) hx hb hK hP hD hS 1 0 rfl rfl (inb_of g6) dX9_cancels_145 (fun H locs hP hD hS => ?_)
      obtain ⟨M7, e8, hV⟩ := jLet hV
      have hP : va_P D vwCl (wM a G M7) H := by rw [e8]; exact hP
      have hD : va_D A (wM a G M7) := by rw [e8]; exact hD
      refine lv_iinc (v := (v3 + 1)) (lv' := [(3, .int (v3 + 1)), (0, .ref (a 0)), (2, .int v2)]) hx hb dX9_cancels_146 hl (k := 2) rfl rfl (by decide) rfl (fun ls hl => ?_)
      refine lv_goto (tgt := 113) hx hb dX9_cancels_149 (by decide) ?_
      exact ih M7 v2 (v3 + 1) _ _ _ hP hD hS (lv_sub hl [1, 2, 0] rfl) hV
def D_X9_cancels_100 (N : Nat)  : Nat → (Nat → Nat → Int32) → Int32 → Option (Int32 × (Nat → Nat → Int32))
  | 0, _, _ => none
  | n + 1, M, v2 => (if inb (38 : Int32) 2169 = true then (if ((M 1) (38 : Int32).toNatClampNeg) ≤ v2 then ((F_X9_lacksRoom N M ).bind (fun r11 => ((F_X9_isHindered N r11.2 r11.1).bind (fun r12 => (if r12.1 = 0 then (some ((0 : Int32), r12.2)) else (some ((4 : Int32), r12.2))))))) else (D_X9_cancels_113 N  (D_X9_cancels_100 N   n) N M v2 (0 : Int32))) else none)
set_option maxHeartbeats 4000000 in
set_option maxRecDepth 100000 in
theorem B_X9_cancels_100 {p : Program} {l : Launch} {e : Env} {s : State} {m : MethodId} {args : Array Value} {below : List Frame} {meth : Method} {c : Code} {D : va_G} {G : Nat → ClassId} {A : Nat → Prop} (C : Cx p s m args meth c cX9_cancels 4 RX9 (some .int) D G) (hA : ∀ q : Nat, s.heap.size ≤ q → A q) (N : Nat) (a : Nat → Nat) (r : (Int32 × (Nat → Nat → Int32))) : (∀ (n : Nat) (M : Nat → Nat → Int32) (v2 : Int32) (ls : Array Slot) (H : Heap) (locs : List Loc), va_P D vwCl (wM a G M) H → va_D A (wM a G M) → va_S A s.heap H locs → lv_has ls 4 [(0, .ref (a 0)), (2, .int v2)] → D_X9_cancels_100 N   n M v2 = some r → W p l e ({ frames := 4, cells := 0, slots := 0, locals := 90 } : Room) s m args below meth c H locs 0 0 (MQ below (mQ D (wM a G r.2) (some (.int r.1)) A) args s 0 0 A) (F0 m 100 ls [])) := by
  have C := C
  obtain ⟨hx, hb, hr, hml, hts, hown, hlocks, hK0⟩ := id C
  have hK := hK0.1
  intro n
  induction n with
  | zero =>
    intro M v2 ls H locs hP hD hS hl hV
    rw [D_X9_cancels_100] at hV
    cases hV
  | succ n ih =>
    intro M v2 ls H locs hP hD hS hl hV
    rw [D_X9_cancels_100] at hV
    refine lv_iload_n hx hb dX9_cancels_100 rfl (lv_at hl 1 rfl) ?_
    refine lv_aload_n hx hb dX9_cancels_101 rfl (lv_at hl 0 rfl) ?_
    refine va_get (D := D) (ci := 11) (v := .ref (a 1)) (C := RX9) (T := TX9) (N := 16) hx hb hts ju_X9 hown hK hP 0 rfl rfl 1 (by decide) (hts _ jq_6_1) (fun _ h9 => h9) rfl dX9_cancels_102 ?_
    refine lv_bipush (v := 38) hx hb dX9_cancels_105 (by decide) ?_
    obtain ⟨g10, hV⟩ := jIf hV
    refine va_iald (D := D) (n := 2169) (f := (M 1)) hx hb hK hP 1 0 rfl rfl (inb_of g10) dX9_cancels_107 ?_
    refine lv_icmp_ge (tgt := 180) hx hb dX9_cancels_108 (by decide) (fun c14 => ?_) (fun c14 => ?_)
    · have hV := jT1 hV c14
      refine lv_aload_n hx hb dX9_cancels_180 rfl (lv_at hl 0 rfl) ?_
      refine lv_aload_n hx hb dX9_cancels_181 rfl (lv_at hl 0 rfl) ?_
      obtain ⟨r11, hr11, hV⟩ := jBind hV
      refine jVmI C dX9_cancels_182 (k_X9_lacksRoom l D G a N M  r11 hr11) jy_X9_lacksRoom jq_17_12 jq_17_13 jq_17_14 ⟨rfl, rfl, Nat.le_of_ble_eq_true rfl, Nat.le_of_ble_eq_true rfl⟩ ⟨Nat.le_of_ble_eq_true rfl, Nat.le_of_ble_eq_true rfl⟩ hP hD hA hS (ci := 11) (iw := 0) rfl rfl rfl hl (rest := [.ref (a 0)]) rfl (Nat.le_of_ble_eq_true rfl) (fun H locs hQ hz hkp hS => ?_)
      have hP : va_P D vwCl (wM a G r11.2) H := hQ
      have hD : va_D A (wM a G r11.2) := jD (w := (wM a G M)) rfl hD
      obtain ⟨r12, hr12, hV⟩ := jBind hV
      refine jVmI C dX9_cancels_185 (k_X9_isHindered l D G a N r11.2 r11.1 r12 hr12) jy_X9_isHindered jq_18_8 jq_18_9 jq_18_10 ⟨rfl, rfl, Nat.le_of_ble_eq_true rfl, Nat.le_of_ble_eq_true rfl⟩ ⟨Nat.le_of_ble_eq_true rfl, Nat.le_of_ble_eq_true rfl⟩ hP hD hA hS (ci := 11) (iw := 0) rfl rfl rfl hl (rest := []) rfl (Nat.le_of_ble_eq_true rfl) (fun H locs hQ hz hkp hS => ?_)
      have hP : va_P D vwCl (wM a G r12.2) H := hQ
      have hD : va_D A (wM a G r12.2) := jD (w := (wM a G r11.2)) rfl hD
      refine lv_if_eq (tgt := 195) hx hb dX9_cancels_188 (by decide) (fun c13 => ?_) (fun c13 => ?_)
      · have hV := jT1 hV c13
        refine lv_iconst (v := 0) hx hb dX9_cancels_195 (by decide) ?_
        cases hV
        exact mRet C rfl dX9_cancels_196 rfl rfl hP hS
      · have hV := jF1 hV c13
        refine lv_iconst (v := 4) hx hb dX9_cancels_191 (by decide) ?_
        refine lv_goto (tgt := 196) hx hb dX9_cancels_192 (by decide) ?_
        cases hV
        exact mRet C rfl dX9_cancels_196 rfl rfl hP hS
    · have hV := jF1 hV c14
      refine lv_iconst (v := 0) hx hb dX9_cancels_111 (by decide) ?_
      refine lv_istore_n (lv' := [(3, .int (0 : Int32)), (0, .ref (a 0)), (2, .int v2)]) hx hb dX9_cancels_112 rfl hl (by decide) rfl (fun ls hl => ?_)
      exact B_X9_cancels_113 C hA N a r (D_X9_cancels_100 N   n) ih N M v2 (0 : Int32) _ _ _ hP hD hS (lv_sub hl [1, 2, 0] rfl) hV
def D_X9_cancels_31 (N : Nat)  : Nat → (Nat → Nat → Int32) → Int32 → Int32 → Option (Int32 × (Nat → Nat → Int32))
  | 0, _, _, _ => none
  | n + 1, M, v1, v2 => (if v2 < 0 then (if inb (38 : Int32) 2169 = true then (if inb (38 : Int32) 2169 = true then (jlet (stA M 1 (38 : Int32) (((M 1) (38 : Int32).toNatClampNeg) - (1 : Int32))) (fun M17 => (D_X9_cancels_100 N   N M17 v1))) else none) else none) else ((F_X9_r N M v2 (0 : Int32)).bind (fun r19 => (if r19 = v1 then ((F_X9_takesOut N M v2).bind (fun r26 => (D_X9_cancels_31 N   n r26 v1 (v2 + (-1))))) else ((F_X9_r N M v2 (0 : Int32)).bind (fun r20 => (if r20 ≤ v1 then (D_X9_cancels_31 N   n M v1 (v2 + (-1))) else (if inb (((181 : Int32) + ((3 : Int32) * v2)) + (0 : Int32)) 2169 = true then (if inb (((181 : Int32) + ((3 : Int32) * v2)) + (0 : Int32)) 2169 = true then (jlet (stA M 1 (((181 : Int32) + ((3 : Int32) * v2)) + (0 : Int32)) (((M 1) (((181 : Int32) + ((3 : Int32) * v2)) + (0 : Int32)).toNatClampNeg) - (1 : Int32))) (fun M23 => (D_X9_cancels_31 N   n M23 v1 (v2 + (-1))))) else none) else none))))))))
set_option maxHeartbeats 4000000 in
set_option maxRecDepth 100000 in
theorem B_X9_cancels_31 {p : Program} {l : Launch} {e : Env} {s : State} {m : MethodId} {args : Array Value} {below : List Frame} {meth : Method} {c : Code} {D : va_G} {G : Nat → ClassId} {A : Nat → Prop} (C : Cx p s m args meth c cX9_cancels 4 RX9 (some .int) D G) (hA : ∀ q : Nat, s.heap.size ≤ q → A q) (N : Nat) (a : Nat → Nat) (r : (Int32 × (Nat → Nat → Int32))) : (∀ (n : Nat) (M : Nat → Nat → Int32) (v1 : Int32) (v2 : Int32) (ls : Array Slot) (H : Heap) (locs : List Loc), va_P D vwCl (wM a G M) H → va_D A (wM a G M) → va_S A s.heap H locs → lv_has ls 4 [(0, .ref (a 0)), (1, .int v1), (2, .int v2)] → D_X9_cancels_31 N   n M v1 v2 = some r → W p l e ({ frames := 4, cells := 0, slots := 0, locals := 90 } : Room) s m args below meth c H locs 0 0 (MQ below (mQ D (wM a G r.2) (some (.int r.1)) A) args s 0 0 A) (F0 m 31 ls [])) := by
  have C := C
  obtain ⟨hx, hb, hr, hml, hts, hown, hlocks, hK0⟩ := id C
  have hK := hK0.1
  intro n
  induction n with
  | zero =>
    intro M v1 v2 ls H locs hP hD hS hl hV
    rw [D_X9_cancels_31] at hV
    cases hV
  | succ n ih =>
    intro M v1 v2 ls H locs hP hD hS hl hV
    rw [D_X9_cancels_31] at hV
    refine lv_iload_n hx hb dX9_cancels_31 rfl (lv_at hl 2 rfl) ?_
    refine lv_if_lt (tgt := 87) hx hb dX9_cancels_32 (by decide) (fun c28 => ?_) (fun c28 => ?_)
    · have hV := jT1 hV c28
      refine lv_aload_n hx hb dX9_cancels_87 rfl (lv_at hl 0 rfl) ?_
      refine va_get (D := D) (ci := 11) (v := .ref (a 1)) (C := RX9) (T := TX9) (N := 16) hx hb hts ju_X9 hown hK hP 0 rfl rfl 1 (by decide) (hts _ jq_6_1) (fun _ h9 => h9) rfl dX9_cancels_88 ?_
      refine lv_bipush (v := 38) hx hb dX9_cancels_91 (by decide) ?_
      refine lv_dup2_11 hx hb dX9_cancels_93 rfl rfl ?_
      obtain ⟨g15, hV⟩ := jIf hV
      refine va_iald (D := D) (n := 2169) (f := (M 1)) hx hb hK hP 1 0 rfl rfl (inb_of g15) dX9_cancels_94 ?_
      refine lv_iconst (v := 1) hx hb dX9_cancels_95 (by decide) ?_
      refine lv_isub hx hb dX9_cancels_96 ?_
      obtain ⟨g16, hV⟩ := jIf hV
      refine va_iast (D := D) (n := 2169) (f := (M 1)) hx hb hK hP hD hS 1 0 rfl rfl (inb_of g16) dX9_cancels_97 (fun H locs hP hD hS => ?_)
      obtain ⟨M17, e18, hV⟩ := jLet hV
      have hP : va_P D vwCl (wM a G M17) H := by rw [e18]; exact hP
      have hD : va_D A (wM a G M17) := by rw [e18]; exact hD
      refine lv_iload_n hx hb dX9_cancels_98 rfl (lv_at hl 1 rfl) ?_
      refine lv_istore_n (lv' := [(2, .int v1), (0, .ref (a 0)), (1, .int v1)]) hx hb dX9_cancels_99 rfl hl (by decide) rfl (fun ls hl => ?_)
      exact B_X9_cancels_100 C hA N a r   N M17 v1 _ _ _ hP hD hS (lv_sub hl [1, 0] rfl) hV
    · have hV := jF1 hV c28
      refine lv_aload_n hx hb dX9_cancels_35 rfl (lv_at hl 0 rfl) ?_
      refine lv_iload_n hx hb dX9_cancels_36 rfl (lv_at hl 2 rfl) ?_
      refine lv_iconst (v := 0) hx hb dX9_cancels_37 (by decide) ?_
      obtain ⟨r19, hr19, hV⟩ := jBind hV
      refine jVpI C dX9_cancels_38 (k_X9_r l D G a N M v2 (0 : Int32) r19 hr19) jy_X9_r jq_14_10 jq_14_11 jq_14_12 ⟨rfl, rfl, Nat.le_of_ble_eq_true rfl, Nat.le_of_ble_eq_true rfl⟩ ⟨Nat.le_of_ble_eq_true rfl, Nat.le_of_ble_eq_true rfl⟩ hP  (ci := 11) (iw := 0) rfl rfl rfl hl (rest := []) rfl (Nat.le_of_ble_eq_true rfl) ?_
      refine lv_iload_n hx hb dX9_cancels_41 rfl (lv_at hl 1 rfl) ?_
      refine lv_icmp_ne (tgt := 53) hx hb dX9_cancels_42 (by decide) (fun c27 => ?_) (fun c27 => ?_)
      · have hV := jF1 hV c27
        refine lv_aload_n hx hb dX9_cancels_53 rfl (lv_at hl 0 rfl) ?_
        refine lv_iload_n hx hb dX9_cancels_54 rfl (lv_at hl 2 rfl) ?_
        refine lv_iconst (v := 0) hx hb dX9_cancels_55 (by decide) ?_
        obtain ⟨r20, hr20, hV⟩ := jBind hV
        refine jVpI C dX9_cancels_56 (k_X9_r l D G a N M v2 (0 : Int32) r20 hr20) jy_X9_r jq_14_10 jq_14_11 jq_14_12 ⟨rfl, rfl, Nat.le_of_ble_eq_true rfl, Nat.le_of_ble_eq_true rfl⟩ ⟨Nat.le_of_ble_eq_true rfl, Nat.le_of_ble_eq_true rfl⟩ hP  (ci := 11) (iw := 0) rfl rfl rfl hl (rest := []) rfl (Nat.le_of_ble_eq_true rfl) ?_
        refine lv_iload_n hx hb dX9_cancels_59 rfl (lv_at hl 1 rfl) ?_
        refine lv_icmp_le (tgt := 81) hx hb dX9_cancels_60 (by decide) (fun c25 => ?_) (fun c25 => ?_)
        · have hV := jT1 hV c25
          refine lv_iinc (v := (v2 + (-1))) (lv' := [(2, .int (v2 + (-1))), (0, .ref (a 0)), (1, .int v1)]) hx hb dX9_cancels_81 hl (k := 2) rfl rfl (by decide) rfl (fun ls hl => ?_)
          refine lv_goto (tgt := 31) hx hb dX9_cancels_84 (by decide) ?_
          exact ih M v1 (v2 + (-1)) _ _ _ hP hD hS (lv_sub hl [1, 2, 0] rfl) hV
        · have hV := jF1 hV c25
          refine lv_aload_n hx hb dX9_cancels_63 rfl (lv_at hl 0 rfl) ?_
          refine va_get (D := D) (ci := 11) (v := .ref (a 1)) (C := RX9) (T := TX9) (N := 16) hx hb hts ju_X9 hown hK hP 0 rfl rfl 1 (by decide) (hts _ jq_6_1) (fun _ h9 => h9) rfl dX9_cancels_64 ?_
          refine lv_sipush (v := 181) hx hb dX9_cancels_67 (by decide) ?_
          refine lv_iconst (v := 3) hx hb dX9_cancels_70 (by decide) ?_
          refine lv_iload_n hx hb dX9_cancels_71 rfl (lv_at hl 2 rfl) ?_
          refine lv_imul hx hb dX9_cancels_72 ?_
          refine lv_iadd hx hb dX9_cancels_73 ?_
          refine lv_iconst (v := 0) hx hb dX9_cancels_74 (by decide) ?_
          refine lv_iadd hx hb dX9_cancels_75 ?_
          refine lv_dup2_11 hx hb dX9_cancels_76 rfl rfl ?_
          obtain ⟨g21, hV⟩ := jIf hV
          refine va_iald (D := D) (n := 2169) (f := (M 1)) hx hb hK hP 1 0 rfl rfl (inb_of g21) dX9_cancels_77 ?_
          refine lv_iconst (v := 1) hx hb dX9_cancels_78 (by decide) ?_
          refine lv_isub hx hb dX9_cancels_79 ?_
          obtain ⟨g22, hV⟩ := jIf hV
          refine va_iast (D := D) (n := 2169) (f := (M 1)) hx hb hK hP hD hS 1 0 rfl rfl (inb_of g22) dX9_cancels_80 (fun H locs hP hD hS => ?_)
          obtain ⟨M23, e24, hV⟩ := jLet hV
          have hP : va_P D vwCl (wM a G M23) H := by rw [e24]; exact hP
          have hD : va_D A (wM a G M23) := by rw [e24]; exact hD
          refine lv_iinc (v := (v2 + (-1))) (lv' := [(2, .int (v2 + (-1))), (0, .ref (a 0)), (1, .int v1)]) hx hb dX9_cancels_81 hl (k := 2) rfl rfl (by decide) rfl (fun ls hl => ?_)
          refine lv_goto (tgt := 31) hx hb dX9_cancels_84 (by decide) ?_
          exact ih M23 v1 (v2 + (-1)) _ _ _ hP hD hS (lv_sub hl [1, 2, 0] rfl) hV
      · have hV := jT1 hV c27
        refine lv_aload_n hx hb dX9_cancels_45 rfl (lv_at hl 0 rfl) ?_
        refine lv_iload_n hx hb dX9_cancels_46 rfl (lv_at hl 2 rfl) ?_
        obtain ⟨r26, hr26, hV⟩ := jBind hV
        refine jVmV C dX9_cancels_47 (k_X9_takesOut l D G a N M v2 r26 hr26) jy_X9_takesOut jq_14_18 jq_14_19 jq_14_20 ⟨rfl, rfl, Nat.le_of_ble_eq_true rfl, Nat.le_of_ble_eq_true rfl⟩ ⟨Nat.le_of_ble_eq_true rfl, Nat.le_of_ble_eq_true rfl⟩ hP hD hA hS (ci := 11) (iw := 0) rfl rfl rfl hl (rest := []) rfl (Nat.le_of_ble_eq_true rfl) (fun H locs hQ hz hkp hS => ?_)
        have hP : va_P D vwCl (wM a G r26) H := hQ
        have hD : va_D A (wM a G r26) := jD (w := (wM a G M)) rfl hD
        refine lv_goto (tgt := 81) hx hb dX9_cancels_50 (by decide) ?_
        refine lv_iinc (v := (v2 + (-1))) (lv' := [(2, .int (v2 + (-1))), (0, .ref (a 0)), (1, .int v1)]) hx hb dX9_cancels_81 hl (k := 2) rfl rfl (by decide) rfl (fun ls hl => ?_)
        refine lv_goto (tgt := 31) hx hb dX9_cancels_84 (by decide) ?_
        exact ih r26 v1 (v2 + (-1)) _ _ _ hP hD hS (lv_sub hl [1, 2, 0] rfl) hV
def F_X9_cancels (N : Nat)  (M : Nat → Nat → Int32) (v1 : Int32) : Option (Int32 × (Nat → Nat → Int32)) := ((F_X9_isPerformance N M v1).bind (fun r29 => (if r29 = 0 then (some ((1 : Int32), M)) else ((F_X9_p N M v1 (3 : Int32)).bind (fun r30 => (jlet (stF M 6 r30) (fun M31 => (if inb (180 : Int32) 2169 = true then (D_X9_cancels_31 N   N M31 v1 (((M31 1) (180 : Int32).toNatClampNeg) - (1 : Int32))) else none))))))))
set_option maxHeartbeats 4000000 in
set_option maxRecDepth 100000 in
theorem k_X9_cancels (l : Launch) (D : va_G) (G : Nat → ClassId) (a : Nat → Nat) (N : Nat) (M : Nat → Nat → Int32) (v1 : Int32) (r : (Int32 × (Nat → Nat → Int32))) (hV : F_X9_cancels N  M v1 = some r) : mM l yX9_cancels (jws yX9_cancels cX9_cancels 4 (some .int)) ({ frames := 4, cells := 0, slots := 0, locals := 90 } : Room) [.ref (a 0), .int v1] D G (wM a G M) (wM a G r.2) (some (.int r.1)) := by
  refine mM_of (by decide +kernel) (Nat.le_of_ble_eq_true rfl) (fun p e s m args below meth c ls A C hP hD hA hl => ?_)
  have C : Cx p s m args meth c cX9_cancels 4 RX9 (some .int) D G := C
  have hS : va_S A s.heap s.heap [] := va_S.rf
  obtain ⟨hx, hb, hr, hml, hts, hown, hlocks, hK0⟩ := id C
  have hK := hK0.1
  have hl : lv_has ls 4 [(0, .ref (a 0)), (1, .int v1)] := hl
  rw [F_X9_cancels] at hV
  refine lv_aload_n hx hb dX9_cancels_0 rfl (lv_at hl 0 rfl) ?_
  refine lv_iload_n hx hb dX9_cancels_1 rfl (lv_at hl 1 rfl) ?_
  obtain ⟨r29, hr29, hV⟩ := jBind hV
  refine jVpI C dX9_cancels_2 (k_X9_isPerformance l D G a N M v1 r29 hr29) jy_X9_isPerformance jq_26_1 jq_26_2 jq_26_3 ⟨rfl, rfl, Nat.le_of_ble_eq_true rfl, Nat.le_of_ble_eq_true rfl⟩ ⟨Nat.le_of_ble_eq_true rfl, Nat.le_of_ble_eq_true rfl⟩ hP  (ci := 11) (iw := 0) rfl rfl rfl hl (rest := []) rfl (Nat.le_of_ble_eq_true rfl) ?_
  refine lv_if_ne (tgt := 10) hx hb dX9_cancels_5 (by decide) (fun c34 => ?_) (fun c34 => ?_)
  · have hV := jF1 hV c34
    refine lv_aload_n hx hb dX9_cancels_10 rfl (lv_at hl 0 rfl) ?_
    refine lv_aload_n hx hb dX9_cancels_11 rfl (lv_at hl 0 rfl) ?_
    refine lv_iload_n hx hb dX9_cancels_12 rfl (lv_at hl 1 rfl) ?_
    refine lv_iconst (v := 3) hx hb dX9_cancels_13 (by decide) ?_
    obtain ⟨r30, hr30, hV⟩ := jBind hV
    refine jVpI C dX9_cancels_14 (k_X9_p l D G a N M v1 (3 : Int32) r30 hr30) jy_X9_p jq_13_4 jq_13_5 jq_13_6 ⟨rfl, rfl, Nat.le_of_ble_eq_true rfl, Nat.le_of_ble_eq_true rfl⟩ ⟨Nat.le_of_ble_eq_true rfl, Nat.le_of_ble_eq_true rfl⟩ hP  (ci := 11) (iw := 0) rfl rfl rfl hl (rest := [.ref (a 0)]) rfl (Nat.le_of_ble_eq_true rfl) ?_
    refine va_put (D := D) (ci := 11) (v := .int r30) (ty := .int) (C := RX9) (T := TX9) (N := 16) hx hb hts ju_X9 tyX9 tyX9_ok nmX9 hown hK hP hD hS 0 rfl rfl 6 (by decide) (hts _ jq_12_21) (fun _ h9 => h9) rfl (by decide +kernel) rfl rfl (Nat.le_of_ble_eq_true rfl) dX9_cancels_17 (fun H locs hP hD hS => ?_)
    obtain ⟨M31, e33, hV⟩ := jLet hV
    have hP : va_P D vwCl (wM a G M31) H := by rw [e33]; exact hP
    have hD : va_D A (wM a G M31) := by rw [e33]; exact hD
    refine lv_aload_n hx hb dX9_cancels_20 rfl (lv_at hl 0 rfl) ?_
    refine va_get (D := D) (ci := 11) (v := .ref (a 1)) (C := RX9) (T := TX9) (N := 16) hx hb hts ju_X9 hown hK hP 0 rfl rfl 1 (by decide) (hts _ jq_6_1) (fun _ h9 => h9) rfl dX9_cancels_21 ?_
    refine lv_sipush (v := 180) hx hb dX9_cancels_24 (by decide) ?_
    obtain ⟨g32, hV⟩ := jIf hV
    refine va_iald (D := D) (n := 2169) (f := (M31 1)) hx hb hK hP 1 0 rfl rfl (inb_of g32) dX9_cancels_27 ?_
    refine lv_iconst (v := 1) hx hb dX9_cancels_28 (by decide) ?_
    refine lv_isub hx hb dX9_cancels_29 ?_
    refine lv_istore_n (lv' := [(2, .int (((M31 1) (180 : Int32).toNatClampNeg) - (1 : Int32))), (0, .ref (a 0)), (1, .int v1)]) hx hb dX9_cancels_30 rfl hl (by decide) rfl (fun ls hl => ?_)
    exact B_X9_cancels_31 C hA N a r   N M31 v1 (((M31 1) (180 : Int32).toNatClampNeg) - (1 : Int32)) _ _ _ hP hD hS (lv_sub hl [1, 2, 0] rfl) hV
  · have hV := jT1 hV c34
    refine lv_iconst (v := 1) hx hb dX9_cancels_8 (by decide) ?_
    cases hV
    exact mRet C rfl dX9_cancels_9 rfl rfl hP hS
theorem jy_X9_cancel : jY yX9_cancel cX9_cancel 2 (some .int) 1 := ⟨by decide +kernel, jq_25_20, jq_1_5⟩
def F_X9_cancel (N : Nat)  (M : Nat → Nat → Int32) (v1 : Int32) : Option (Int32 × (Nat → Nat → Int32)) := ((F_X9_begins N M ).bind (fun r1 => ((F_X9_cancels N r1 v1).bind (fun r2 => ((F_X9_ends N r2.2 r2.1 (0 : Int32) (0 : Int32) (2 : Int32)).bind (fun r3 => (some (r3.1, r3.2))))))))
set_option maxHeartbeats 4000000 in
set_option maxRecDepth 100000 in
theorem k_X9_cancel (l : Launch) (D : va_G) (G : Nat → ClassId) (a : Nat → Nat) (N : Nat) (M : Nat → Nat → Int32) (v1 : Int32) (r : (Int32 × (Nat → Nat → Int32))) (hV : F_X9_cancel N  M v1 = some r) : mM l yX9_cancel (jws yX9_cancel cX9_cancel 2 (some .int)) ({ frames := 5, cells := 0, slots := 0, locals := 113 } : Room) [.ref (a 0), .int v1] D G (wM a G M) (wM a G r.2) (some (.int r.1)) := by
  refine mM_of (by decide +kernel) (Nat.le_of_ble_eq_true rfl) (fun p e s m args below meth c ls A C hP hD hA hl => ?_)
  have C : Cx p s m args meth c cX9_cancel 2 RX9 (some .int) D G := C
  have hS : va_S A s.heap s.heap [] := va_S.rf
  obtain ⟨hx, hb, hr, hml, hts, hown, hlocks, hK0⟩ := id C
  have hK := hK0.1
  have hl : lv_has ls 2 [(0, .ref (a 0)), (1, .int v1)] := hl
  rw [F_X9_cancel] at hV
  refine lv_aload_n hx hb dX9_cancel_0 rfl (lv_at hl 0 rfl) ?_
  obtain ⟨r1, hr1, hV⟩ := jBind hV
  refine jVmV C dX9_cancel_1 (k_X9_begins l D G a N M  r1 hr1) jy_X9_begins jq_12_9 jq_12_10 jq_12_11 ⟨rfl, rfl, Nat.le_of_ble_eq_true rfl, Nat.le_of_ble_eq_true rfl⟩ ⟨Nat.le_of_ble_eq_true rfl, Nat.le_of_ble_eq_true rfl⟩ hP hD hA hS (ci := 11) (iw := 0) rfl rfl rfl hl (rest := []) rfl (Nat.le_of_ble_eq_true rfl) (fun H locs hQ hz hkp hS => ?_)
  have hP : va_P D vwCl (wM a G r1) H := hQ
  have hD : va_D A (wM a G r1) := jD (w := (wM a G M)) rfl hD
  refine lv_aload_n hx hb dX9_cancel_4 rfl (lv_at hl 0 rfl) ?_
  refine lv_aload_n hx hb dX9_cancel_5 rfl (lv_at hl 0 rfl) ?_
  refine lv_iload_n hx hb dX9_cancel_6 rfl (lv_at hl 1 rfl) ?_
  obtain ⟨r2, hr2, hV⟩ := jBind hV
  refine jVmI C dX9_cancel_7 (k_X9_cancels l D G a N r1 v1 r2 hr2) jy_X9_cancels jq_25_21 jq_25_22 jq_25_23 ⟨rfl, rfl, Nat.le_of_ble_eq_true rfl, Nat.le_of_ble_eq_true rfl⟩ ⟨Nat.le_of_ble_eq_true rfl, Nat.le_of_ble_eq_true rfl⟩ hP hD hA hS (ci := 11) (iw := 0) rfl rfl rfl hl (rest := [.ref (a 0)]) rfl (Nat.le_of_ble_eq_true rfl) (fun H locs hQ hz hkp hS => ?_)
  have hP : va_P D vwCl (wM a G r2.2) H := hQ
  have hD : va_D A (wM a G r2.2) := jD (w := (wM a G r1)) rfl hD
  refine lv_iconst (v := 0) hx hb dX9_cancel_10 (by decide) ?_
  refine lv_iconst (v := 0) hx hb dX9_cancel_11 (by decide) ?_
  refine lv_iconst (v := 2) hx hb dX9_cancel_12 (by decide) ?_
  obtain ⟨r3, hr3, hV⟩ := jBind hV
  refine jVmI C dX9_cancel_13 (k_X9_ends l D G a N r2.2 r2.1 (0 : Int32) (0 : Int32) (2 : Int32) r3 hr3) jy_X9_ends jq_14_22 jq_14_23 jq_15_0 ⟨rfl, rfl, Nat.le_of_ble_eq_true rfl, Nat.le_of_ble_eq_true rfl⟩ ⟨Nat.le_of_ble_eq_true rfl, Nat.le_of_ble_eq_true rfl⟩ hP hD hA hS (ci := 11) (iw := 0) rfl rfl rfl hl (rest := []) rfl (Nat.le_of_ble_eq_true rfl) (fun H locs hQ hz hkp hS => ?_)
  have hP : va_P D vwCl (wM a G r3.2) H := hQ
  have hD : va_D A (wM a G r3.2) := jD (w := (wM a G r2.2)) rfl hD
  cases hV
  exact mRet C rfl dX9_cancel_16 rfl rfl hP hS
theorem jy_X9_moves : jY yX9_moves cX9_moves 3 (some .int) 2 := ⟨by decide +kernel, jq_26_23, jq_1_5⟩
def F_X9_moves (N : Nat)  (M : Nat → Nat → Int32) (v1 v2 : Int32) : Option (Int32 × (Nat → Nat → Int32)) := ((F_X9_isPerformance N M v1).bind (fun r1 => (if r1 = 0 then (some ((1 : Int32), M)) else ((F_X9_isDate N  v2).bind (fun r2 => (if r2 = 0 then (some ((2 : Int32), M)) else ((F_X9_p N M v1 (2 : Int32)).bind (fun r3 => (jlet (stF M 6 r3) (fun M4 => (if inb (((39 : Int32) + ((4 : Int32) * v1)) + (2 : Int32)) 2169 = true then (jlet (stA M4 1 (((39 : Int32) + ((4 : Int32) * v1)) + (2 : Int32)) v2) (fun M6 => ((F_X9_hinders N M6 v1).bind (fun r7 => (if r7.1 = 0 then ((F_X9_isHindered N r7.2 (0 : Int32)).bind (fun r8 => (if r8.1 = 0 then (some ((0 : Int32), r8.2)) else (some ((4 : Int32), r8.2))))) else ((F_X9_isHindered N r7.2 (1 : Int32)).bind (fun r10 => (if r10.1 = 0 then (some ((0 : Int32), r10.2)) else (some ((4 : Int32), r10.2)))))))))) else none)))))))))))
set_option maxHeartbeats 4000000 in
set_option maxRecDepth 100000 in
theorem k_X9_moves (l : Launch) (D : va_G) (G : Nat → ClassId) (a : Nat → Nat) (N : Nat) (M : Nat → Nat → Int32) (v1 v2 : Int32) (r : (Int32 × (Nat → Nat → Int32))) (hV : F_X9_moves N  M v1 v2 = some r) : mM l yX9_moves (jws yX9_moves cX9_moves 3 (some .int)) ({ frames := 5, cells := 0, slots := 0, locals := 113 } : Room) [.ref (a 0), .int v1, .int v2] D G (wM a G M) (wM a G r.2) (some (.int r.1)) := by
  refine mM_of (by decide +kernel) (Nat.le_of_ble_eq_true rfl) (fun p e s m args below meth c ls A C hP hD hA hl => ?_)
  have C : Cx p s m args meth c cX9_moves 3 RX9 (some .int) D G := C
  have hS : va_S A s.heap s.heap [] := va_S.rf
  obtain ⟨hx, hb, hr, hml, hts, hown, hlocks, hK0⟩ := id C
  have hK := hK0.1
  have hl : lv_has ls 3 [(0, .ref (a 0)), (1, .int v1), (2, .int v2)] := hl
  rw [F_X9_moves] at hV
  refine lv_aload_n hx hb dX9_moves_0 rfl (lv_at hl 0 rfl) ?_
  refine lv_iload_n hx hb dX9_moves_1 rfl (lv_at hl 1 rfl) ?_
  obtain ⟨r1, hr1, hV⟩ := jBind hV
  refine jVpI C dX9_moves_2 (k_X9_isPerformance l D G a N M v1 r1 hr1) jy_X9_isPerformance jq_26_1 jq_26_2 jq_26_3 ⟨rfl, rfl, Nat.le_of_ble_eq_true rfl, Nat.le_of_ble_eq_true rfl⟩ ⟨Nat.le_of_ble_eq_true rfl, Nat.le_of_ble_eq_true rfl⟩ hP  (ci := 11) (iw := 0) rfl rfl rfl hl (rest := []) rfl (Nat.le_of_ble_eq_true rfl) ?_
  refine lv_if_ne (tgt := 10) hx hb dX9_moves_5 (by decide) (fun c16 => ?_) (fun c16 => ?_)
  · have hV := jF1 hV c16
    refine lv_iload_n hx hb dX9_moves_10 rfl (lv_at hl 2 rfl) ?_
    obtain ⟨r2, hr2, hV⟩ := jBind hV
    refine jSpI C dX9_moves_11 (k_X9_isDate l D G  N  v2 r2 hr2) jy_X9_isDate jq_24_8 jq_24_9 ⟨rfl, rfl, Nat.le_of_ble_eq_true rfl, Nat.le_of_ble_eq_true rfl⟩ ⟨Nat.le_of_ble_eq_true rfl, Nat.le_of_ble_eq_true rfl⟩ jE  hl (rest := []) rfl (Nat.le_of_ble_eq_true rfl) ?_
    refine lv_if_ne (tgt := 19) hx hb dX9_moves_14 (by decide) (fun c15 => ?_) (fun c15 => ?_)
    · have hV := jF1 hV c15
      refine lv_aload_n hx hb dX9_moves_19 rfl (lv_at hl 0 rfl) ?_
      refine lv_aload_n hx hb dX9_moves_20 rfl (lv_at hl 0 rfl) ?_
      refine lv_iload_n hx hb dX9_moves_21 rfl (lv_at hl 1 rfl) ?_
      refine lv_iconst (v := 2) hx hb dX9_moves_22 (by decide) ?_
      obtain ⟨r3, hr3, hV⟩ := jBind hV
      refine jVpI C dX9_moves_23 (k_X9_p l D G a N M v1 (2 : Int32) r3 hr3) jy_X9_p jq_13_4 jq_13_5 jq_13_6 ⟨rfl, rfl, Nat.le_of_ble_eq_true rfl, Nat.le_of_ble_eq_true rfl⟩ ⟨Nat.le_of_ble_eq_true rfl, Nat.le_of_ble_eq_true rfl⟩ hP  (ci := 11) (iw := 0) rfl rfl rfl hl (rest := [.ref (a 0)]) rfl (Nat.le_of_ble_eq_true rfl) ?_
      refine va_put (D := D) (ci := 11) (v := .int r3) (ty := .int) (C := RX9) (T := TX9) (N := 16) hx hb hts ju_X9 tyX9 tyX9_ok nmX9 hown hK hP hD hS 0 rfl rfl 6 (by decide) (hts _ jq_12_21) (fun _ h9 => h9) rfl (by decide +kernel) rfl rfl (Nat.le_of_ble_eq_true rfl) dX9_moves_26 (fun H locs hP hD hS => ?_)
      obtain ⟨M4, e14, hV⟩ := jLet hV
      have hP : va_P D vwCl (wM a G M4) H := by rw [e14]; exact hP
      have hD : va_D A (wM a G M4) := by rw [e14]; exact hD
      refine lv_aload_n hx hb dX9_moves_29 rfl (lv_at hl 0 rfl) ?_
      refine va_get (D := D) (ci := 11) (v := .ref (a 1)) (C := RX9) (T := TX9) (N := 16) hx hb hts ju_X9 hown hK hP 0 rfl rfl 1 (by decide) (hts _ jq_6_1) (fun _ h9 => h9) rfl dX9_moves_30 ?_
      refine lv_bipush (v := 39) hx hb dX9_moves_33 (by decide) ?_
      refine lv_iconst (v := 4) hx hb dX9_moves_35 (by decide) ?_
      refine lv_iload_n hx hb dX9_moves_36 rfl (lv_at hl 1 rfl) ?_
      refine lv_imul hx hb dX9_moves_37 ?_
      refine lv_iadd hx hb dX9_moves_38 ?_
      refine lv_iconst (v := 2) hx hb dX9_moves_39 (by decide) ?_
      refine lv_iadd hx hb dX9_moves_40 ?_
      refine lv_iload_n hx hb dX9_moves_41 rfl (lv_at hl 2 rfl) ?_
      obtain ⟨g5, hV⟩ := jIf hV
      refine va_iast (D := D) (n := 2169) (f := (M4 1)) hx hb hK hP hD hS 1 0 rfl rfl (inb_of g5) dX9_moves_42 (fun H locs hP hD hS => ?_)
      obtain ⟨M6, e13, hV⟩ := jLet hV
      have hP : va_P D vwCl (wM a G M6) H := by rw [e13]; exact hP
      have hD : va_D A (wM a G M6) := by rw [e13]; exact hD
      refine lv_aload_n hx hb dX9_moves_43 rfl (lv_at hl 0 rfl) ?_
      refine lv_aload_n hx hb dX9_moves_44 rfl (lv_at hl 0 rfl) ?_
      refine lv_iload_n hx hb dX9_moves_45 rfl (lv_at hl 1 rfl) ?_
      obtain ⟨r7, hr7, hV⟩ := jBind hV
      refine jVmI C dX9_moves_46 (k_X9_hinders l D G a N M6 v1 r7 hr7) jy_X9_hinders jq_24_15 jq_24_16 jq_24_17 ⟨rfl, rfl, Nat.le_of_ble_eq_true rfl, Nat.le_of_ble_eq_true rfl⟩ ⟨Nat.le_of_ble_eq_true rfl, Nat.le_of_ble_eq_true rfl⟩ hP hD hA hS (ci := 11) (iw := 0) rfl rfl rfl hl (rest := [.ref (a 0)]) rfl (Nat.le_of_ble_eq_true rfl) (fun H locs hQ hz hkp hS => ?_)
      have hP : va_P D vwCl (wM a G r7.2) H := hQ
      have hD : va_D A (wM a G r7.2) := jD (w := (wM a G M6)) rfl hD
      refine lv_if_eq (tgt := 56) hx hb dX9_moves_49 (by decide) (fun c12 => ?_) (fun c12 => ?_)
      · have hV := jT1 hV c12
        refine lv_iconst (v := 0) hx hb dX9_moves_56 (by decide) ?_
        obtain ⟨r8, hr8, hV⟩ := jBind hV
        refine jVmI C dX9_moves_57 (k_X9_isHindered l D G a N r7.2 (0 : Int32) r8 hr8) jy_X9_isHindered jq_18_8 jq_18_9 jq_18_10 ⟨rfl, rfl, Nat.le_of_ble_eq_true rfl, Nat.le_of_ble_eq_true rfl⟩ ⟨Nat.le_of_ble_eq_true rfl, Nat.le_of_ble_eq_true rfl⟩ hP hD hA hS (ci := 11) (iw := 0) rfl rfl rfl hl (rest := []) rfl (Nat.le_of_ble_eq_true rfl) (fun H locs hQ hz hkp hS => ?_)
        have hP : va_P D vwCl (wM a G r8.2) H := hQ
        have hD : va_D A (wM a G r8.2) := jD (w := (wM a G r7.2)) rfl hD
        refine lv_if_eq (tgt := 67) hx hb dX9_moves_60 (by decide) (fun c9 => ?_) (fun c9 => ?_)
        · have hV := jT1 hV c9
          refine lv_iconst (v := 0) hx hb dX9_moves_67 (by decide) ?_
          cases hV
          exact mRet C rfl dX9_moves_68 rfl rfl hP hS
        · have hV := jF1 hV c9
          refine lv_iconst (v := 4) hx hb dX9_moves_63 (by decide) ?_
          refine lv_goto (tgt := 68) hx hb dX9_moves_64 (by decide) ?_
          cases hV
          exact mRet C rfl dX9_moves_68 rfl rfl hP hS
      · have hV := jF1 hV c12
        refine lv_iconst (v := 1) hx hb dX9_moves_52 (by decide) ?_
        refine lv_goto (tgt := 57) hx hb dX9_moves_53 (by decide) ?_
        obtain ⟨r10, hr10, hV⟩ := jBind hV
        refine jVmI C dX9_moves_57 (k_X9_isHindered l D G a N r7.2 (1 : Int32) r10 hr10) jy_X9_isHindered jq_18_8 jq_18_9 jq_18_10 ⟨rfl, rfl, Nat.le_of_ble_eq_true rfl, Nat.le_of_ble_eq_true rfl⟩ ⟨Nat.le_of_ble_eq_true rfl, Nat.le_of_ble_eq_true rfl⟩ hP hD hA hS (ci := 11) (iw := 0) rfl rfl rfl hl (rest := []) rfl (Nat.le_of_ble_eq_true rfl) (fun H locs hQ hz hkp hS => ?_)
        have hP : va_P D vwCl (wM a G r10.2) H := hQ
        have hD : va_D A (wM a G r10.2) := jD (w := (wM a G r7.2)) rfl hD
        refine lv_if_eq (tgt := 67) hx hb dX9_moves_60 (by decide) (fun c11 => ?_) (fun c11 => ?_)
        · have hV := jT1 hV c11
          refine lv_iconst (v := 0) hx hb dX9_moves_67 (by decide) ?_
          cases hV
          exact mRet C rfl dX9_moves_68 rfl rfl hP hS
        · have hV := jF1 hV c11
          refine lv_iconst (v := 4) hx hb dX9_moves_63 (by decide) ?_
          refine lv_goto (tgt := 68) hx hb dX9_moves_64 (by decide) ?_
          cases hV
          exact mRet C rfl dX9_moves_68 rfl rfl hP hS
    · have hV := jT1 hV c15
      refine lv_iconst (v := 2) hx hb dX9_moves_17 (by decide) ?_
      cases hV
      exact mRet C rfl dX9_moves_18 rfl rfl hP hS
  · have hV := jT1 hV c16
    refine lv_iconst (v := 1) hx hb dX9_moves_8 (by decide) ?_
    cases hV
    exact mRet C rfl dX9_moves_9 rfl rfl hP hS
