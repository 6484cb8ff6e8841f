theorem jy_X9_append : jY yX9_append cX9_append 2 (some .int) 1 := ⟨by decide +kernel, jq_44_19, jq_1_5⟩
def D_X9_append_30 (N : Nat)  (M : Nat → Nat → Int32) (v1 : Int32) (s0 : Int32) : Option (Int32 × (Nat → Nat → Int32)) := (jlet (stF M 0 s0) (fun M1 => (if (M1 0 0) = 0 then (if inb (M1 0 10) 60 = true then (jlet (stA M1 2 (M1 0 10) (vp_nar .char v1)) (fun M3 => (jlet (stF M3 10 ((M3 0 10) + (1 : Int32))) (fun M4 => (some ((M4 0 10), M4)))))) else none) else (some ((0 : Int32), M1)))))
set_option maxHeartbeats 4000000 in
set_option maxRecDepth 100000 in
theorem B_X9_append_30 {p : Program} {l : Launch} {e : Env} {s : State} {m : MethodId} {args : Array Value} {below : List Frame} {meth : Method} {c : Code} {D : va_G} {G : Nat → ClassId} {A : Nat → Prop} (C : Cx p s m args meth c cX9_append 2 RX9 (some .int) D G) (hA : ∀ q : Nat, s.heap.size ≤ q → A q) (N : Nat) (a : Nat → Nat) (r : (Int32 × (Nat → Nat → Int32))) : (∀ (M : Nat → Nat → Int32) (v1 : Int32) (s0 : Int32) (ls : Array Slot) (H : Heap) (locs : List Loc), va_P D vwCl (wM a G M) H → va_D A (wM a G M) → va_S A s.heap H locs → lv_has ls 2 [(0, .ref (a 0)), (1, .int v1)] → D_X9_append_30 N   M v1 s0 = some r → W p l e ({ frames := 1, cells := 0, slots := 0, locals := 22 } : Room) s m args below meth c H locs 0 0 (MQ below (mQ D (wM a G r.2) (some (.int r.1)) A) args s 0 0 A) (F0 m 30 ls [.int s0, .ref (a 0)])) := by
  have C := C
  obtain ⟨hx, hb, hr, hml, hts, hown, hlocks, hK0⟩ := id C
  have hK := hK0.1
  intro M v1 s0 ls H locs hP hD hS hl hV
  rw [D_X9_append_30] at hV
  refine va_put (D := D) (ci := 11) (v := .int s0) (ty := .int) (C := RX9) (T := TX9) (N := 16) hx hb hts ju_X9 tyX9 tyX9_ok nmX9 hown hK hP hD hS 0 rfl rfl 0 (by decide) (hts _ jq_15_2) (fun _ h9 => h9) rfl (by decide +kernel) rfl rfl (Nat.le_of_ble_eq_true rfl) dX9_append_30 (fun H locs hP hD hS => ?_)
  obtain ⟨M1, e8, hV⟩ := jLet hV
  have hP : va_P D vwCl (wM a G M1) H := by rw [e8]; exact hP
  have hD : va_D A (wM a G M1) := by rw [e8]; exact hD
  refine lv_aload_n hx hb dX9_append_33 rfl (lv_at hl 0 rfl) ?_
  refine va_get (D := D) (ci := 11) (v := .int (M1 0 0)) (C := RX9) (T := TX9) (N := 16) hx hb hts ju_X9 hown hK hP 0 rfl rfl 0 (by decide) (hts _ jq_15_2) (fun _ h9 => h9) rfl dX9_append_34 ?_
  refine lv_if_eq (tgt := 42) hx hb dX9_append_37 (by decide) (fun c7 => ?_) (fun c7 => ?_)
  · have hV := jT1 hV c7
    refine lv_aload_n hx hb dX9_append_42 rfl (lv_at hl 0 rfl) ?_
    refine va_get (D := D) (ci := 11) (v := .ref (a 2)) (C := RX9) (T := TX9) (N := 16) hx hb hts ju_X9 hown hK hP 0 rfl rfl 9 (by decide) (hts _ jq_6_2) (fun _ h9 => h9) rfl dX9_append_43 ?_
    refine lv_aload_n hx hb dX9_append_46 rfl (lv_at hl 0 rfl) ?_
    refine va_get (D := D) (ci := 11) (v := .int (M1 0 10)) (C := RX9) (T := TX9) (N := 16) hx hb hts ju_X9 hown hK hP 0 rfl rfl 10 (by decide) (hts _ jq_44_3) (fun _ h9 => h9) rfl dX9_append_47 ?_
    refine lv_iload_n hx hb dX9_append_50 rfl (lv_at hl 1 rfl) ?_
    obtain ⟨g2, hV⟩ := jIf hV
    refine va_cast (D := D) (n := 60) (f := (M1 2)) hx hb hK hP hD hS 2 1 rfl rfl (inb_of g2) dX9_append_51 (fun H locs hP hD hS => ?_)
    obtain ⟨M3, e6, hV⟩ := jLet hV
    have hP : va_P D vwCl (wM a G M3) H := by rw [e6]; exact hP
    have hD : va_D A (wM a G M3) := by rw [e6]; exact hD
    refine lv_aload_n hx hb dX9_append_52 rfl (lv_at hl 0 rfl) ?_
    refine lv_dup hx hb dX9_append_53 rfl ?_
    refine va_get (D := D) (ci := 11) (v := .int (M3 0 10)) (C := RX9) (T := TX9) (N := 16) hx hb hts ju_X9 hown hK hP 0 rfl rfl 10 (by decide) (hts _ jq_44_3) (fun _ h9 => h9) rfl dX9_append_54 ?_
    refine lv_iconst (v := 1) hx hb dX9_append_57 (by decide) ?_
    refine lv_iadd hx hb dX9_append_58 ?_
    refine va_put (D := D) (ci := 11) (v := .int ((M3 0 10) + (1 : Int32))) (ty := .int) (C := RX9) (T := TX9) (N := 16) hx hb hts ju_X9 tyX9 tyX9_ok nmX9 hown hK hP hD hS 0 rfl rfl 10 (by decide) (hts _ jq_44_3) (fun _ h9 => h9) rfl (by decide +kernel) rfl rfl (Nat.le_of_ble_eq_true rfl) dX9_append_59 (fun H locs hP hD hS => ?_)
    obtain ⟨M4, e5, hV⟩ := jLet hV
    have hP : va_P D vwCl (wM a G M4) H := by rw [e5]; exact hP
    have hD : va_D A (wM a G M4) := by rw [e5]; exact hD
    refine lv_aload_n hx hb dX9_append_62 rfl (lv_at hl 0 rfl) ?_
    refine va_get (D := D) (ci := 11) (v := .int (M4 0 10)) (C := RX9) (T := TX9) (N := 16) hx hb hts ju_X9 hown hK hP 0 rfl rfl 10 (by decide) (hts _ jq_44_3) (fun _ h9 => h9) rfl dX9_append_63 ?_
    cases hV
    exact mRet C rfl dX9_append_66 rfl rfl hP hS
  · have hV := jF1 hV c7
    refine lv_iconst (v := 0) hx hb dX9_append_40 (by decide) ?_
    cases hV
    exact mRet C rfl dX9_append_41 rfl rfl hP hS
def F_X9_append (N : Nat)  (M : Nat → Nat → Int32) (v1 : Int32) : Option (Int32 × (Nat → Nat → Int32)) := ((F_X9_in N  v1 (32 : Int32) (126 : Int32)).bind (fun r9 => (if r9 = 0 then (D_X9_append_30 N   M v1 (1 : Int32)) else (if (M 0 10) = (60 : Int32) then (D_X9_append_30 N   M v1 (2 : Int32)) else (D_X9_append_30 N   M v1 (0 : Int32))))))
set_option maxHeartbeats 4000000 in
set_option maxRecDepth 100000 in
theorem k_X9_append (l : Launch) (D : va_G) (G : Nat → ClassId) (a : Nat → Nat) (N : Nat) (M : Nat → Nat → Int32) (v1 : Int32) (r : (Int32 × (Nat → Nat → Int32))) (hV : F_X9_append N  M v1 = some r) : mM l yX9_append (jws yX9_append cX9_append 2 (some .int)) ({ frames := 1, cells := 0, slots := 0, locals := 22 } : Room) [.ref (a 0), .int v1] D G (wM a G M) (wM a G r.2) (some (.int r.1)) := by
  refine mM_of (by decide +kernel) (Nat.le_of_ble_eq_true rfl) (fun p e s m args below meth c ls A C hP hD hA hl => ?_)
  have C : Cx p s m args meth c cX9_append 2 RX9 (some .int) D G := C
  have hS : va_S A s.heap s.heap [] := va_S.rf
  obtain ⟨hx, hb, hr, hml, hts, hown, hlocks, hK0⟩ := id C
  have hK := hK0.1
  have hl : lv_has ls 2 [(0, .ref (a 0)), (1, .int v1)] := hl
  rw [F_X9_append] at hV
  refine lv_aload_n hx hb dX9_append_0 rfl (lv_at hl 0 rfl) ?_
  refine lv_iload_n hx hb dX9_append_1 rfl (lv_at hl 1 rfl) ?_
  refine lv_bipush (v := 32) hx hb dX9_append_2 (by decide) ?_
  refine lv_bipush (v := 126) hx hb dX9_append_4 (by decide) ?_
  obtain ⟨r9, hr9, hV⟩ := jBind hV
  refine jSpI C dX9_append_6 (k_X9_in l D G  N  v1 (32 : Int32) (126 : Int32) r9 hr9) jy_X9_in jq_13_1 jq_13_2 ⟨rfl, rfl, Nat.le_of_ble_eq_true rfl, Nat.le_of_ble_eq_true rfl⟩ ⟨Nat.le_of_ble_eq_true rfl, Nat.le_of_ble_eq_true rfl⟩ jE  hl (rest := [.ref (a 0)]) rfl (Nat.le_of_ble_eq_true rfl) ?_
  refine lv_if_ne (tgt := 16) hx hb dX9_append_9 (by decide) (fun c11 => ?_) (fun c11 => ?_)
  · have hV := jF1 hV c11
    refine lv_aload_n hx hb dX9_append_16 rfl (lv_at hl 0 rfl) ?_
    refine va_get (D := D) (ci := 11) (v := .int (M 0 10)) (C := RX9) (T := TX9) (N := 16) hx hb hts ju_X9 hown hK hP 0 rfl rfl 10 (by decide) (hts _ jq_44_3) (fun _ h9 => h9) rfl dX9_append_17 ?_
    refine lv_bipush (v := 60) hx hb dX9_append_20 (by decide) ?_
    refine lv_icmp_ne (tgt := 29) hx hb dX9_append_22 (by decide) (fun c10 => ?_) (fun c10 => ?_)
    · have hV := jF1 hV c10
      refine lv_iconst (v := 0) hx hb dX9_append_29 (by decide) ?_
      exact B_X9_append_30 C hA N a r   M v1 (0 : Int32) _ _ _ hP hD hS (lv_sub hl [0, 1] rfl) hV
    · have hV := jT1 hV c10
      refine lv_iconst (v := 2) hx hb dX9_append_25 (by decide) ?_
      refine lv_goto (tgt := 30) hx hb dX9_append_26 (by decide) ?_
      exact B_X9_append_30 C hA N a r   M v1 (2 : Int32) _ _ _ hP hD hS (lv_sub hl [0, 1] rfl) hV
  · have hV := jT1 hV c11
    refine lv_iconst (v := 1) hx hb dX9_append_12 (by decide) ?_
    refine lv_goto (tgt := 30) hx hb dX9_append_13 (by decide) ?_
    exact B_X9_append_30 C hA N a r   M v1 (1 : Int32) _ _ _ hP hD hS (lv_sub hl [0, 1] rfl) hV
theorem jy_X9_here : jY yX9_here cX9_here 1 (some .int) 0 := ⟨by decide +kernel, jq_50_4, jq_1_5⟩
def F_X9_here (N : Nat)  (M : Nat → Nat → Int32) : Option Int32 := (if (M 0 10) ≤ (M 0 12) then (some (-1 : Int32)) else (if inb (M 0 12) 60 = true then (some ((M 2) (M 0 12).toNatClampNeg)) else none))
set_option maxHeartbeats 4000000 in
set_option maxRecDepth 100000 in
theorem k_X9_here (l : Launch) (D : va_G) (G : Nat → ClassId) (a : Nat → Nat) (N : Nat) (M : Nat → Nat → Int32) (r : Int32) (hV : F_X9_here N  M  = some r) : pM l yX9_here (jws yX9_here cX9_here 1 (some .int)) ({ frames := 0, cells := 0, slots := 0, locals := 0 } : Room) [.ref (a 0)] D G (wM a G M) (some (.int r)) := by
  refine pM_of (by decide +kernel) (Nat.le_of_ble_eq_true rfl) (fun p e s m args below meth c ls C hP hl => ?_)
  have C : Cx p s m args meth c cX9_here 1 RX9 (some .int) D G := C
  obtain ⟨hx, hb, hr, hml, hts, hown, hlocks, hK0⟩ := id C
  have hK := hK0.1
  have hl : lv_has ls 1 [(0, .ref (a 0))] := hl
  rw [F_X9_here] at hV
  refine lv_aload_n hx hb dX9_here_0 rfl (lv_at hl 0 rfl) ?_
  refine va_get (D := D) (ci := 11) (v := .int (M 0 12)) (C := RX9) (T := TX9) (N := 16) hx hb hts ju_X9 hown hK hP 0 rfl rfl 12 (by decide) (hts _ jq_49_18) (fun _ h9 => h9) rfl dX9_here_1 ?_
  refine lv_aload_n hx hb dX9_here_4 rfl (lv_at hl 0 rfl) ?_
  refine va_get (D := D) (ci := 11) (v := .int (M 0 10)) (C := RX9) (T := TX9) (N := 16) hx hb hts ju_X9 hown hK hP 0 rfl rfl 10 (by decide) (hts _ jq_44_3) (fun _ h9 => h9) rfl dX9_here_5 ?_
  refine lv_icmp_ge (tgt := 23) hx hb dX9_here_8 (by decide) (fun c2 => ?_) (fun c2 => ?_)
  · have hV := jT1 hV c2
    refine lv_iconst (v := -1) hx hb dX9_here_23 (by decide) ?_
    exact pRet C rfl dX9_here_24 rfl (Option.some.inj hV)
  · have hV := jF1 hV c2
    refine lv_aload_n hx hb dX9_here_11 rfl (lv_at hl 0 rfl) ?_
    refine va_get (D := D) (ci := 11) (v := .ref (a 2)) (C := RX9) (T := TX9) (N := 16) hx hb hts ju_X9 hown hK hP 0 rfl rfl 9 (by decide) (hts _ jq_6_2) (fun _ h9 => h9) rfl dX9_here_12 ?_
    refine lv_aload_n hx hb dX9_here_15 rfl (lv_at hl 0 rfl) ?_
    refine va_get (D := D) (ci := 11) (v := .int (M 0 12)) (C := RX9) (T := TX9) (N := 16) hx hb hts ju_X9 hown hK hP 0 rfl rfl 12 (by decide) (hts _ jq_49_18) (fun _ h9 => h9) rfl dX9_here_16 ?_
    obtain ⟨g1, hV⟩ := jIf hV
    refine va_cald (D := D) (n := 60) (f := (M 2)) hx hb hK hP 2 1 rfl rfl (inb_of g1) dX9_here_19 ?_
    refine lv_goto (tgt := 24) hx hb dX9_here_20 (by decide) ?_
    exact pRet C rfl dX9_here_24 rfl (Option.some.inj hV)
theorem jy_X9_number : jY yX9_number cX9_number 4 (some .int) 1 := ⟨by decide +kernel, jq_50_8, jq_1_5⟩
def D_X9_number_37 (N : Nat)  : Nat → (Nat → Nat → Int32) → Int32 → Int32 → Int32 → Option (Int32 × (Nat → Nat → Int32))
  | 0, _, _, _, _ => none
  | n + 1, M, v1, v2, v3 => (if v1 ≤ v3 then (some (v2, M)) else ((F_X9_here N M ).bind (fun r1 => ((F_X9_in N  r1 (48 : Int32) (57 : Int32)).bind (fun r2 => (if r2 = 0 then (some (v2, M)) else ((F_X9_here N M ).bind (fun r3 => (jlet (stF M 12 ((M 0 12) + (1 : Int32))) (fun M4 => (D_X9_number_37 N   n M4 v1 ((((10 : Int32) * v2) + r3) - (48 : Int32)) (v3 + 1))))))))))))
set_option maxHeartbeats 4000000 in
set_option maxRecDepth 100000 in
theorem B_X9_number_37 {p : Program} {l : Launch} {e : Env} {s : State} {m : MethodId} {args : Array Value} {below : List Frame} {meth : Method} {c : Code} {D : va_G} {G : Nat → ClassId} {A : Nat → Prop} (C : Cx p s m args meth c cX9_number 4 RX9 (some .int) D G) (hA : ∀ q : Nat, s.heap.size ≤ q → A q) (N : Nat) (a : Nat → Nat) (r : (Int32 × (Nat → Nat → Int32))) : (∀ (n : Nat) (M : Nat → Nat → Int32) (v1 : Int32) (v2 : Int32) (v3 : Int32) (ls : Array Slot) (H : Heap) (locs : List Loc), va_P D vwCl (wM a G M) H → va_D A (wM a G M) → va_S A s.heap H locs → lv_has ls 4 [(0, .ref (a 0)), (1, .int v1), (2, .int v2), (3, .int v3)] → D_X9_number_37 N   n M v1 v2 v3 = some r → W p l e ({ frames := 1, cells := 0, slots := 0, locals := 22 } : Room) s m args below meth c H locs 0 0 (MQ below (mQ D (wM a G r.2) (some (.int r.1)) A) args s 0 0 A) (F0 m 37 ls [])) := by
  have C := C
  obtain ⟨hx, hb, hr, hml, hts, hown, hlocks, hK0⟩ := id C
  have hK := hK0.1
  intro n
  induction n with
  | zero =>
    intro M v1 v2 v3 ls H locs hP hD hS hl hV
    rw [D_X9_number_37] at hV
    cases hV
  | succ n ih =>
    intro M v1 v2 v3 ls H locs hP hD hS hl hV
    rw [D_X9_number_37] at hV
    refine lv_iload_n hx hb dX9_number_37 rfl (lv_at hl 3 rfl) ?_
    refine lv_iload_n hx hb dX9_number_38 rfl (lv_at hl 1 rfl) ?_
    refine lv_icmp_ge (tgt := 85) hx hb dX9_number_39 (by decide) (fun c7 => ?_) (fun c7 => ?_)
    · have hV := jT1 hV c7
      refine lv_iload_n hx hb dX9_number_85 rfl (lv_at hl 2 rfl) ?_
      cases hV
      exact mRet C rfl dX9_number_86 rfl rfl hP hS
    · have hV := jF1 hV c7
      refine lv_aload_n hx hb dX9_number_42 rfl (lv_at hl 0 rfl) ?_
      obtain ⟨r1, hr1, hV⟩ := jBind hV
      refine jVpI C dX9_number_43 (k_X9_here l D G a N M  r1 hr1) jy_X9_here jq_50_1 jq_50_2 jq_50_3 ⟨rfl, rfl, Nat.le_of_ble_eq_true rfl, Nat.le_of_ble_eq_true rfl⟩ ⟨Nat.le_of_ble_eq_true rfl, Nat.le_of_ble_eq_true rfl⟩ hP  (ci := 11) (iw := 0) rfl rfl rfl hl (rest := []) rfl (Nat.le_of_ble_eq_true rfl) ?_
      refine lv_bipush (v := 48) hx hb dX9_number_46 (by decide) ?_
      refine lv_bipush (v := 57) hx hb dX9_number_48 (by decide) ?_
      obtain ⟨r2, hr2, hV⟩ := jBind hV
      refine jSpI C dX9_number_50 (k_X9_in l D G  N  r1 (48 : Int32) (57 : Int32) r2 hr2) jy_X9_in jq_13_1 jq_13_2 ⟨rfl, rfl, Nat.le_of_ble_eq_true rfl, Nat.le_of_ble_eq_true rfl⟩ ⟨Nat.le_of_ble_eq_true rfl, Nat.le_of_ble_eq_true rfl⟩ jE  hl (rest := []) rfl (Nat.le_of_ble_eq_true rfl) ?_
      refine lv_if_eq (tgt := 85) hx hb dX9_number_53 (by decide) (fun c6 => ?_) (fun c6 => ?_)
      · have hV := jT1 hV c6
        refine lv_iload_n hx hb dX9_number_85 rfl (lv_at hl 2 rfl) ?_
        cases hV
        exact mRet C rfl dX9_number_86 rfl rfl hP hS
      · have hV := jF1 hV c6
        refine lv_bipush (v := 10) hx hb dX9_number_56 (by decide) ?_
        refine lv_iload_n hx hb dX9_number_58 rfl (lv_at hl 2 rfl) ?_
        refine lv_imul hx hb dX9_number_59 ?_
        refine lv_aload_n hx hb dX9_number_60 rfl (lv_at hl 0 rfl) ?_
        obtain ⟨r3, hr3, hV⟩ := jBind hV
        refine jVpI C dX9_number_61 (k_X9_here l D G a N M  r3 hr3) jy_X9_here jq_50_1 jq_50_2 jq_50_3 ⟨rfl, rfl, Nat.le_of_ble_eq_true rfl, Nat.le_of_ble_eq_true rfl⟩ ⟨Nat.le_of_ble_eq_true rfl, Nat.le_of_ble_eq_true rfl⟩ hP  (ci := 11) (iw := 0) rfl rfl rfl hl (rest := [.int ((10 : Int32) * v2)]) rfl (Nat.le_of_ble_eq_true rfl) ?_
        refine lv_iadd hx hb dX9_number_64 ?_
        refine lv_bipush (v := 48) hx hb dX9_number_65 (by decide) ?_
        refine lv_isub hx hb dX9_number_67 ?_
        refine lv_istore_n (lv' := [(2, .int ((((10 : Int32) * v2) + r3) - (48 : Int32))), (0, .ref (a 0)), (1, .int v1), (3, .int v3)]) hx hb dX9_number_68 rfl hl (by decide) rfl (fun ls hl => ?_)
        refine lv_aload_n hx hb dX9_number_69 rfl (lv_at hl 1 rfl) ?_
        refine lv_dup hx hb dX9_number_70 rfl ?_
        refine va_get (D := D) (ci := 11) (v := .int (M 0 12)) (C := RX9) (T := TX9) (N := 16) hx hb hts ju_X9 hown hK hP 0 rfl rfl 12 (by decide) (hts _ jq_49_18) (fun _ h9 => h9) rfl dX9_number_71 ?_
        refine lv_iconst (v := 1) hx hb dX9_number_74 (by decide) ?_
        refine lv_iadd hx hb dX9_number_75 ?_
        refine va_put (D := D) (ci := 11) (v := .int ((M 0 12) + (1 : Int32))) (ty := .int) (C := RX9) (T := TX9) (N := 16) hx hb hts ju_X9 tyX9 tyX9_ok nmX9 hown hK hP hD hS 0 rfl rfl 12 (by decide) (hts _ jq_49_18) (fun _ h9 => h9) rfl (by decide +kernel) rfl rfl (Nat.le_of_ble_eq_true rfl) dX9_number_76 (fun H locs hP hD hS => ?_)
        obtain ⟨M4, e5, hV⟩ := jLet hV
        have hP : va_P D vwCl (wM a G M4) H := by rw [e5]; exact hP
        have hD : va_D A (wM a G M4) := by rw [e5]; exact hD
        refine lv_iinc (v := (v3 + 1)) (lv' := [(3, .int (v3 + 1)), (2, .int ((((10 : Int32) * v2) + r3) - (48 : Int32))), (0, .ref (a 0)), (1, .int v1)]) hx hb dX9_number_79 hl (k := 3) rfl rfl (by decide) rfl (fun ls hl => ?_)
        refine lv_goto (tgt := 37) hx hb dX9_number_82 (by decide) ?_
        exact ih M4 v1 ((((10 : Int32) * v2) + r3) - (48 : Int32)) (v3 + 1) _ _ _ hP hD hS (lv_sub hl [2, 3, 1, 0] rfl) hV
def F_X9_number (N : Nat)  (M : Nat → Nat → Int32) (v1 : Int32) : Option (Int32 × (Nat → Nat → Int32)) := (if (M 0 13) < 0 then ((F_X9_here N M ).bind (fun r8 => ((F_X9_in N  r8 (48 : Int32) (57 : Int32)).bind (fun r9 => (if r9 = 0 then (jlet (stF M 13 (M 0 12)) (fun M10 => (some ((0 : Int32), M10)))) else (D_X9_number_37 N   N M v1 (0 : Int32) (0 : Int32))))))) else (some ((0 : Int32), M)))
set_option maxHeartbeats 4000000 in
set_option maxRecDepth 100000 in
theorem k_X9_number (l : Launch) (D : va_G) (G : Nat → ClassId) (a : Nat → Nat) (N : Nat) (M : Nat → Nat → Int32) (v1 : Int32) (r : (Int32 × (Nat → Nat → Int32))) (hV : F_X9_number N  M v1 = some r) : mM l yX9_number (jws yX9_number cX9_number 4 (some .int)) ({ frames := 1, cells := 0, slots := 0, locals := 22 } : Room) [.ref (a 0), .int v1] D G (wM a G M) (wM a G r.2) (some (.int r.1)) := by
  refine mM_of (by decide +kernel) (Nat.le_of_ble_eq_true rfl) (fun p e s m args below meth c ls A C hP hD hA hl => ?_)
  have C : Cx p s m args meth c cX9_number 4 RX9 (some .int) D G := C
  have hS : va_S A s.heap s.heap [] := va_S.rf
  obtain ⟨hx, hb, hr, hml, hts, hown, hlocks, hK0⟩ := id C
  have hK := hK0.1
  have hl : lv_has ls 4 [(0, .ref (a 0)), (1, .int v1)] := hl
  rw [F_X9_number] at hV
  refine lv_aload_n hx hb dX9_number_0 rfl (lv_at hl 0 rfl) ?_
  refine va_get (D := D) (ci := 11) (v := .int (M 0 13)) (C := RX9) (T := TX9) (N := 16) hx hb hts ju_X9 hown hK hP 0 rfl rfl 13 (by decide) (hts _ jq_49_19) (fun _ h9 => h9) rfl dX9_number_1 ?_
  refine lv_if_lt (tgt := 9) hx hb dX9_number_4 (by decide) (fun c13 => ?_) (fun c13 => ?_)
  · have hV := jT1 hV c13
    refine lv_aload_n hx hb dX9_number_9 rfl (lv_at hl 0 rfl) ?_
    obtain ⟨r8, hr8, hV⟩ := jBind hV
    refine jVpI C dX9_number_10 (k_X9_here l D G a N M  r8 hr8) jy_X9_here jq_50_1 jq_50_2 jq_50_3 ⟨rfl, rfl, Nat.le_of_ble_eq_true rfl, Nat.le_of_ble_eq_true rfl⟩ ⟨Nat.le_of_ble_eq_true rfl, Nat.le_of_ble_eq_true rfl⟩ hP  (ci := 11) (iw := 0) rfl rfl rfl hl (rest := []) rfl (Nat.le_of_ble_eq_true rfl) ?_
    refine lv_bipush (v := 48) hx hb dX9_number_13 (by decide) ?_
    refine lv_bipush (v := 57) hx hb dX9_number_15 (by decide) ?_
    obtain ⟨r9, hr9, hV⟩ := jBind hV
    refine jSpI C dX9_number_17 (k_X9_in l D G  N  r8 (48 : Int32) (57 : Int32) r9 hr9) jy_X9_in jq_13_1 jq_13_2 ⟨rfl, rfl, Nat.le_of_ble_eq_true rfl, Nat.le_of_ble_eq_true rfl⟩ ⟨Nat.le_of_ble_eq_true rfl, Nat.le_of_ble_eq_true rfl⟩ jE  hl (rest := []) rfl (Nat.le_of_ble_eq_true rfl) ?_
    refine lv_if_ne (tgt := 33) hx hb dX9_number_20 (by decide) (fun c12 => ?_) (fun c12 => ?_)
    · have hV := jF1 hV c12
      refine lv_iconst (v := 0) hx hb dX9_number_33 (by decide) ?_
      refine lv_istore_n (lv' := [(2, .int (0 : Int32)), (0, .ref (a 0)), (1, .int v1)]) hx hb dX9_number_34 rfl hl (by decide) rfl (fun ls hl => ?_)
      refine lv_iconst (v := 0) hx hb dX9_number_35 (by decide) ?_
      refine lv_istore_n (lv' := [(3, .int (0 : Int32)), (2, .int (0 : Int32)), (0, .ref (a 0)), (1, .int v1)]) hx hb dX9_number_36 rfl hl (by decide) rfl (fun ls hl => ?_)
      exact B_X9_number_37 C hA N a r   N M v1 (0 : Int32) (0 : Int32) _ _ _ hP hD hS (lv_sub hl [2, 3, 1, 0] rfl) hV
    · have hV := jT1 hV c12
      refine lv_aload_n hx hb dX9_number_23 rfl (lv_at hl 0 rfl) ?_
      refine lv_aload_n hx hb dX9_number_24 rfl (lv_at hl 0 rfl) ?_
      refine va_get (D := D) (ci := 11) (v := .int (M 0 12)) (C := RX9) (T := TX9) (N := 16) hx hb hts ju_X9 hown hK hP 0 rfl rfl 12 (by decide) (hts _ jq_49_18) (fun _ h9 => h9) rfl dX9_number_25 ?_
      refine va_put (D := D) (ci := 11) (v := .int (M 0 12)) (ty := .int) (C := RX9) (T := TX9) (N := 16) hx hb hts ju_X9 tyX9 tyX9_ok nmX9 hown hK hP hD hS 0 rfl rfl 13 (by decide) (hts _ jq_49_19) (fun _ h9 => h9) rfl (by decide +kernel) rfl rfl (Nat.le_of_ble_eq_true rfl) dX9_number_28 (fun H locs hP hD hS => ?_)
      obtain ⟨M10, e11, hV⟩ := jLet hV
      have hP : va_P D vwCl (wM a G M10) H := by rw [e11]; exact hP
      have hD : va_D A (wM a G M10) := by rw [e11]; exact hD
      refine lv_iconst (v := 0) hx hb dX9_number_31 (by decide) ?_
      cases hV
      exact mRet C rfl dX9_number_32 rfl rfl hP hS
  · have hV := jF1 hV c13
    refine lv_iconst (v := 0) hx hb dX9_number_7 (by decide) ?_
    cases hV
    exact mRet C rfl dX9_number_8 rfl rfl hP hS
theorem jy_X9_behind : jY yX9_behind cX9_behind 3 (some .int) 2 := ⟨by decide +kernel, jq_50_12, jq_1_5⟩
def F_X9_behind (N : Nat)  (M : Nat → Nat → Int32) (v1 v2 : Int32) : Option (Int32 × (Nat → Nat → Int32)) := (if (M 0 13) < 0 then ((F_X9_here N M ).bind (fun r1 => (if r1 = v1 then (jlet (stF M 12 ((M 0 12) + (1 : Int32))) (fun M2 => ((F_X9_number N M2 v2).bind (fun r3 => (some (r3.1, r3.2)))))) else (jlet (stF M 13 (M 0 12)) (fun M5 => (some ((0 : Int32), M5))))))) else (some ((0 : Int32), M)))
set_option maxHeartbeats 4000000 in
set_option maxRecDepth 100000 in
theorem k_X9_behind (l : Launch) (D : va_G) (G : Nat → ClassId) (a : Nat → Nat) (N : Nat) (M : Nat → Nat → Int32) (v1 v2 : Int32) (r : (Int32 × (Nat → Nat → Int32))) (hV : F_X9_behind N  M v1 v2 = some r) : mM l yX9_behind (jws yX9_behind cX9_behind 3 (some .int)) ({ frames := 2, cells := 0, slots := 0, locals := 45 } : Room) [.ref (a 0), .int v1, .int v2] D G (wM a G M) (wM a G r.2) (some (.int r.1)) := by
  refine mM_of (by decide +kernel) (Nat.le_of_ble_eq_true rfl) (fun p e s m args below meth c ls A C hP hD hA hl => ?_)
  have C : Cx p s m args meth c cX9_behind 3 RX9 (some .int) D G := C
  have hS : va_S A s.heap s.heap [] := va_S.rf
  obtain ⟨hx, hb, hr, hml, hts, hown, hlocks, hK0⟩ := id C
  have hK := hK0.1
  have hl : lv_has ls 3 [(0, .ref (a 0)), (1, .int v1), (2, .int v2)] := hl
  rw [F_X9_behind] at hV
  refine lv_aload_n hx hb dX9_behind_0 rfl (lv_at hl 0 rfl) ?_
  refine va_get (D := D) (ci := 11) (v := .int (M 0 13)) (C := RX9) (T := TX9) (N := 16) hx hb hts ju_X9 hown hK hP 0 rfl rfl 13 (by decide) (hts _ jq_49_19) (fun _ h9 => h9) rfl dX9_behind_1 ?_
  refine lv_if_lt (tgt := 9) hx hb dX9_behind_4 (by decide) (fun c8 => ?_) (fun c8 => ?_)
  · have hV := jT1 hV c8
    refine lv_aload_n hx hb dX9_behind_9 rfl (lv_at hl 0 rfl) ?_
    obtain ⟨r1, hr1, hV⟩ := jBind hV
    refine jVpI C dX9_behind_10 (k_X9_here l D G a N M  r1 hr1) jy_X9_here jq_50_1 jq_50_2 jq_50_3 ⟨rfl, rfl, Nat.le_of_ble_eq_true rfl, Nat.le_of_ble_eq_true rfl⟩ ⟨Nat.le_of_ble_eq_true rfl, Nat.le_of_ble_eq_true rfl⟩ hP  (ci := 11) (iw := 0) rfl rfl rfl hl (rest := []) rfl (Nat.le_of_ble_eq_true rfl) ?_
    refine lv_iload_n hx hb dX9_behind_13 rfl (lv_at hl 1 rfl) ?_
    refine lv_icmp_eq (tgt := 27) hx hb dX9_behind_14 (by decide) (fun c7 => ?_) (fun c7 => ?_)
    · have hV := jT1 hV c7
      refine lv_aload_n hx hb dX9_behind_27 rfl (lv_at hl 0 rfl) ?_
      refine lv_dup hx hb dX9_behind_28 rfl ?_
      refine va_get (D := D) (ci := 11) (v := .int (M 0 12)) (C := RX9) (T := TX9) (N := 16) hx hb hts ju_X9 hown hK hP 0 rfl rfl 12 (by decide) (hts _ jq_49_18) (fun _ h9 => h9) rfl dX9_behind_29 ?_
      refine lv_iconst (v := 1) hx hb dX9_behind_32 (by decide) ?_
      refine lv_iadd hx hb dX9_behind_33 ?_
      refine va_put (D := D) (ci := 11) (v := .int ((M 0 12) + (1 : Int32))) (ty := .int) (C := RX9) (T := TX9) (N := 16) hx hb hts ju_X9 tyX9 tyX9_ok nmX9 hown hK hP hD hS 0 rfl rfl 12 (by decide) (hts _ jq_49_18) (fun _ h9 => h9) rfl (by decide +kernel) rfl rfl (Nat.le_of_ble_eq_true rfl) dX9_behind_34 (fun H locs hP hD hS => ?_)
      obtain ⟨M2, e4, hV⟩ := jLet hV
      have hP : va_P D vwCl (wM a G M2) H := by rw [e4]; exact hP
      have hD : va_D A (wM a G M2) := by rw [e4]; exact hD
      refine lv_aload_n hx hb dX9_behind_37 rfl (lv_at hl 0 rfl) ?_
      refine lv_iload_n hx hb dX9_behind_38 rfl (lv_at hl 2 rfl) ?_
      obtain ⟨r3, hr3, hV⟩ := jBind hV
      refine jVmI C dX9_behind_39 (k_X9_number l D G a N M2 v2 r3 hr3) jy_X9_number jq_50_5 jq_50_6 jq_50_7 ⟨rfl, rfl, Nat.le_of_ble_eq_true rfl, Nat.le_of_ble_eq_true rfl⟩ ⟨Nat.le_of_ble_eq_true rfl, Nat.le_of_ble_eq_true rfl⟩ hP hD hA hS (ci := 11) (iw := 0) rfl rfl rfl hl (rest := []) rfl (Nat.le_of_ble_eq_true rfl) (fun H locs hQ hz hkp hS => ?_)
      have hP : va_P D vwCl (wM a G r3.2) H := hQ
      have hD : va_D A (wM a G r3.2) := jD (w := (wM a G M2)) rfl hD
      cases hV
      exact mRet C rfl dX9_behind_42 rfl rfl hP hS
    · have hV := jF1 hV c7
      refine lv_aload_n hx hb dX9_behind_17 rfl (lv_at hl 0 rfl) ?_
      refine lv_aload_n hx hb dX9_behind_18 rfl (lv_at hl 0 rfl) ?_
      refine va_get (D := D) (ci := 11) (v := .int (M 0 12)) (C := RX9) (T := TX9) (N := 16) hx hb hts ju_X9 hown hK hP 0 rfl rfl 12 (by decide) (hts _ jq_49_18) (fun _ h9 => h9) rfl dX9_behind_19 ?_
      refine va_put (D := D) (ci := 11) (v := .int (M 0 12)) (ty := .int) (C := RX9) (T := TX9) (N := 16) hx hb hts ju_X9 tyX9 tyX9_ok nmX9 hown hK hP hD hS 0 rfl rfl 13 (by decide) (hts _ jq_49_19) (fun _ h9 => h9) rfl (by decide +kernel) rfl rfl (Nat.le_of_ble_eq_true rfl) dX9_behind_22 (fun H locs hP hD hS => ?_)
      obtain ⟨M5, e6, hV⟩ := jLet hV
      have hP : va_P D vwCl (wM a G M5) H := by rw [e6]; exact hP
      have hD : va_D A (wM a G M5) := by rw [e6]; exact hD
      refine lv_iconst (v := 0) hx hb dX9_behind_25 (by decide) ?_
      cases hV
      exact mRet C rfl dX9_behind_26 rfl rfl hP hS
  · have hV := jF1 hV c8
    refine lv_iconst (v := 0) hx hb dX9_behind_7 (by decide) ?_
    cases hV
    exact mRet C rfl dX9_behind_8 rfl rfl hP hS
theorem jy_X9_command : jY yX9_command cX9_command 3 none 0 := ⟨by decide +kernel, jq_50_0, jq_1_5⟩
def D_X9_command_147 (N : Nat)  (M : Nat → Nat → Int32) (v1 : Int32) (v2 : Int32) (s0 : Int32) (s2 : Int32) : Option (Nat → Nat → Int32) := ((F_X9_behind N M s0 (2 : Int32)).bind (fun r1 => (if inb s2 244 = true then (jlet (stA r1.2 3 s2 r1.1) (fun M3 => (if v1 = (119 : Int32) then ((F_X9_behind N M3 (33 : Int32) (1 : Int32)).bind (fun r12 => (if inb (v2 + (3 : Int32)) 244 = true then (jlet (stA r12.2 3 (v2 + (3 : Int32)) r12.1) (fun M14 => (some M14))) else none))) else (if v1 = (101 : Int32) then ((F_X9_behind N M3 (62 : Int32) (2 : Int32)).bind (fun r7 => (if inb (v2 + (3 : Int32)) 244 = true then (jlet (stA r7.2 3 (v2 + (3 : Int32)) r7.1) (fun M9 => (some M9))) else none))) else (if inb (v2 + (3 : Int32)) 244 = true then (jlet (stA M3 3 (v2 + (3 : Int32)) (0 : Int32)) (fun M5 => (some M5))) else none))))) else none)))
set_option maxHeartbeats 4000000 in
set_option maxRecDepth 100000 in
theorem B_X9_command_147 {p : Program} {l : Launch} {e : Env} {s : State} {m : MethodId} {args : Array Value} {below : List Frame} {meth : Method} {c : Code} {D : va_G} {G : Nat → ClassId} {A : Nat → Prop} (C : Cx p s m args meth c cX9_command 3 RX9 none D G) (hA : ∀ q : Nat, s.heap.size ≤ q → A q) (N : Nat) (a : Nat → Nat) (r : (Nat → Nat → Int32)) : (∀ (M : Nat → Nat → Int32) (v1 : Int32) (v2 : Int32) (s0 : Int32) (s2 : Int32) (ls : Array Slot) (H : Heap) (locs : List Loc), va_P D vwCl (wM a G M) H → va_D A (wM a G M) → va_S A s.heap H locs → lv_has ls 3 [(0, .ref (a 0)), (1, .int v1), (2, .int v2)] → D_X9_command_147 N   M v1 v2 s0 s2 = some r → W p l e ({ frames := 3, cells := 0, slots := 0, locals := 67 } : Room) s m args below meth c H locs 0 0 (MQ below (mQ D (wM a G r) none A) args s 0 0 A) (F0 m 147 ls [.int s0, .ref (a 0), .int s2, .ref (a 3)])) := by
  have C := C
  obtain ⟨hx, hb, hr, hml, hts, hown, hlocks, hK0⟩ := id C
  have hK := hK0.1
  intro M v1 v2 s0 s2 ls H locs hP hD hS hl hV
  rw [D_X9_command_147] at hV
  refine lv_iconst (v := 2) hx hb dX9_command_147 (by decide) ?_
  obtain ⟨r1, hr1, hV⟩ := jBind hV
  refine jVmI C dX9_command_148 (k_X9_behind l D G a N M s0 (2 : Int32) r1 hr1) jy_X9_behind jq_50_9 jq_50_10 jq_50_11 ⟨rfl, rfl, Nat.le_of_ble_eq_true rfl, Nat.le_of_ble_eq_true rfl⟩ ⟨Nat.le_of_ble_eq_true rfl, Nat.le_of_ble_eq_true rfl⟩ hP hD hA hS (ci := 11) (iw := 0) rfl rfl rfl hl (rest := [.int s2, .ref (a 3)]) rfl (Nat.le_of_ble_eq_true rfl) (fun H locs hQ hz hkp hS => ?_)
  have hP : va_P D vwCl (wM a G r1.2) H := hQ
  have hD : va_D A (wM a G r1.2) := jD (w := (wM a G M)) rfl hD
  obtain ⟨g2, hV⟩ := jIf hV
  refine va_iast (D := D) (n := 244) (f := (r1.2 3)) hx hb hK hP hD hS 3 0 rfl rfl (inb_of g2) dX9_command_151 (fun H locs hP hD hS => ?_)
  obtain ⟨M3, e17, hV⟩ := jLet hV
  have hP : va_P D vwCl (wM a G M3) H := by rw [e17]; exact hP
  have hD : va_D A (wM a G M3) := by rw [e17]; exact hD
  refine lv_aload_n hx hb dX9_command_152 rfl (lv_at hl 0 rfl) ?_
  refine va_get (D := D) (ci := 11) (v := .ref (a 3)) (C := RX9) (T := TX9) (N := 16) hx hb hts ju_X9 hown hK hP 0 rfl rfl 14 (by decide) (hts _ jq_6_4) (fun _ h9 => h9) rfl dX9_command_153 ?_
  refine lv_iload_n hx hb dX9_command_156 rfl (lv_at hl 2 rfl) ?_
  refine lv_iconst (v := 3) hx hb dX9_command_157 (by decide) ?_
  refine lv_iadd hx hb dX9_command_158 ?_
  refine lv_iload_n hx hb dX9_command_159 rfl (lv_at hl 1 rfl) ?_
  refine lv_bipush (v := 119) hx hb dX9_command_160 (by decide) ?_
  refine lv_icmp_ne (tgt := 175) hx hb dX9_command_162 (by decide) (fun c16 => ?_) (fun c16 => ?_)
  · have hV := jF1 hV c16
    refine lv_iload_n hx hb dX9_command_175 rfl (lv_at hl 1 rfl) ?_
    refine lv_bipush (v := 101) hx hb dX9_command_176 (by decide) ?_
    refine lv_icmp_ne (tgt := 191) hx hb dX9_command_178 (by decide) (fun c11 => ?_) (fun c11 => ?_)
    · have hV := jF1 hV c11
      refine lv_iconst (v := 0) hx hb dX9_command_191 (by decide) ?_
      obtain ⟨g4, hV⟩ := jIf hV
      refine va_iast (D := D) (n := 244) (f := (M3 3)) hx hb hK hP hD hS 3 0 rfl rfl (inb_of g4) dX9_command_192 (fun H locs hP hD hS => ?_)
      obtain ⟨M5, e6, hV⟩ := jLet hV
      have hP : va_P D vwCl (wM a G M5) H := by rw [e6]; exact hP
      have hD : va_D A (wM a G M5) := by rw [e6]; exact hD
      cases hV
      exact mRetV C dX9_command_193 hP hS
    · have hV := jT1 hV c11
      refine lv_aload_n hx hb dX9_command_181 rfl (lv_at hl 0 rfl) ?_
      refine lv_bipush (v := 62) hx hb dX9_command_182 (by decide) ?_
      refine lv_iconst (v := 2) hx hb dX9_command_184 (by decide) ?_
      obtain ⟨r7, hr7, hV⟩ := jBind hV
      refine jVmI C dX9_command_185 (k_X9_behind l D G a N M3 (62 : Int32) (2 : Int32) r7 hr7) jy_X9_behind jq_50_9 jq_50_10 jq_50_11 ⟨rfl, rfl, Nat.le_of_ble_eq_true rfl, Nat.le_of_ble_eq_true rfl⟩ ⟨Nat.le_of_ble_eq_true rfl, Nat.le_of_ble_eq_true rfl⟩ hP hD hA hS (ci := 11) (iw := 0) rfl rfl rfl hl (rest := [.int (v2 + (3 : Int32)), .ref (a 3)]) rfl (Nat.le_of_ble_eq_true rfl) (fun H locs hQ hz hkp hS => ?_)
      have hP : va_P D vwCl (wM a G r7.2) H := hQ
      have hD : va_D A (wM a G r7.2) := jD (w := (wM a G M3)) rfl hD
      refine lv_goto (tgt := 192) hx hb dX9_command_188 (by decide) ?_
      obtain ⟨g8, hV⟩ := jIf hV
      refine va_iast (D := D) (n := 244) (f := (r7.2 3)) hx hb hK hP hD hS 3 0 rfl rfl (inb_of g8) dX9_command_192 (fun H locs hP hD hS => ?_)
      obtain ⟨M9, e10, hV⟩ := jLet hV
      have hP : va_P D vwCl (wM a G M9) H := by rw [e10]; exact hP
      have hD : va_D A (wM a G M9) := by rw [e10]; exact hD
      cases hV
      exact mRetV C dX9_command_193 hP hS
  · have hV := jT1 hV c16
    refine lv_aload_n hx hb dX9_command_165 rfl (lv_at hl 0 rfl) ?_
    refine lv_bipush (v := 33) hx hb dX9_command_166 (by decide) ?_
    refine lv_iconst (v := 1) hx hb dX9_command_168 (by decide) ?_
    obtain ⟨r12, hr12, hV⟩ := jBind hV
    refine jVmI C dX9_command_169 (k_X9_behind l D G a N M3 (33 : Int32) (1 : Int32) r12 hr12) jy_X9_behind jq_50_9 jq_50_10 jq_50_11 ⟨rfl, rfl, Nat.le_of_ble_eq_true rfl, Nat.le_of_ble_eq_true rfl⟩ ⟨Nat.le_of_ble_eq_true rfl, Nat.le_of_ble_eq_true rfl⟩ hP hD hA hS (ci := 11) (iw := 0) rfl rfl rfl hl (rest := [.int (v2 + (3 : Int32)), .ref (a 3)]) rfl (Nat.le_of_ble_eq_true rfl) (fun H locs hQ hz hkp hS => ?_)
    have hP : va_P D vwCl (wM a G r12.2) H := hQ
    have hD : va_D A (wM a G r12.2) := jD (w := (wM a G M3)) rfl hD
    refine lv_goto (tgt := 192) hx hb dX9_command_172 (by decide) ?_
    obtain ⟨g13, hV⟩ := jIf hV
    refine va_iast (D := D) (n := 244) (f := (r12.2 3)) hx hb hK hP hD hS 3 0 rfl rfl (inb_of g13) dX9_command_192 (fun H locs hP hD hS => ?_)
    obtain ⟨M14, e15, hV⟩ := jLet hV
    have hP : va_P D vwCl (wM a G M14) H := by rw [e15]; exact hP
    have hD : va_D A (wM a G M14) := by rw [e15]; exact hD
    cases hV
    exact mRetV C dX9_command_193 hP hS
def D_X9_command_63 (N : Nat)  (M : Nat → Nat → Int32) (v1 : Int32) (v2 : Int32) : Option (Nat → Nat → Int32) := (jlet (stF M 12 ((M 0 12) + (1 : Int32))) (fun M18 => (jlet (stF M18 15 ((M18 0 15) + (1 : Int32))) (fun M19 => (if inb v2 244 = true then (jlet (stA M19 3 v2 v1) (fun M21 => ((F_X9_number N M21 (2 : Int32)).bind (fun r22 => (if inb (v2 + (1 : Int32)) 244 = true then (jlet (stA r22.2 3 (v2 + (1 : Int32)) r22.1) (fun M24 => (if v1 = (115 : Int32) then (D_X9_command_147 N   M24 v1 v2 (120 : Int32) (v2 + (2 : Int32))) else (if v1 = (114 : Int32) then (D_X9_command_147 N   M24 v1 v2 (120 : Int32) (v2 + (2 : Int32))) else (if v1 = (119 : Int32) then (D_X9_command_147 N   M24 v1 v2 (120 : Int32) (v2 + (2 : Int32))) else (if v1 = (109 : Int32) then (D_X9_command_147 N   M24 v1 v2 (64 : Int32) (v2 + (2 : Int32))) else (D_X9_command_147 N   M24 v1 v2 (58 : Int32) (v2 + (2 : Int32))))))))) else none))))) else none)))))
set_option maxHeartbeats 4000000 in
set_option maxRecDepth 100000 in
theorem B_X9_command_63 {p : Program} {l : Launch} {e : Env} {s : State} {m : MethodId} {args : Array Value} {below : List Frame} {meth : Method} {c : Code} {D : va_G} {G : Nat → ClassId} {A : Nat → Prop} (C : Cx p s m args meth c cX9_command 3 RX9 none D G) (hA : ∀ q : Nat, s.heap.size ≤ q → A q) (N : Nat) (a : Nat → Nat) (r : (Nat → Nat → Int32)) : (∀ (M : Nat → Nat → Int32) (v1 : Int32) (v2 : Int32) (ls : Array Slot) (H : Heap) (locs : List Loc), va_P D vwCl (wM a G M) H → va_D A (wM a G M) → va_S A s.heap H locs → lv_has ls 3 [(0, .ref (a 0)), (1, .int v1), (2, .int v2)] → D_X9_command_63 N   M v1 v2 = some r → W p l e ({ frames := 3, cells := 0, slots := 0, locals := 67 } : Room) s m args below meth c H locs 0 0 (MQ below (mQ D (wM a G r) none A) args s 0 0 A) (F0 m 63 ls [])) := by
  have C := C
  obtain ⟨hx, hb, hr, hml, hts, hown, hlocks, hK0⟩ := id C
  have hK := hK0.1
  intro M v1 v2 ls H locs hP hD hS hl hV
  rw [D_X9_command_63] at hV
  refine lv_aload_n hx hb dX9_command_63 rfl (lv_at hl 0 rfl) ?_
  refine lv_dup hx hb dX9_command_64 rfl ?_
  refine va_get (D := D) (ci := 11) (v := .int (M 0 12)) (C := RX9) (T := TX9) (N := 16) hx hb hts ju_X9 hown hK hP 0 rfl rfl 12 (by decide) (hts _ jq_49_18) (fun _ h9 => h9) rfl dX9_command_65 ?_
  refine lv_iconst (v := 1) hx hb dX9_command_68 (by decide) ?_
  refine lv_iadd hx hb dX9_command_69 ?_
  refine va_put (D := D) (ci := 11) (v := .int ((M 0 12) + (1 : Int32))) (ty := .int) (C := RX9) (T := TX9) (N := 16) hx hb hts ju_X9 tyX9 tyX9_ok nmX9 hown hK hP hD hS 0 rfl rfl 12 (by decide) (hts _ jq_49_18) (fun _ h9 => h9) rfl (by decide +kernel) rfl rfl (Nat.le_of_ble_eq_true rfl) dX9_command_70 (fun H locs hP hD hS => ?_)
  obtain ⟨M18, e32, hV⟩ := jLet hV
  have hP : va_P D vwCl (wM a G M18) H := by rw [e32]; exact hP
  have hD : va_D A (wM a G M18) := by rw [e32]; exact hD
  refine lv_aload_n hx hb dX9_command_73 rfl (lv_at hl 0 rfl) ?_
  refine lv_dup hx hb dX9_command_74 rfl ?_
  refine va_get (D := D) (ci := 11) (v := .int (M18 0 15)) (C := RX9) (T := TX9) (N := 16) hx hb hts ju_X9 hown hK hP 0 rfl rfl 15 (by decide) (hts _ jq_49_20) (fun _ h9 => h9) rfl dX9_command_75 ?_
  refine lv_iconst (v := 1) hx hb dX9_command_78 (by decide) ?_
  refine lv_iadd hx hb dX9_command_79 ?_
  refine va_put (D := D) (ci := 11) (v := .int ((M18 0 15) + (1 : Int32))) (ty := .int) (C := RX9) (T := TX9) (N := 16) hx hb hts ju_X9 tyX9 tyX9_ok nmX9 hown hK hP hD hS 0 rfl rfl 15 (by decide) (hts _ jq_49_20) (fun _ h9 => h9) rfl (by decide +kernel) rfl rfl (Nat.le_of_ble_eq_true rfl) dX9_command_80 (fun H locs hP hD hS => ?_)
  obtain ⟨M19, e31, hV⟩ := jLet hV
  have hP : va_P D vwCl (wM a G M19) H := by rw [e31]; exact hP
  have hD : va_D A (wM a G M19) := by rw [e31]; exact hD
  refine lv_aload_n hx hb dX9_command_83 rfl (lv_at hl 0 rfl) ?_
  refine va_get (D := D) (ci := 11) (v := .ref (a 3)) (C := RX9) (T := TX9) (N := 16) hx hb hts ju_X9 hown hK hP 0 rfl rfl 14 (by decide) (hts _ jq_6_4) (fun _ h9 => h9) rfl dX9_command_84 ?_
  refine lv_iload_n hx hb dX9_command_87 rfl (lv_at hl 2 rfl) ?_
  refine lv_iload_n hx hb dX9_command_88 rfl (lv_at hl 1 rfl) ?_
  obtain ⟨g20, hV⟩ := jIf hV
  refine va_iast (D := D) (n := 244) (f := (M19 3)) hx hb hK hP hD hS 3 0 rfl rfl (inb_of g20) dX9_command_89 (fun H locs hP hD hS => ?_)
  obtain ⟨M21, e30, hV⟩ := jLet hV
  have hP : va_P D vwCl (wM a G M21) H := by rw [e30]; exact hP
  have hD : va_D A (wM a G M21) := by rw [e30]; exact hD
  refine lv_aload_n hx hb dX9_command_90 rfl (lv_at hl 0 rfl) ?_
  refine va_get (D := D) (ci := 11) (v := .ref (a 3)) (C := RX9) (T := TX9) (N := 16) hx hb hts ju_X9 hown hK hP 0 rfl rfl 14 (by decide) (hts _ jq_6_4) (fun _ h9 => h9) rfl dX9_command_91 ?_
  refine lv_iload_n hx hb dX9_command_94 rfl (lv_at hl 2 rfl) ?_
  refine lv_iconst (v := 1) hx hb dX9_command_95 (by decide) ?_
  refine lv_iadd hx hb dX9_command_96 ?_
  refine lv_aload_n hx hb dX9_command_97 rfl (lv_at hl 0 rfl) ?_
  refine lv_iconst (v := 2) hx hb dX9_command_98 (by decide) ?_
  obtain ⟨r22, hr22, hV⟩ := jBind hV
  refine jVmI C dX9_command_99 (k_X9_number l D G a N M21 (2 : Int32) r22 hr22) jy_X9_number jq_50_5 jq_50_6 jq_50_7 ⟨rfl, rfl, Nat.le_of_ble_eq_true rfl, Nat.le_of_ble_eq_true rfl⟩ ⟨Nat.le_of_ble_eq_true rfl, Nat.le_of_ble_eq_true rfl⟩ hP hD hA hS (ci := 11) (iw := 0) rfl rfl rfl hl (rest := [.int (v2 + (1 : Int32)), .ref (a 3)]) rfl (Nat.le_of_ble_eq_true rfl) (fun H locs hQ hz hkp hS => ?_)
  have hP : va_P D vwCl (wM a G r22.2) H := hQ
  have hD : va_D A (wM a G r22.2) := jD (w := (wM a G M21)) rfl hD
  obtain ⟨g23, hV⟩ := jIf hV
  refine va_iast (D := D) (n := 244) (f := (r22.2 3)) hx hb hK hP hD hS 3 0 rfl rfl (inb_of g23) dX9_command_102 (fun H locs hP hD hS => ?_)
  obtain ⟨M24, e29, hV⟩ := jLet hV
  have hP : va_P D vwCl (wM a G M24) H := by rw [e29]; exact hP
  have hD : va_D A (wM a G M24) := by rw [e29]; exact hD
  refine lv_aload_n hx hb dX9_command_103 rfl (lv_at hl 0 rfl) ?_
  refine va_get (D := D) (ci := 11) (v := .ref (a 3)) (C := RX9) (T := TX9) (N := 16) hx hb hts ju_X9 hown hK hP 0 rfl rfl 14 (by decide) (hts _ jq_6_4) (fun _ h9 => h9) rfl dX9_command_104 ?_
  refine lv_iload_n hx hb dX9_command_107 rfl (lv_at hl 2 rfl) ?_
  refine lv_iconst (v := 2) hx hb dX9_command_108 (by decide) ?_
  refine lv_iadd hx hb dX9_command_109 ?_
  refine lv_aload_n hx hb dX9_command_110 rfl (lv_at hl 0 rfl) ?_
  refine lv_iload_n hx hb dX9_command_111 rfl (lv_at hl 1 rfl) ?_
  refine lv_bipush (v := 115) hx hb dX9_command_112 (by decide) ?_
  refine lv_icmp_eq (tgt := 129) hx hb dX9_command_114 (by decide) (fun c28 => ?_) (fun c28 => ?_)
  · have hV := jT1 hV c28
    refine lv_bipush (v := 120) hx hb dX9_command_129 (by decide) ?_
    refine lv_goto (tgt := 147) hx hb dX9_command_131 (by decide) ?_
    exact B_X9_command_147 C hA N a r   M24 v1 v2 (120 : Int32) (v2 + (2 : Int32)) _ _ _ hP hD hS (lv_sub hl [0, 1, 2] rfl) hV
  · have hV := jF1 hV c28
    refine lv_iload_n hx hb dX9_command_117 rfl (lv_at hl 1 rfl) ?_
    refine lv_bipush (v := 114) hx hb dX9_command_118 (by decide) ?_
    refine lv_icmp_eq (tgt := 129) hx hb dX9_command_120 (by decide) (fun c27 => ?_) (fun c27 => ?_)
    · have hV := jT1 hV c27
      refine lv_bipush (v := 120) hx hb dX9_command_129 (by decide) ?_
      refine lv_goto (tgt := 147) hx hb dX9_command_131 (by decide) ?_
      exact B_X9_command_147 C hA N a r   M24 v1 v2 (120 : Int32) (v2 + (2 : Int32)) _ _ _ hP hD hS (lv_sub hl [0, 1, 2] rfl) hV
    · have hV := jF1 hV c27
      refine lv_iload_n hx hb dX9_command_123 rfl (lv_at hl 1 rfl) ?_
      refine lv_bipush (v := 119) hx hb dX9_command_124 (by decide) ?_
      refine lv_icmp_ne (tgt := 134) hx hb dX9_command_126 (by decide) (fun c26 => ?_) (fun c26 => ?_)
      · have hV := jF1 hV c26
        refine lv_iload_n hx hb dX9_command_134 rfl (lv_at hl 1 rfl) ?_
        refine lv_bipush (v := 109) hx hb dX9_command_135 (by decide) ?_
        refine lv_icmp_ne (tgt := 145) hx hb dX9_command_137 (by decide) (fun c25 => ?_) (fun c25 => ?_)
        · have hV := jF1 hV c25
          refine lv_bipush (v := 58) hx hb dX9_command_145 (by decide) ?_
          exact B_X9_command_147 C hA N a r   M24 v1 v2 (58 : Int32) (v2 + (2 : Int32)) _ _ _ hP hD hS (lv_sub hl [0, 1, 2] rfl) hV
        · have hV := jT1 hV c25
          refine lv_bipush (v := 64) hx hb dX9_command_140 (by decide) ?_
          refine lv_goto (tgt := 147) hx hb dX9_command_142 (by decide) ?_
          exact B_X9_command_147 C hA N a r   M24 v1 v2 (64 : Int32) (v2 + (2 : Int32)) _ _ _ hP hD hS (lv_sub hl [0, 1, 2] rfl) hV
      · have hV := jT1 hV c26
        refine lv_bipush (v := 120) hx hb dX9_command_129 (by decide) ?_
        refine lv_goto (tgt := 147) hx hb dX9_command_131 (by decide) ?_
        exact B_X9_command_147 C hA N a r   M24 v1 v2 (120 : Int32) (v2 + (2 : Int32)) _ _ _ hP hD hS (lv_sub hl [0, 1, 2] rfl) hV
def F_X9_command (N : Nat)  (M : Nat → Nat → Int32) : Option (Nat → Nat → Int32) := ((F_X9_here N M ).bind (fun r33 => (if r33 = (115 : Int32) then (D_X9_command_63 N   M r33 ((4 : Int32) * (M 0 15))) else (if r33 = (114 : Int32) then (D_X9_command_63 N   M r33 ((4 : Int32) * (M 0 15))) else (if r33 = (119 : Int32) then (D_X9_command_63 N   M r33 ((4 : Int32) * (M 0 15))) else (if r33 = (104 : Int32) then (D_X9_command_63 N   M r33 ((4 : Int32) * (M 0 15))) else (if r33 = (108 : Int32) then (D_X9_command_63 N   M r33 ((4 : Int32) * (M 0 15))) else (if r33 = (101 : Int32) then (D_X9_command_63 N   M r33 ((4 : Int32) * (M 0 15))) else (if r33 = (109 : Int32) then (D_X9_command_63 N   M r33 ((4 : Int32) * (M 0 15))) else (jlet (stF M 13 (M 0 12)) (fun M34 => (some M34))))))))))))
set_option maxHeartbeats 4000000 in
set_option maxRecDepth 100000 in
theorem k_X9_command (l : Launch) (D : va_G) (G : Nat → ClassId) (a : Nat → Nat) (N : Nat) (M : Nat → Nat → Int32) (r : (Nat → Nat → Int32)) (hV : F_X9_command N  M  = some r) : mM l yX9_command (jws yX9_command cX9_command 3 none) ({ frames := 3, cells := 0, slots := 0, locals := 67 } : Room) [.ref (a 0)] D G (wM a G M) (wM a G r) none := by
  refine mM_of (by decide +kernel) (Nat.le_of_ble_eq_true rfl) (fun p e s m args below meth c ls A C hP hD hA hl => ?_)
  have C : Cx p s m args meth c cX9_command 3 RX9 none D G := C
  have hS : va_S A s.heap s.heap [] := va_S.rf
  obtain ⟨hx, hb, hr, hml, hts, hown, hlocks, hK0⟩ := id C
  have hK := hK0.1
  have hl : lv_has ls 3 [(0, .ref (a 0))] := hl
  rw [F_X9_command] at hV
  refine lv_aload_n hx hb dX9_command_0 rfl (lv_at hl 0 rfl) ?_
  obtain ⟨r33, hr33, hV⟩ := jBind hV
  refine jVpI C dX9_command_1 (k_X9_here l D G a N M  r33 hr33) jy_X9_here jq_50_1 jq_50_2 jq_50_3 ⟨rfl, rfl, Nat.le_of_ble_eq_true rfl, Nat.le_of_ble_eq_true rfl⟩ ⟨Nat.le_of_ble_eq_true rfl, Nat.le_of_ble_eq_true rfl⟩ hP  (ci := 11) (iw := 0) rfl rfl rfl hl (rest := []) rfl (Nat.le_of_ble_eq_true rfl) ?_
  refine lv_istore_n (lv' := [(1, .int r33), (0, .ref (a 0))]) hx hb dX9_command_4 rfl hl (by decide) rfl (fun ls hl => ?_)
  refine lv_iconst (v := 4) hx hb dX9_command_5 (by decide) ?_
  refine lv_aload_n hx hb dX9_command_6 rfl (lv_at hl 1 rfl) ?_
  refine va_get (D := D) (ci := 11) (v := .int (M 0 15)) (C := RX9) (T := TX9) (N := 16) hx hb hts ju_X9 hown hK hP 0 rfl rfl 15 (by decide) (hts _ jq_49_20) (fun _ h9 => h9) rfl dX9_command_7 ?_
  refine lv_imul hx hb dX9_command_10 ?_
  refine lv_istore_n (lv' := [(2, .int ((4 : Int32) * (M 0 15))), (1, .int r33), (0, .ref (a 0))]) hx hb dX9_command_11 rfl hl (by decide) rfl (fun ls hl => ?_)
  refine lv_iload_n hx hb dX9_command_12 rfl (lv_at hl 1 rfl) ?_
  refine lv_bipush (v := 115) hx hb dX9_command_13 (by decide) ?_
  refine lv_icmp_eq (tgt := 63) hx hb dX9_command_15 (by decide) (fun c42 => ?_) (fun c42 => ?_)
  · have hV := jT1 hV c42
    exact B_X9_command_63 C hA N a r   M r33 ((4 : Int32) * (M 0 15)) _ _ _ hP hD hS (lv_sub hl [2, 1, 0] rfl) hV
  · have hV := jF1 hV c42
    refine lv_iload_n hx hb dX9_command_18 rfl (lv_at hl 1 rfl) ?_
    refine lv_bipush (v := 114) hx hb dX9_command_19 (by decide) ?_
    refine lv_icmp_eq (tgt := 63) hx hb dX9_command_21 (by decide) (fun c41 => ?_) (fun c41 => ?_)
    · have hV := jT1 hV c41
      exact B_X9_command_63 C hA N a r   M r33 ((4 : Int32) * (M 0 15)) _ _ _ hP hD hS (lv_sub hl [2, 1, 0] rfl) hV
    · have hV := jF1 hV c41
      refine lv_iload_n hx hb dX9_command_24 rfl (lv_at hl 1 rfl) ?_
      refine lv_bipush (v := 119) hx hb dX9_command_25 (by decide) ?_
      refine lv_icmp_eq (tgt := 63) hx hb dX9_command_27 (by decide) (fun c40 => ?_) (fun c40 => ?_)
      · have hV := jT1 hV c40
        exact B_X9_command_63 C hA N a r   M r33 ((4 : Int32) * (M 0 15)) _ _ _ hP hD hS (lv_sub hl [2, 1, 0] rfl) hV
      · have hV := jF1 hV c40
        refine lv_iload_n hx hb dX9_command_30 rfl (lv_at hl 1 rfl) ?_
        refine lv_bipush (v := 104) hx hb dX9_command_31 (by decide) ?_
        refine lv_icmp_eq (tgt := 63) hx hb dX9_command_33 (by decide) (fun c39 => ?_) (fun c39 => ?_)
        · have hV := jT1 hV c39
          exact B_X9_command_63 C hA N a r   M r33 ((4 : Int32) * (M 0 15)) _ _ _ hP hD hS (lv_sub hl [2, 1, 0] rfl) hV
        · have hV := jF1 hV c39
          refine lv_iload_n hx hb dX9_command_36 rfl (lv_at hl 1 rfl) ?_
          refine lv_bipush (v := 108) hx hb dX9_command_37 (by decide) ?_
          refine lv_icmp_eq (tgt := 63) hx hb dX9_command_39 (by decide) (fun c38 => ?_) (fun c38 => ?_)
          · have hV := jT1 hV c38
            exact B_X9_command_63 C hA N a r   M r33 ((4 : Int32) * (M 0 15)) _ _ _ hP hD hS (lv_sub hl [2, 1, 0] rfl) hV
          · have hV := jF1 hV c38
            refine lv_iload_n hx hb dX9_command_42 rfl (lv_at hl 1 rfl) ?_
            refine lv_bipush (v := 101) hx hb dX9_command_43 (by decide) ?_
            refine lv_icmp_eq (tgt := 63) hx hb dX9_command_45 (by decide) (fun c37 => ?_) (fun c37 => ?_)
            · have hV := jT1 hV c37
              exact B_X9_command_63 C hA N a r   M r33 ((4 : Int32) * (M 0 15)) _ _ _ hP hD hS (lv_sub hl [2, 1, 0] rfl) hV
            · have hV := jF1 hV c37
              refine lv_iload_n hx hb dX9_command_48 rfl (lv_at hl 1 rfl) ?_
              refine lv_bipush (v := 109) hx hb dX9_command_49 (by decide) ?_
              refine lv_icmp_eq (tgt := 63) hx hb dX9_command_51 (by decide) (fun c36 => ?_) (fun c36 => ?_)
              · have hV := jT1 hV c36
                exact B_X9_command_63 C hA N a r   M r33 ((4 : Int32) * (M 0 15)) _ _ _ hP hD hS (lv_sub hl [2, 1, 0] rfl) hV
              · have hV := jF1 hV c36
                refine lv_aload_n hx hb dX9_command_54 rfl (lv_at hl 2 rfl) ?_
                refine lv_aload_n hx hb dX9_command_55 rfl (lv_at hl 2 rfl) ?_
                refine va_get (D := D) (ci := 11) (v := .int (M 0 12)) (C := RX9) (T := TX9) (N := 16) hx hb hts ju_X9 hown hK hP 0 rfl rfl 12 (by decide) (hts _ jq_49_18) (fun _ h9 => h9) rfl dX9_command_56 ?_
                refine va_put (D := D) (ci := 11) (v := .int (M 0 12)) (ty := .int) (C := RX9) (T := TX9) (N := 16) hx hb hts ju_X9 tyX9 tyX9_ok nmX9 hown hK hP hD hS 0 rfl rfl 13 (by decide) (hts _ jq_49_19) (fun _ h9 => h9) rfl (by decide +kernel) rfl rfl (Nat.le_of_ble_eq_true rfl) dX9_command_59 (fun H locs hP hD hS => ?_)
                obtain ⟨M34, e35, hV⟩ := jLet hV
                have hP : va_P D vwCl (wM a G M34) H := by rw [e35]; exact hP
                have hD : va_D A (wM a G M34) := by rw [e35]; exact hD
                cases hV
                exact mRetV C dX9_command_62 hP hS
theorem jy_X9_does : jY yX9_does cX9_does 4 (some .int) 1 := ⟨by decide +kernel, jq_50_16, jq_1_5⟩
def F_X9_does (N : Nat)  (M : Nat → Nat → Int32) (v1 : Int32) : Option (Int32 × (Nat → Nat → Int32)) := (if inb (v1 + (1 : Int32)) 244 = true then (if inb (v1 + (2 : Int32)) 244 = true then (if inb v1 244 = true then (if ((M 3) v1.toNatClampNeg) = 101 then (if inb (v1 + (3 : Int32)) 244 = true then ((F_X9_exchanges N M ((M 3) (v1 + (1 : Int32)).toNatClampNeg) ((M 3) (v1 + (2 : Int32)).toNatClampNeg) ((M 3) (v1 + (3 : Int32)).toNatClampNeg)).bind (fun r13 => (some (r13.1, r13.2)))) else none) else (if ((M 3) v1.toNatClampNeg) = 104 then ((F_X9_takes N M ((M 3) (v1 + (1 : Int32)).toNatClampNeg) ((M 3) (v1 + (2 : Int32)).toNatClampNeg)).bind (fun r11 => (some (r11.1, r11.2)))) else (if ((M 3) v1.toNatClampNeg) = 108 then ((F_X9_releases N M ((M 3) (v1 + (1 : Int32)).toNatClampNeg) ((M 3) (v1 + (2 : Int32)).toNatClampNeg)).bind (fun r10 => (some (r10.1, r10.2)))) else (if ((M 3) v1.toNatClampNeg) = 114 then ((F_X9_refunds N M ((M 3) (v1 + (1 : Int32)).toNatClampNeg) ((M 3) (v1 + (2 : Int32)).toNatClampNeg)).bind (fun r9 => (some (r9.1, r9.2)))) else (if ((M 3) v1.toNatClampNeg) = 115 then ((F_X9_sells N M ((M 3) (v1 + (1 : Int32)).toNatClampNeg) ((M 3) (v1 + (2 : Int32)).toNatClampNeg)).bind (fun r8 => (some (r8.1, r8.2)))) else (if ((M 3) v1.toNatClampNeg) = 119 then (if inb (v1 + (3 : Int32)) 244 = true then ((F_X9_requests N M ((M 3) (v1 + (1 : Int32)).toNatClampNeg) ((M 3) (v1 + (2 : Int32)).toNatClampNeg) ((M 3) (v1 + (3 : Int32)).toNatClampNeg)).bind (fun r7 => (some (r7.1, r7.2)))) else none) else ((F_X9_moves N M ((M 3) (v1 + (1 : Int32)).toNatClampNeg) ((M 3) (v1 + (2 : Int32)).toNatClampNeg)).bind (fun r5 => (some (r5.1, r5.2)))))))))) else none) else none) else none)
set_option maxHeartbeats 4000000 in
set_option maxRecDepth 100000 in
theorem k_X9_does (l : Launch) (D : va_G) (G : Nat → ClassId) (a : Nat → Nat) (N : Nat) (M : Nat → Nat → Int32) (v1 : Int32) (r : (Int32 × (Nat → Nat → Int32))) (hV : F_X9_does N  M v1 = some r) : mM l yX9_does (jws yX9_does cX9_does 4 (some .int)) ({ frames := 6, cells := 0, slots := 0, locals := 135 } : Room) [.ref (a 0), .int v1] D G (wM a G M) (wM a G r.2) (some (.int r.1)) := by
  refine mM_of (by decide +kernel) (Nat.le_of_ble_eq_true rfl) (fun p e s m args below meth c ls A C hP hD hA hl => ?_)
  have C : Cx p s m args meth c cX9_does 4 RX9 (some .int) D G := C
  have hS : va_S A s.heap s.heap [] := va_S.rf
  obtain ⟨hx, hb, hr, hml, hts, hown, hlocks, hK0⟩ := id C
  have hK := hK0.1
  have hl : lv_has ls 4 [(0, .ref (a 0)), (1, .int v1)] := hl
  rw [F_X9_does] at hV
  refine lv_aload_n hx hb dX9_does_0 rfl (lv_at hl 0 rfl) ?_
  refine va_get (D := D) (ci := 11) (v := .ref (a 3)) (C := RX9) (T := TX9) (N := 16) hx hb hts ju_X9 hown hK hP 0 rfl rfl 14 (by decide) (hts _ jq_6_4) (fun _ h9 => h9) rfl dX9_does_1 ?_
  refine lv_iload_n hx hb dX9_does_4 rfl (lv_at hl 1 rfl) ?_
  refine lv_iconst (v := 1) hx hb dX9_does_5 (by decide) ?_
  refine lv_iadd hx hb dX9_does_6 ?_
  obtain ⟨g1, hV⟩ := jIf hV
  refine va_iald (D := D) (n := 244) (f := (M 3)) hx hb hK hP 3 0 rfl rfl (inb_of g1) dX9_does_7 ?_
  refine lv_istore_n (lv' := [(2, .int ((M 3) (v1 + (1 : Int32)).toNatClampNeg)), (0, .ref (a 0)), (1, .int v1)]) hx hb dX9_does_8 rfl hl (by decide) rfl (fun ls hl => ?_)
  refine lv_aload_n hx hb dX9_does_9 rfl (lv_at hl 1 rfl) ?_
  refine va_get (D := D) (ci := 11) (v := .ref (a 3)) (C := RX9) (T := TX9) (N := 16) hx hb hts ju_X9 hown hK hP 0 rfl rfl 14 (by decide) (hts _ jq_6_4) (fun _ h9 => h9) rfl dX9_does_10 ?_
  refine lv_iload_n hx hb dX9_does_13 rfl (lv_at hl 2 rfl) ?_
  refine lv_iconst (v := 2) hx hb dX9_does_14 (by decide) ?_
  refine lv_iadd hx hb dX9_does_15 ?_
  obtain ⟨g2, hV⟩ := jIf hV
  refine va_iald (D := D) (n := 244) (f := (M 3)) hx hb hK hP 3 0 rfl rfl (inb_of g2) dX9_does_16 ?_
  refine lv_istore_n (lv' := [(3, .int ((M 3) (v1 + (2 : Int32)).toNatClampNeg)), (2, .int ((M 3) (v1 + (1 : Int32)).toNatClampNeg)), (0, .ref (a 0)), (1, .int v1)]) hx hb dX9_does_17 rfl hl (by decide) rfl (fun ls hl => ?_)
  refine lv_aload_n hx hb dX9_does_18 rfl (lv_at hl 2 rfl) ?_
  refine va_get (D := D) (ci := 11) (v := .ref (a 3)) (C := RX9) (T := TX9) (N := 16) hx hb hts ju_X9 hown hK hP 0 rfl rfl 14 (by decide) (hts _ jq_6_4) (fun _ h9 => h9) rfl dX9_does_19 ?_
  refine lv_iload_n hx hb dX9_does_22 rfl (lv_at hl 3 rfl) ?_
  obtain ⟨g3, hV⟩ := jIf hV
  refine va_iald (D := D) (n := 244) (f := (M 3)) hx hb hK hP 3 0 rfl rfl (inb_of g3) dX9_does_23 ?_
  by_cases c4_0 : ((M 3) v1.toNatClampNeg) = 101
  · have hV := jT1 hV c4_0
    refine lv_tableIn (tgt := 159) hx hb dX9_does_24 (by rw [c4_0]; decide) (by rw [c4_0]; decide) (by rw [c4_0]; rfl) (by decide) ?_
    refine lv_aload_n hx hb dX9_does_159 rfl (lv_at hl 2 rfl) ?_
    refine lv_iload_n hx hb dX9_does_160 rfl (lv_at hl 1 rfl) ?_
    refine lv_iload_n hx hb dX9_does_161 rfl (lv_at hl 0 rfl) ?_
    refine lv_aload_n hx hb dX9_does_162 rfl (lv_at hl 2 rfl) ?_
    refine va_get (D := D) (ci := 11) (v := .ref (a 3)) (C := RX9) (T := TX9) (N := 16) hx hb hts ju_X9 hown hK hP 0 rfl rfl 14 (by decide) (hts _ jq_6_4) (fun _ h9 => h9) rfl dX9_does_163 ?_
    refine lv_iload_n hx hb dX9_does_166 rfl (lv_at hl 3 rfl) ?_
    refine lv_iconst (v := 3) hx hb dX9_does_167 (by decide) ?_
    refine lv_iadd hx hb dX9_does_168 ?_
    obtain ⟨g12, hV⟩ := jIf hV
    refine va_iald (D := D) (n := 244) (f := (M 3)) hx hb hK hP 3 0 rfl rfl (inb_of g12) dX9_does_169 ?_
    obtain ⟨r13, hr13, hV⟩ := jBind hV
    refine jVmI C dX9_does_170 (k_X9_exchanges l D G a N M ((M 3) (v1 + (1 : Int32)).toNatClampNeg) ((M 3) (v1 + (2 : Int32)).toNatClampNeg) ((M 3) (v1 + (3 : Int32)).toNatClampNeg) r13 hr13) jy_X9_exchanges jq_40_20 jq_40_21 jq_40_22 ⟨rfl, rfl, Nat.le_of_ble_eq_true rfl, Nat.le_of_ble_eq_true rfl⟩ ⟨Nat.le_of_ble_eq_true rfl, Nat.le_of_ble_eq_true rfl⟩ hP hD hA hS (ci := 11) (iw := 0) rfl rfl rfl hl (rest := []) rfl (Nat.le_of_ble_eq_true rfl) (fun H locs hQ hz hkp hS => ?_)
    have hP : va_P D vwCl (wM a G r13.2) H := hQ
    have hD : va_D A (wM a G r13.2) := jD (w := (wM a G M)) rfl hD
    cases hV
    exact mRet C rfl dX9_does_173 rfl rfl hP hS
  · have hV := jF1 hV c4_0
    by_cases c4_3 : ((M 3) v1.toNatClampNeg) = 104
    · have hV := jT1 hV c4_3
      refine lv_tableIn (tgt := 145) hx hb dX9_does_24 (by rw [c4_3]; decide) (by rw [c4_3]; decide) (by rw [c4_3]; rfl) (by decide) ?_
      refine lv_aload_n hx hb dX9_does_145 rfl (lv_at hl 2 rfl) ?_
      refine lv_iload_n hx hb dX9_does_146 rfl (lv_at hl 1 rfl) ?_
      refine lv_iload_n hx hb dX9_does_147 rfl (lv_at hl 0 rfl) ?_
      obtain ⟨r11, hr11, hV⟩ := jBind hV
      refine jVmI C dX9_does_148 (k_X9_takes l D G a N M ((M 3) (v1 + (1 : Int32)).toNatClampNeg) ((M 3) (v1 + (2 : Int32)).toNatClampNeg) r11 hr11) jy_X9_takes jq_38_14 jq_38_15 jq_38_16 ⟨rfl, rfl, Nat.le_of_ble_eq_true rfl, Nat.le_of_ble_eq_true rfl⟩ ⟨Nat.le_of_ble_eq_true rfl, Nat.le_of_ble_eq_true rfl⟩ hP hD hA hS (ci := 11) (iw := 0) rfl rfl rfl hl (rest := []) rfl (Nat.le_of_ble_eq_true rfl) (fun H locs hQ hz hkp hS => ?_)
      have hP : va_P D vwCl (wM a G r11.2) H := hQ
      have hD : va_D A (wM a G r11.2) := jD (w := (wM a G M)) rfl hD
      cases hV
      exact mRet C rfl dX9_does_151 rfl rfl hP hS
    · have hV := jF1 hV c4_3
      by_cases c4_7 : ((M 3) v1.toNatClampNeg) = 108
      · have hV := jT1 hV c4_7
        refine lv_tableIn (tgt := 152) hx hb dX9_does_24 (by rw [c4_7]; decide) (by rw [c4_7]; decide) (by rw [c4_7]; rfl) (by decide) ?_
        refine lv_aload_n hx hb dX9_does_152 rfl (lv_at hl 2 rfl) ?_
        refine lv_iload_n hx hb dX9_does_153 rfl (lv_at hl 1 rfl) ?_
        refine lv_iload_n hx hb dX9_does_154 rfl (lv_at hl 0 rfl) ?_
        obtain ⟨r10, hr10, hV⟩ := jBind hV
        refine jVmI C dX9_does_155 (k_X9_releases l D G a N M ((M 3) (v1 + (1 : Int32)).toNatClampNeg) ((M 3) (v1 + (2 : Int32)).toNatClampNeg) r10 hr10) jy_X9_releases jq_39_21 jq_39_22 jq_39_23 ⟨rfl, rfl, Nat.le_of_ble_eq_true rfl, Nat.le_of_ble_eq_true rfl⟩ ⟨Nat.le_of_ble_eq_true rfl, Nat.le_of_ble_eq_true rfl⟩ hP hD hA hS (ci := 11) (iw := 0) rfl rfl rfl hl (rest := []) rfl (Nat.le_of_ble_eq_true rfl) (fun H locs hQ hz hkp hS => ?_)
        have hP : va_P D vwCl (wM a G r10.2) H := hQ
        have hD : va_D A (wM a G r10.2) := jD (w := (wM a G M)) rfl hD
        cases hV
        exact mRet C rfl dX9_does_158 rfl rfl hP hS
      · have hV := jF1 hV c4_7
        by_cases c4_13 : ((M 3) v1.toNatClampNeg) = 114
        · have hV := jT1 hV c4_13
          refine lv_tableIn (tgt := 123) hx hb dX9_does_24 (by rw [c4_13]; decide) (by rw [c4_13]; decide) (by rw [c4_13]; rfl) (by decide) ?_
          refine lv_aload_n hx hb dX9_does_123 rfl (lv_at hl 2 rfl) ?_
          refine lv_iload_n hx hb dX9_does_124 rfl (lv_at hl 1 rfl) ?_
          refine lv_iload_n hx hb dX9_does_125 rfl (lv_at hl 0 rfl) ?_
          obtain ⟨r9, hr9, hV⟩ := jBind hV
          refine jVmI C dX9_does_126 (k_X9_refunds l D G a N M ((M 3) (v1 + (1 : Int32)).toNatClampNeg) ((M 3) (v1 + (2 : Int32)).toNatClampNeg) r9 hr9) jy_X9_refunds jq_32_22 jq_32_23 jq_33_0 ⟨rfl, rfl, Nat.le_of_ble_eq_true rfl, Nat.le_of_ble_eq_true rfl⟩ ⟨Nat.le_of_ble_eq_true rfl, Nat.le_of_ble_eq_true rfl⟩ hP hD hA hS (ci := 11) (iw := 0) rfl rfl rfl hl (rest := []) rfl (Nat.le_of_ble_eq_true rfl) (fun H locs hQ hz hkp hS => ?_)
          have hP : va_P D vwCl (wM a G r9.2) H := hQ
          have hD : va_D A (wM a G r9.2) := jD (w := (wM a G M)) rfl hD
          cases hV
          exact mRet C rfl dX9_does_129 rfl rfl hP hS
        · have hV := jF1 hV c4_13
          by_cases c4_14 : ((M 3) v1.toNatClampNeg) = 115
          · have hV := jT1 hV c4_14
            refine lv_tableIn (tgt := 116) hx hb dX9_does_24 (by rw [c4_14]; decide) (by rw [c4_14]; decide) (by rw [c4_14]; rfl) (by decide) ?_
            refine lv_aload_n hx hb dX9_does_116 rfl (lv_at hl 2 rfl) ?_
            refine lv_iload_n hx hb dX9_does_117 rfl (lv_at hl 1 rfl) ?_
            refine lv_iload_n hx hb dX9_does_118 rfl (lv_at hl 0 rfl) ?_
            obtain ⟨r8, hr8, hV⟩ := jBind hV
            refine jVmI C dX9_does_119 (k_X9_sells l D G a N M ((M 3) (v1 + (1 : Int32)).toNatClampNeg) ((M 3) (v1 + (2 : Int32)).toNatClampNeg) r8 hr8) jy_X9_sells jq_32_3 jq_32_4 jq_32_5 ⟨rfl, rfl, Nat.le_of_ble_eq_true rfl, Nat.le_of_ble_eq_true rfl⟩ ⟨Nat.le_of_ble_eq_true rfl, Nat.le_of_ble_eq_true rfl⟩ hP hD hA hS (ci := 11) (iw := 0) rfl rfl rfl hl (rest := []) rfl (Nat.le_of_ble_eq_true rfl) (fun H locs hQ hz hkp hS => ?_)
            have hP : va_P D vwCl (wM a G r8.2) H := hQ
            have hD : va_D A (wM a G r8.2) := jD (w := (wM a G M)) rfl hD
            cases hV
            exact mRet C rfl dX9_does_122 rfl rfl hP hS
          · have hV := jF1 hV c4_14
            by_cases c4_18 : ((M 3) v1.toNatClampNeg) = 119
            · have hV := jT1 hV c4_18
              refine lv_tableIn (tgt := 130) hx hb dX9_does_24 (by rw [c4_18]; decide) (by rw [c4_18]; decide) (by rw [c4_18]; rfl) (by decide) ?_
              refine lv_aload_n hx hb dX9_does_130 rfl (lv_at hl 2 rfl) ?_
              refine lv_iload_n hx hb dX9_does_131 rfl (lv_at hl 1 rfl) ?_
              refine lv_iload_n hx hb dX9_does_132 rfl (lv_at hl 0 rfl) ?_
              refine lv_aload_n hx hb dX9_does_133 rfl (lv_at hl 2 rfl) ?_
              refine va_get (D := D) (ci := 11) (v := .ref (a 3)) (C := RX9) (T := TX9) (N := 16) hx hb hts ju_X9 hown hK hP 0 rfl rfl 14 (by decide) (hts _ jq_6_4) (fun _ h9 => h9) rfl dX9_does_134 ?_
              refine lv_iload_n hx hb dX9_does_137 rfl (lv_at hl 3 rfl) ?_
              refine lv_iconst (v := 3) hx hb dX9_does_138 (by decide) ?_
              refine lv_iadd hx hb dX9_does_139 ?_
              obtain ⟨g6, hV⟩ := jIf hV
              refine va_iald (D := D) (n := 244) (f := (M 3)) hx hb hK hP 3 0 rfl rfl (inb_of g6) dX9_does_140 ?_
              obtain ⟨r7, hr7, hV⟩ := jBind hV
              refine jVmI C dX9_does_141 (k_X9_requests l D G a N M ((M 3) (v1 + (1 : Int32)).toNatClampNeg) ((M 3) (v1 + (2 : Int32)).toNatClampNeg) ((M 3) (v1 + (3 : Int32)).toNatClampNeg) r7 hr7) jy_X9_requests jq_34_1 jq_34_2 jq_34_3 ⟨rfl, rfl, Nat.le_of_ble_eq_true rfl, Nat.le_of_ble_eq_true rfl⟩ ⟨Nat.le_of_ble_eq_true rfl, Nat.le_of_ble_eq_true rfl⟩ hP hD hA hS (ci := 11) (iw := 0) rfl rfl rfl hl (rest := []) rfl (Nat.le_of_ble_eq_true rfl) (fun H locs hQ hz hkp hS => ?_)
              have hP : va_P D vwCl (wM a G r7.2) H := hQ
              have hD : va_D A (wM a G r7.2) := jD (w := (wM a G M)) rfl hD
              cases hV
              exact mRet C rfl dX9_does_144 rfl rfl hP hS
            · have hV := jF1 hV c4_18
              refine jTabDef (tgt := 174) hx hb dX9_does_24 (fun k h1 h2 h3 => ?_) (by decide) ?_
              · rcases (show k = 101 ∨ k = 102 ∨ k = 103 ∨ k = 104 ∨ k = 105 ∨ k = 106 ∨ k = 107 ∨ k = 108 ∨ k = 109 ∨ k = 110 ∨ k = 111 ∨ k = 112 ∨ k = 113 ∨ k = 114 ∨ k = 115 ∨ k = 116 ∨ k = 117 ∨ k = 118 ∨ k = 119 by omega) with rfl | rfl | rfl | rfl | rfl | rfl | rfl | rfl | rfl | rfl | rfl | rfl | rfl | rfl | rfl | rfl | rfl | rfl | rfl <;> first | rfl | exact absurd (Int32.toInt_inj.mp (h3.trans (by decide))) c4_0 | exact absurd (Int32.toInt_inj.mp (h3.trans (by decide))) c4_3 | exact absurd (Int32.toInt_inj.mp (h3.trans (by decide))) c4_7 | exact absurd (Int32.toInt_inj.mp (h3.trans (by decide))) c4_13 | exact absurd (Int32.toInt_inj.mp (h3.trans (by decide))) c4_14 | exact absurd (Int32.toInt_inj.mp (h3.trans (by decide))) c4_18
              · refine lv_aload_n hx hb dX9_does_174 rfl (lv_at hl 2 rfl) ?_
                refine lv_iload_n hx hb dX9_does_175 rfl (lv_at hl 1 rfl) ?_
                refine lv_iload_n hx hb dX9_does_176 rfl (lv_at hl 0 rfl) ?_
                obtain ⟨r5, hr5, hV⟩ := jBind hV
                refine jVmI C dX9_does_177 (k_X9_moves l D G a N M ((M 3) (v1 + (1 : Int32)).toNatClampNeg) ((M 3) (v1 + (2 : Int32)).toNatClampNeg) r5 hr5) jy_X9_moves jq_26_20 jq_26_21 jq_26_22 ⟨rfl, rfl, Nat.le_of_ble_eq_true rfl, Nat.le_of_ble_eq_true rfl⟩ ⟨Nat.le_of_ble_eq_true rfl, Nat.le_of_ble_eq_true rfl⟩ hP hD hA hS (ci := 11) (iw := 0) rfl rfl rfl hl (rest := []) rfl (Nat.le_of_ble_eq_true rfl) (fun H locs hQ hz hkp hS => ?_)
                have hP : va_P D vwCl (wM a G r5.2) H := hQ
                have hD : va_D A (wM a G r5.2) := jD (w := (wM a G M)) rfl hD
                cases hV
                exact mRet C rfl dX9_does_180 rfl rfl hP hS
theorem jy_X9_read : jY yX9_read cX9_read 2 (some .int) 0 := ⟨by decide +kernel, jq_49_17, jq_1_5⟩
def D_X9_read_122 (N : Nat)  : Nat → (Nat → Nat → Int32) → Int32 → Option (Int32 × (Nat → Nat → Int32))
  | 0, _, _ => none
  | n + 1, M, v1 => (if (M 0 15) ≤ v1 then ((F_X9_keeps N M ).bind (fun r1 => (some ((r1 0 15), r1)))) else ((F_X9_does N M ((4 : Int32) * v1)).bind (fun r2 => (if r2.1 = 0 then (D_X9_read_122 N   n r2.2 (v1 + 1)) else ((F_X9_copies N r2.2 (8 : Int32) (0 : Int32)).bind (fun r3 => (jlet (stF r3 0 (2 : Int32)) (fun M4 => (some ((0 : Int32), M4))))))))))
set_option maxHeartbeats 4000000 in
set_option maxRecDepth 100000 in
theorem B_X9_read_122 {p : Program} {l : Launch} {e : Env} {s : State} {m : MethodId} {args : Array Value} {below : List Frame} {meth : Method} {c : Code} {D : va_G} {G : Nat → ClassId} {A : Nat → Prop} (C : Cx p s m args meth c cX9_read 2 RX9 (some .int) D G) (hA : ∀ q : Nat, s.heap.size ≤ q → A q) (N : Nat) (a : Nat → Nat) (r : (Int32 × (Nat → Nat → Int32))) : (∀ (n : Nat) (M : Nat → Nat → Int32) (v1 : Int32) (ls : Array Slot) (H : Heap) (locs : List Loc), va_P D vwCl (wM a G M) H → va_D A (wM a G M) → va_S A s.heap H locs → lv_has ls 2 [(0, .ref (a 0)), (1, .int v1)] → D_X9_read_122 N   n M v1 = some r → W p l e ({ frames := 7, cells := 0, slots := 0, locals := 158 } : Room) s m args below meth c H locs 0 0 (MQ below (mQ D (wM a G r.2) (some (.int r.1)) A) args s 0 0 A) (F0 m 122 ls [])) := by
  have C := C
  obtain ⟨hx, hb, hr, hml, hts, hown, hlocks, hK0⟩ := id C
  have hK := hK0.1
  intro n
  induction n with
  | zero =>
    intro M v1 ls H locs hP hD hS hl hV
    rw [D_X9_read_122] at hV
    cases hV
  | succ n ih =>
    intro M v1 ls H locs hP hD hS hl hV
    rw [D_X9_read_122] at hV
    refine lv_iload_n hx hb dX9_read_122 rfl (lv_at hl 1 rfl) ?_
    refine lv_aload_n hx hb dX9_read_123 rfl (lv_at hl 0 rfl) ?_
    refine va_get (D := D) (ci := 11) (v := .int (M 0 15)) (C := RX9) (T := TX9) (N := 16) hx hb hts ju_X9 hown hK hP 0 rfl rfl 15 (by decide) (hts _ jq_49_20) (fun _ h9 => h9) rfl dX9_read_124 ?_
    refine lv_icmp_ge (tgt := 160) hx hb dX9_read_127 (by decide) (fun c7 => ?_) (fun c7 => ?_)
    · have hV := jT1 hV c7
      refine lv_aload_n hx hb dX9_read_160 rfl (lv_at hl 0 rfl) ?_
      obtain ⟨r1, hr1, hV⟩ := jBind hV
      refine jVmV C dX9_read_161 (k_X9_keeps l D G a N M  r1 hr1) jy_X9_keeps jq_15_3 jq_15_4 jq_15_5 ⟨rfl, rfl, Nat.le_of_ble_eq_true rfl, Nat.le_of_ble_eq_true rfl⟩ ⟨Nat.le_of_ble_eq_true rfl, Nat.le_of_ble_eq_true rfl⟩ hP hD hA hS (ci := 11) (iw := 0) rfl rfl rfl hl (rest := []) rfl (Nat.le_of_ble_eq_true rfl) (fun H locs hQ hz hkp hS => ?_)
      have hP : va_P D vwCl (wM a G r1) H := hQ
      have hD : va_D A (wM a G r1) := jD (w := (wM a G M)) rfl hD
      refine lv_aload_n hx hb dX9_read_164 rfl (lv_at hl 0 rfl) ?_
      refine va_get (D := D) (ci := 11) (v := .int (r1 0 15)) (C := RX9) (T := TX9) (N := 16) hx hb hts ju_X9 hown hK hP 0 rfl rfl 15 (by decide) (hts _ jq_49_20) (fun _ h9 => h9) rfl dX9_read_165 ?_
      cases hV
      exact mRet C rfl dX9_read_168 rfl rfl hP hS
    · have hV := jF1 hV c7
      refine lv_aload_n hx hb dX9_read_130 rfl (lv_at hl 0 rfl) ?_
      refine lv_iconst (v := 4) hx hb dX9_read_131 (by decide) ?_
      refine lv_iload_n hx hb dX9_read_132 rfl (lv_at hl 1 rfl) ?_
      refine lv_imul hx hb dX9_read_133 ?_
      obtain ⟨r2, hr2, hV⟩ := jBind hV
      refine jVmI C dX9_read_134 (k_X9_does l D G a N M ((4 : Int32) * v1) r2 hr2) jy_X9_does jq_50_13 jq_50_14 jq_50_15 ⟨rfl, rfl, Nat.le_of_ble_eq_true rfl, Nat.le_of_ble_eq_true rfl⟩ ⟨Nat.le_of_ble_eq_true rfl, Nat.le_of_ble_eq_true rfl⟩ hP hD hA hS (ci := 11) (iw := 0) rfl rfl rfl hl (rest := []) rfl (Nat.le_of_ble_eq_true rfl) (fun H locs hQ hz hkp hS => ?_)
      have hP : va_P D vwCl (wM a G r2.2) H := hQ
      have hD : va_D A (wM a G r2.2) := jD (w := (wM a G M)) rfl hD
      refine lv_if_eq (tgt := 154) hx hb dX9_read_137 (by decide) (fun c6 => ?_) (fun c6 => ?_)
      · have hV := jT1 hV c6
        refine lv_iinc (v := (v1 + 1)) (lv' := [(1, .int (v1 + 1)), (0, .ref (a 0))]) hx hb dX9_read_154 hl (k := 1) rfl rfl (by decide) rfl (fun ls hl => ?_)
        refine lv_goto (tgt := 122) hx hb dX9_read_157 (by decide) ?_
        exact ih r2.2 (v1 + 1) _ _ _ hP hD hS (lv_sub hl [1, 0] rfl) hV
      · have hV := jF1 hV c6
        refine lv_aload_n hx hb dX9_read_140 rfl (lv_at hl 0 rfl) ?_
        refine lv_bipush (v := 8) hx hb dX9_read_141 (by decide) ?_
        refine lv_iconst (v := 0) hx hb dX9_read_143 (by decide) ?_
        obtain ⟨r3, hr3, hV⟩ := jBind hV
        refine jVmV C dX9_read_144 (k_X9_copies l D G a N r2.2 (8 : Int32) (0 : Int32) r3 hr3) jy_X9_copies jq_12_13 jq_12_14 jq_12_15 ⟨rfl, rfl, Nat.le_of_ble_eq_true rfl, Nat.le_of_ble_eq_true rfl⟩ ⟨Nat.le_of_ble_eq_true rfl, Nat.le_of_ble_eq_true rfl⟩ hP hD hA hS (ci := 11) (iw := 0) rfl rfl rfl hl (rest := []) rfl (Nat.le_of_ble_eq_true rfl) (fun H locs hQ hz hkp hS => ?_)
        have hP : va_P D vwCl (wM a G r3) H := hQ
        have hD : va_D A (wM a G r3) := jD (w := (wM a G r2.2)) rfl hD
        refine lv_aload_n hx hb dX9_read_147 rfl (lv_at hl 0 rfl) ?_
        refine lv_iconst (v := 2) hx hb dX9_read_148 (by decide) ?_
        refine va_put (D := D) (ci := 11) (v := .int (2 : Int32)) (ty := .int) (C := RX9) (T := TX9) (N := 16) hx hb hts ju_X9 tyX9 tyX9_ok nmX9 hown hK hP hD hS 0 rfl rfl 0 (by decide) (hts _ jq_15_2) (fun _ h9 => h9) rfl (by decide +kernel) rfl rfl (Nat.le_of_ble_eq_true rfl) dX9_read_149 (fun H locs hP hD hS => ?_)
        obtain ⟨M4, e5, hV⟩ := jLet hV
        have hP : va_P D vwCl (wM a G M4) H := by rw [e5]; exact hP
        have hD : va_D A (wM a G M4) := by rw [e5]; exact hD
        refine lv_iconst (v := 0) hx hb dX9_read_152 (by decide) ?_
        cases hV
        exact mRet C rfl dX9_read_153 rfl rfl hP hS
def D_X9_read_96 (N : Nat)  (M : Nat → Nat → Int32) (s0 : Int32) : Option (Int32 × (Nat → Nat → Int32)) := (jlet (stF M 0 s0) (fun M8 => (if (M8 0 0) = 0 then ((F_X9_begins N M8 ).bind (fun r9 => (D_X9_read_122 N   N r9 (0 : Int32)))) else (jlet (stF M8 11 (M8 0 13)) (fun M10 => (some ((0 : Int32), M10)))))))
set_option maxHeartbeats 4000000 in
set_option maxRecDepth 100000 in
theorem B_X9_read_96 {p : Program} {l : Launch} {e : Env} {s : State} {m : MethodId} {args : Array Value} {below : List Frame} {meth : Method} {c : Code} {D : va_G} {G : Nat → ClassId} {A : Nat → Prop} (C : Cx p s m args meth c cX9_read 2 RX9 (some .int) D G) (hA : ∀ q : Nat, s.heap.size ≤ q → A q) (N : Nat) (a : Nat → Nat) (r : (Int32 × (Nat → Nat → Int32))) : (∀ (M : Nat → Nat → Int32) (s0 : Int32) (ls : Array Slot) (H : Heap) (locs : List Loc), va_P D vwCl (wM a G M) H → va_D A (wM a G M) → va_S A s.heap H locs → lv_has ls 2 [(0, .ref (a 0))] → D_X9_read_96 N   M s0 = some r → W p l e ({ frames := 7, cells := 0, slots := 0, locals := 158 } : Room) s m args below meth c H locs 0 0 (MQ below (mQ D (wM a G r.2) (some (.int r.1)) A) args s 0 0 A) (F0 m 96 ls [.int s0, .ref (a 0)])) := by
  have C := C
  obtain ⟨hx, hb, hr, hml, hts, hown, hlocks, hK0⟩ := id C
  have hK := hK0.1
  intro M s0 ls H locs hP hD hS hl hV
  rw [D_X9_read_96] at hV
  refine va_put (D := D) (ci := 11) (v := .int s0) (ty := .int) (C := RX9) (T := TX9) (N := 16) hx hb hts ju_X9 tyX9 tyX9_ok nmX9 hown hK hP hD hS 0 rfl rfl 0 (by decide) (hts _ jq_15_2) (fun _ h9 => h9) rfl (by decide +kernel) rfl rfl (Nat.le_of_ble_eq_true rfl) dX9_read_96 (fun H locs hP hD hS => ?_)
  obtain ⟨M8, e13, hV⟩ := jLet hV
  have hP : va_P D vwCl (wM a G M8) H := by rw [e13]; exact hP
  have hD : va_D A (wM a G M8) := by rw [e13]; exact hD
  refine lv_aload_n hx hb dX9_read_99 rfl (lv_at hl 0 rfl) ?_
  refine va_get (D := D) (ci := 11) (v := .int (M8 0 0)) (C := RX9) (T := TX9) (N := 16) hx hb hts ju_X9 hown hK hP 0 rfl rfl 0 (by decide) (hts _ jq_15_2) (fun _ h9 => h9) rfl dX9_read_100 ?_
  refine lv_if_eq (tgt := 116) hx hb dX9_read_103 (by decide) (fun c12 => ?_) (fun c12 => ?_)
  · have hV := jT1 hV c12
    refine lv_aload_n hx hb dX9_read_116 rfl (lv_at hl 0 rfl) ?_
    obtain ⟨r9, hr9, hV⟩ := jBind hV
    refine jVmV C dX9_read_117 (k_X9_begins l D G a N M8  r9 hr9) jy_X9_begins jq_12_9 jq_12_10 jq_12_11 ⟨rfl, rfl, Nat.le_of_ble_eq_true rfl, Nat.le_of_ble_eq_true rfl⟩ ⟨Nat.le_of_ble_eq_true rfl, Nat.le_of_ble_eq_true rfl⟩ hP hD hA hS (ci := 11) (iw := 0) rfl rfl rfl hl (rest := []) rfl (Nat.le_of_ble_eq_true rfl) (fun H locs hQ hz hkp hS => ?_)
    have hP : va_P D vwCl (wM a G r9) H := hQ
    have hD : va_D A (wM a G r9) := jD (w := (wM a G M8)) rfl hD
    refine lv_iconst (v := 0) hx hb dX9_read_120 (by decide) ?_
    refine lv_istore_n (lv' := [(1, .int (0 : Int32)), (0, .ref (a 0))]) hx hb dX9_read_121 rfl hl (by decide) rfl (fun ls hl => ?_)
    exact B_X9_read_122 C hA N a r   N r9 (0 : Int32) _ _ _ hP hD hS (lv_sub hl [1, 0] rfl) hV
  · have hV := jF1 hV c12
    refine lv_aload_n hx hb dX9_read_106 rfl (lv_at hl 0 rfl) ?_
    refine lv_aload_n hx hb dX9_read_107 rfl (lv_at hl 0 rfl) ?_
    refine va_get (D := D) (ci := 11) (v := .int (M8 0 13)) (C := RX9) (T := TX9) (N := 16) hx hb hts ju_X9 hown hK hP 0 rfl rfl 13 (by decide) (hts _ jq_49_19) (fun _ h9 => h9) rfl dX9_read_108 ?_
    refine va_put (D := D) (ci := 11) (v := .int (M8 0 13)) (ty := .int) (C := RX9) (T := TX9) (N := 16) hx hb hts ju_X9 tyX9 tyX9_ok nmX9 hown hK hP hD hS 0 rfl rfl 11 (by decide) (hts _ jq_6_3) (fun _ h9 => h9) rfl (by decide +kernel) rfl rfl (Nat.le_of_ble_eq_true rfl) dX9_read_111 (fun H locs hP hD hS => ?_)
    obtain ⟨M10, e11, hV⟩ := jLet hV
    have hP : va_P D vwCl (wM a G M10) H := by rw [e11]; exact hP
    have hD : va_D A (wM a G M10) := by rw [e11]; exact hD
    refine lv_iconst (v := 0) hx hb dX9_read_114 (by decide) ?_
    cases hV
    exact mRet C rfl dX9_read_115 rfl rfl hP hS
def D_X9_read_78 (N : Nat)  (M : Nat → Nat → Int32) : Option (Int32 × (Nat → Nat → Int32)) := (jlet (stF M 10 (0 : Int32)) (fun M14 => (if (M14 0 13) < 0 then (D_X9_read_96 N   M14 (0 : Int32)) else (D_X9_read_96 N   M14 (1 : Int32)))))
set_option maxHeartbeats 4000000 in
set_option maxRecDepth 100000 in
theorem B_X9_read_78 {p : Program} {l : Launch} {e : Env} {s : State} {m : MethodId} {args : Array Value} {below : List Frame} {meth : Method} {c : Code} {D : va_G} {G : Nat → ClassId} {A : Nat → Prop} (C : Cx p s m args meth c cX9_read 2 RX9 (some .int) D G) (hA : ∀ q : Nat, s.heap.size ≤ q → A q) (N : Nat) (a : Nat → Nat) (r : (Int32 × (Nat → Nat → Int32))) : (∀ (M : Nat → Nat → Int32) (ls : Array Slot) (H : Heap) (locs : List Loc), va_P D vwCl (wM a G M) H → va_D A (wM a G M) → va_S A s.heap H locs → lv_has ls 2 [(0, .ref (a 0))] → D_X9_read_78 N   M  = some r → W p l e ({ frames := 7, cells := 0, slots := 0, locals := 158 } : Room) s m args below meth c H locs 0 0 (MQ below (mQ D (wM a G r.2) (some (.int r.1)) A) args s 0 0 A) (F0 m 78 ls [])) := by
  have C := C
  obtain ⟨hx, hb, hr, hml, hts, hown, hlocks, hK0⟩ := id C
  have hK := hK0.1
  intro M ls H locs hP hD hS hl hV
  rw [D_X9_read_78] at hV
  refine lv_aload_n hx hb dX9_read_78 rfl (lv_at hl 0 rfl) ?_
  refine lv_iconst (v := 0) hx hb dX9_read_79 (by decide) ?_
  refine va_put (D := D) (ci := 11) (v := .int (0 : Int32)) (ty := .int) (C := RX9) (T := TX9) (N := 16) hx hb hts ju_X9 tyX9 tyX9_ok nmX9 hown hK hP hD hS 0 rfl rfl 10 (by decide) (hts _ jq_44_3) (fun _ h9 => h9) rfl (by decide +kernel) rfl rfl (Nat.le_of_ble_eq_true rfl) dX9_read_80 (fun H locs hP hD hS => ?_)
  obtain ⟨M14, e16, hV⟩ := jLet hV
  have hP : va_P D vwCl (wM a G M14) H := by rw [e16]; exact hP
  have hD : va_D A (wM a G M14) := by rw [e16]; exact hD
  refine lv_aload_n hx hb dX9_read_83 rfl (lv_at hl 0 rfl) ?_
  refine lv_aload_n hx hb dX9_read_84 rfl (lv_at hl 0 rfl) ?_
  refine va_get (D := D) (ci := 11) (v := .int (M14 0 13)) (C := RX9) (T := TX9) (N := 16) hx hb hts ju_X9 hown hK hP 0 rfl rfl 13 (by decide) (hts _ jq_49_19) (fun _ h9 => h9) rfl dX9_read_85 ?_
  refine lv_if_lt (tgt := 95) hx hb dX9_read_88 (by decide) (fun c15 => ?_) (fun c15 => ?_)
  · have hV := jT1 hV c15
    refine lv_iconst (v := 0) hx hb dX9_read_95 (by decide) ?_
    exact B_X9_read_96 C hA N a r   M14 (0 : Int32) _ _ _ hP hD hS (lv_sub hl [0] rfl) hV
  · have hV := jF1 hV c15
    refine lv_iconst (v := 1) hx hb dX9_read_91 (by decide) ?_
    refine lv_goto (tgt := 96) hx hb dX9_read_92 (by decide) ?_
    exact B_X9_read_96 C hA N a r   M14 (1 : Int32) _ _ _ hP hD hS (lv_sub hl [0] rfl) hV
def D_X9_read_52 (N : Nat)  (M : Nat → Nat → Int32) : Option (Int32 × (Nat → Nat → Int32)) := (if 0 ≤ (M 0 13) then (D_X9_read_78 N   M ) else (if (M 0 10) ≤ (M 0 12) then (D_X9_read_78 N   M ) else (jlet (stF M 13 (M 0 12)) (fun M17 => (D_X9_read_78 N   M17 )))))
set_option maxHeartbeats 4000000 in
set_option maxRecDepth 100000 in
theorem B_X9_read_52 {p : Program} {l : Launch} {e : Env} {s : State} {m : MethodId} {args : Array Value} {below : List Frame} {meth : Method} {c : Code} {D : va_G} {G : Nat → ClassId} {A : Nat → Prop} (C : Cx p s m args meth c cX9_read 2 RX9 (some .int) D G) (hA : ∀ q : Nat, s.heap.size ≤ q → A q) (N : Nat) (a : Nat → Nat) (r : (Int32 × (Nat → Nat → Int32))) : (∀ (M : Nat → Nat → Int32) (ls : Array Slot) (H : Heap) (locs : List Loc), va_P D vwCl (wM a G M) H → va_D A (wM a G M) → va_S A s.heap H locs → lv_has ls 2 [(0, .ref (a 0))] → D_X9_read_52 N   M  = some r → W p l e ({ frames := 7, cells := 0, slots := 0, locals := 158 } : Room) s m args below meth c H locs 0 0 (MQ below (mQ D (wM a G r.2) (some (.int r.1)) A) args s 0 0 A) (F0 m 52 ls [])) := by
  have C := C
  obtain ⟨hx, hb, hr, hml, hts, hown, hlocks, hK0⟩ := id C
  have hK := hK0.1
  intro M ls H locs hP hD hS hl hV
  rw [D_X9_read_52] at hV
  refine lv_aload_n hx hb dX9_read_52 rfl (lv_at hl 0 rfl) ?_
  refine va_get (D := D) (ci := 11) (v := .int (M 0 13)) (C := RX9) (T := TX9) (N := 16) hx hb hts ju_X9 hown hK hP 0 rfl rfl 13 (by decide) (hts _ jq_49_19) (fun _ h9 => h9) rfl dX9_read_53 ?_
  refine lv_if_ge (tgt := 78) hx hb dX9_read_56 (by decide) (fun c20 => ?_) (fun c20 => ?_)
  · have hV := jT1 hV c20
    exact B_X9_read_78 C hA N a r   M  _ _ _ hP hD hS (lv_sub hl [0] rfl) hV
  · have hV := jF1 hV c20
    refine lv_aload_n hx hb dX9_read_59 rfl (lv_at hl 0 rfl) ?_
    refine va_get (D := D) (ci := 11) (v := .int (M 0 12)) (C := RX9) (T := TX9) (N := 16) hx hb hts ju_X9 hown hK hP 0 rfl rfl 12 (by decide) (hts _ jq_49_18) (fun _ h9 => h9) rfl dX9_read_60 ?_
    refine lv_aload_n hx hb dX9_read_63 rfl (lv_at hl 0 rfl) ?_
    refine va_get (D := D) (ci := 11) (v := .int (M 0 10)) (C := RX9) (T := TX9) (N := 16) hx hb hts ju_X9 hown hK hP 0 rfl rfl 10 (by decide) (hts _ jq_44_3) (fun _ h9 => h9) rfl dX9_read_64 ?_
    refine lv_icmp_ge (tgt := 78) hx hb dX9_read_67 (by decide) (fun c19 => ?_) (fun c19 => ?_)
    · have hV := jT1 hV c19
      exact B_X9_read_78 C hA N a r   M  _ _ _ hP hD hS (lv_sub hl [0] rfl) hV
    · have hV := jF1 hV c19
      refine lv_aload_n hx hb dX9_read_70 rfl (lv_at hl 0 rfl) ?_
      refine lv_aload_n hx hb dX9_read_71 rfl (lv_at hl 0 rfl) ?_
      refine va_get (D := D) (ci := 11) (v := .int (M 0 12)) (C := RX9) (T := TX9) (N := 16) hx hb hts ju_X9 hown hK hP 0 rfl rfl 12 (by decide) (hts _ jq_49_18) (fun _ h9 => h9) rfl dX9_read_72 ?_
      refine va_put (D := D) (ci := 11) (v := .int (M 0 12)) (ty := .int) (C := RX9) (T := TX9) (N := 16) hx hb hts ju_X9 tyX9 tyX9_ok nmX9 hown hK hP hD hS 0 rfl rfl 13 (by decide) (hts _ jq_49_19) (fun _ h9 => h9) rfl (by decide +kernel) rfl rfl (Nat.le_of_ble_eq_true rfl) dX9_read_75 (fun H locs hP hD hS => ?_)
      obtain ⟨M17, e18, hV⟩ := jLet hV
      have hP : va_P D vwCl (wM a G M17) H := by rw [e18]; exact hP
      have hD : va_D A (wM a G M17) := by rw [e18]; exact hD
      exact B_X9_read_78 C hA N a r   M17  _ _ _ hP hD hS (lv_sub hl [0] rfl) hV
def D_X9_read_19 (N : Nat)  : Nat → (Nat → Nat → Int32) → Option (Int32 × (Nat → Nat → Int32))
  | 0, _ => none
  | n + 1, M => (if 0 ≤ (M 0 13) then (D_X9_read_52 N   M ) else ((F_X9_here N M ).bind (fun r21 => (if r21 = (59 : Int32) then (jlet (stF M 12 ((M 0 12) + (1 : Int32))) (fun M22 => ((F_X9_command N M22 ).bind (fun r23 => (D_X9_read_19 N   n r23 ))))) else (D_X9_read_52 N   M )))))
set_option maxHeartbeats 4000000 in
set_option maxRecDepth 100000 in
theorem B_X9_read_19 {p : Program} {l : Launch} {e : Env} {s : State} {m : MethodId} {args : Array Value} {below : List Frame} {meth : Method} {c : Code} {D : va_G} {G : Nat → ClassId} {A : Nat → Prop} (C : Cx p s m args meth c cX9_read 2 RX9 (some .int) D G) (hA : ∀ q : Nat, s.heap.size ≤ q → A q) (N : Nat) (a : Nat → Nat) (r : (Int32 × (Nat → Nat → Int32))) : (∀ (n : Nat) (M : Nat → Nat → Int32) (ls : Array Slot) (H : Heap) (locs : List Loc), va_P D vwCl (wM a G M) H → va_D A (wM a G M) → va_S A s.heap H locs → lv_has ls 2 [(0, .ref (a 0))] → D_X9_read_19 N   n M  = some r → W p l e ({ frames := 7, cells := 0, slots := 0, locals := 158 } : Room) s m args below meth c H locs 0 0 (MQ below (mQ D (wM a G r.2) (some (.int r.1)) A) args s 0 0 A) (F0 m 19 ls [])) := by
  have C := C
  obtain ⟨hx, hb, hr, hml, hts, hown, hlocks, hK0⟩ := id C
  have hK := hK0.1
  intro n
  induction n with
  | zero =>
    intro M ls H locs hP hD hS hl hV
    rw [D_X9_read_19] at hV
    cases hV
  | succ n ih =>
    intro M ls H locs hP hD hS hl hV
    rw [D_X9_read_19] at hV
    refine lv_aload_n hx hb dX9_read_19 rfl (lv_at hl 0 rfl) ?_
    refine va_get (D := D) (ci := 11) (v := .int (M 0 13)) (C := RX9) (T := TX9) (N := 16) hx hb hts ju_X9 hown hK hP 0 rfl rfl 13 (by decide) (hts _ jq_49_19) (fun _ h9 => h9) rfl dX9_read_20 ?_
    refine lv_if_ge (tgt := 52) hx hb dX9_read_23 (by decide) (fun c26 => ?_) (fun c26 => ?_)
    · have hV := jT1 hV c26
      exact B_X9_read_52 C hA N a r   M  _ _ _ hP hD hS (lv_sub hl [0] rfl) hV
    · have hV := jF1 hV c26
      refine lv_aload_n hx hb dX9_read_26 rfl (lv_at hl 0 rfl) ?_
      obtain ⟨r21, hr21, hV⟩ := jBind hV
      refine jVpI C dX9_read_27 (k_X9_here l D G a N M  r21 hr21) jy_X9_here jq_50_1 jq_50_2 jq_50_3 ⟨rfl, rfl, Nat.le_of_ble_eq_true rfl, Nat.le_of_ble_eq_true rfl⟩ ⟨Nat.le_of_ble_eq_true rfl, Nat.le_of_ble_eq_true rfl⟩ hP  (ci := 11) (iw := 0) rfl rfl rfl hl (rest := []) rfl (Nat.le_of_ble_eq_true rfl) ?_
      refine lv_bipush (v := 59) hx hb dX9_read_30 (by decide) ?_
      refine lv_icmp_ne (tgt := 52) hx hb dX9_read_32 (by decide) (fun c25 => ?_) (fun c25 => ?_)
      · have hV := jF1 hV c25
        exact B_X9_read_52 C hA N a r   M  _ _ _ hP hD hS (lv_sub hl [0] rfl) hV
      · have hV := jT1 hV c25
        refine lv_aload_n hx hb dX9_read_35 rfl (lv_at hl 0 rfl) ?_
        refine lv_dup hx hb dX9_read_36 rfl ?_
        refine va_get (D := D) (ci := 11) (v := .int (M 0 12)) (C := RX9) (T := TX9) (N := 16) hx hb hts ju_X9 hown hK hP 0 rfl rfl 12 (by decide) (hts _ jq_49_18) (fun _ h9 => h9) rfl dX9_read_37 ?_
        refine lv_iconst (v := 1) hx hb dX9_read_40 (by decide) ?_
        refine lv_iadd hx hb dX9_read_41 ?_
        refine va_put (D := D) (ci := 11) (v := .int ((M 0 12) + (1 : Int32))) (ty := .int) (C := RX9) (T := TX9) (N := 16) hx hb hts ju_X9 tyX9 tyX9_ok nmX9 hown hK hP hD hS 0 rfl rfl 12 (by decide) (hts _ jq_49_18) (fun _ h9 => h9) rfl (by decide +kernel) rfl rfl (Nat.le_of_ble_eq_true rfl) dX9_read_42 (fun H locs hP hD hS => ?_)
        obtain ⟨M22, e24, hV⟩ := jLet hV
        have hP : va_P D vwCl (wM a G M22) H := by rw [e24]; exact hP
        have hD : va_D A (wM a G M22) := by rw [e24]; exact hD
        refine lv_aload_n hx hb dX9_read_45 rfl (lv_at hl 0 rfl) ?_
        obtain ⟨r23, hr23, hV⟩ := jBind hV
        refine jVmV C dX9_read_46 (k_X9_command l D G a N M22  r23 hr23) jy_X9_command jq_49_21 jq_49_22 jq_49_23 ⟨rfl, rfl, Nat.le_of_ble_eq_true rfl, Nat.le_of_ble_eq_true rfl⟩ ⟨Nat.le_of_ble_eq_true rfl, Nat.le_of_ble_eq_true rfl⟩ hP hD hA hS (ci := 11) (iw := 0) rfl rfl rfl hl (rest := []) rfl (Nat.le_of_ble_eq_true rfl) (fun H locs hQ hz hkp hS => ?_)
        have hP : va_P D vwCl (wM a G r23) H := hQ
        have hD : va_D A (wM a G r23) := jD (w := (wM a G M22)) rfl hD
        refine lv_goto (tgt := 19) hx hb dX9_read_49 (by decide) ?_
        exact ih r23  _ _ _ hP hD hS (lv_sub hl [0] rfl) hV
def F_X9_read (N : Nat)  (M : Nat → Nat → Int32) : Option (Int32 × (Nat → Nat → Int32)) := (jlet (stF M 12 (0 : Int32)) (fun M27 => (jlet (stF M27 13 (-1 : Int32)) (fun M28 => (jlet (stF M28 15 (0 : Int32)) (fun M29 => ((F_X9_command N M29 ).bind (fun r30 => (D_X9_read_19 N   N r30 )))))))))
set_option maxHeartbeats 4000000 in
set_option maxRecDepth 100000 in
theorem k_X9_read (l : Launch) (D : va_G) (G : Nat → ClassId) (a : Nat → Nat) (N : Nat) (M : Nat → Nat → Int32) (r : (Int32 × (Nat → Nat → Int32))) (hV : F_X9_read N  M  = some r) : mM l yX9_read (jws yX9_read cX9_read 2 (some .int)) ({ frames := 7, cells := 0, slots := 0, locals := 158 } : Room) [.ref (a 0)] D G (wM a G M) (wM a G r.2) (some (.int r.1)) := by
  refine mM_of (by decide +kernel) (Nat.le_of_ble_eq_true rfl) (fun p e s m args below meth c ls A C hP hD hA hl => ?_)
  have C : Cx p s m args meth c cX9_read 2 RX9 (some .int) D G := C
  have hS : va_S A s.heap s.heap [] := va_S.rf
  obtain ⟨hx, hb, hr, hml, hts, hown, hlocks, hK0⟩ := id C
  have hK := hK0.1
  have hl : lv_has ls 2 [(0, .ref (a 0))] := hl
  rw [F_X9_read] at hV
  refine lv_aload_n hx hb dX9_read_0 rfl (lv_at hl 0 rfl) ?_
  refine lv_iconst (v := 0) hx hb dX9_read_1 (by decide) ?_
  refine va_put (D := D) (ci := 11) (v := .int (0 : Int32)) (ty := .int) (C := RX9) (T := TX9) (N := 16) hx hb hts ju_X9 tyX9 tyX9_ok nmX9 hown hK hP hD hS 0 rfl rfl 12 (by decide) (hts _ jq_49_18) (fun _ h9 => h9) rfl (by decide +kernel) rfl rfl (Nat.le_of_ble_eq_true rfl) dX9_read_2 (fun H locs hP hD hS => ?_)
  obtain ⟨M27, e33, hV⟩ := jLet hV
  have hP : va_P D vwCl (wM a G M27) H := by rw [e33]; exact hP
  have hD : va_D A (wM a G M27) := by rw [e33]; exact hD
  refine lv_aload_n hx hb dX9_read_5 rfl (lv_at hl 0 rfl) ?_
  refine lv_iconst (v := -1) hx hb dX9_read_6 (by decide) ?_
  refine va_put (D := D) (ci := 11) (v := .int (-1 : Int32)) (ty := .int) (C := RX9) (T := TX9) (N := 16) hx hb hts ju_X9 tyX9 tyX9_ok nmX9 hown hK hP hD hS 0 rfl rfl 13 (by decide) (hts _ jq_49_19) (fun _ h9 => h9) rfl (by decide +kernel) rfl rfl (Nat.le_of_ble_eq_true rfl) dX9_read_7 (fun H locs hP hD hS => ?_)
  obtain ⟨M28, e32, hV⟩ := jLet hV
  have hP : va_P D vwCl (wM a G M28) H := by rw [e32]; exact hP
  have hD : va_D A (wM a G M28) := by rw [e32]; exact hD
  refine lv_aload_n hx hb dX9_read_10 rfl (lv_at hl 0 rfl) ?_
  refine lv_iconst (v := 0) hx hb dX9_read_11 (by decide) ?_
  refine va_put (D := D) (ci := 11) (v := .int (0 : Int32)) (ty := .int) (C := RX9) (T := TX9) (N := 16) hx hb hts ju_X9 tyX9 tyX9_ok nmX9 hown hK hP hD hS 0 rfl rfl 15 (by decide) (hts _ jq_49_20) (fun _ h9 => h9) rfl (by decide +kernel) rfl rfl (Nat.le_of_ble_eq_true rfl) dX9_read_12 (fun H locs hP hD hS => ?_)
  obtain ⟨M29, e31, hV⟩ := jLet hV
  have hP : va_P D vwCl (wM a G M29) H := by rw [e31]; exact hP
  have hD : va_D A (wM a G M29) := by rw [e31]; exact hD
  refine lv_aload_n hx hb dX9_read_15 rfl (lv_at hl 0 rfl) ?_
  obtain ⟨r30, hr30, hV⟩ := jBind hV
  refine jVmV C dX9_read_16 (k_X9_command l D G a N M29  r30 hr30) jy_X9_command jq_49_21 jq_49_22 jq_49_23 ⟨rfl, rfl, Nat.le_of_ble_eq_true rfl, Nat.le_of_ble_eq_true rfl⟩ ⟨Nat.le_of_ble_eq_true rfl, Nat.le_of_ble_eq_true rfl⟩ hP hD hA hS (ci := 11) (iw := 0) rfl rfl rfl hl (rest := []) rfl (Nat.le_of_ble_eq_true rfl) (fun H locs hQ hz hkp hS => ?_)
  have hP : va_P D vwCl (wM a G r30) H := hQ
  have hD : va_D A (wM a G r30) := jD (w := (wM a G M29)) rfl hD
  exact B_X9_read_19 C hA N a r   N r30  _ _ _ hP hD hS (lv_sub hl [0] rfl) hV
theorem jy_X9_errorPosition : jY yX9_errorPosition cX9_errorPosition 1 (some .int) 0 := ⟨by decide +kernel, jq_51_3, jq_1_5⟩
def D_X9_errorPosition_14 (N : Nat)  (M : Nat → Nat → Int32) (s0 : Int32) : Option (Int32 × (Nat → Nat → Int32)) := (jlet (stF M 0 s0) (fun M1 => (if (M1 0 0) = 0 then (some ((M1 0 11), M1)) else (some ((0 : Int32), M1)))))
set_option maxHeartbeats 4000000 in
set_option maxRecDepth 100000 in
theorem B_X9_errorPosition_14 {p : Program} {l : Launch} {e : Env} {s : State} {m : MethodId} {args : Array Value} {below : List Frame} {meth : Method} {c : Code} {D : va_G} {G : Nat → ClassId} {A : Nat → Prop} (C : Cx p s m args meth c cX9_errorPosition 1 RX9 (some .int) D G) (hA : ∀ q : Nat, s.heap.size ≤ q → A q) (N : Nat) (a : Nat → Nat) (r : (Int32 × (Nat → Nat → Int32))) : (∀ (M : Nat → Nat → Int32) (s0 : Int32) (ls : Array Slot) (H : Heap) (locs : List Loc), va_P D vwCl (wM a G M) H → va_D A (wM a G M) → va_S A s.heap H locs → lv_has ls 1 [(0, .ref (a 0))] → D_X9_errorPosition_14 N   M s0 = some r → W p l e ({ frames := 0, cells := 0, slots := 0, locals := 0 } : Room) s m args below meth c H locs 0 0 (MQ below (mQ D (wM a G r.2) (some (.int r.1)) A) args s 0 0 A) (F0 m 14 ls [.int s0, .ref (a 0)])) := by
  have C := C
  obtain ⟨hx, hb, hr, hml, hts, hown, hlocks, hK0⟩ := id C
  have hK := hK0.1
  intro M s0 ls H locs hP hD hS hl hV
  rw [D_X9_errorPosition_14] at hV
  refine va_put (D := D) (ci := 11) (v := .int s0) (ty := .int) (C := RX9) (T := TX9) (N := 16) hx hb hts ju_X9 tyX9 tyX9_ok nmX9 hown hK hP hD hS 0 rfl rfl 0 (by decide) (hts _ jq_15_2) (fun _ h9 => h9) rfl (by decide +kernel) rfl rfl (Nat.le_of_ble_eq_true rfl) dX9_errorPosition_14 (fun H locs hP hD hS => ?_)
  obtain ⟨M1, e3, hV⟩ := jLet hV
  have hP : va_P D vwCl (wM a G M1) H := by rw [e3]; exact hP
  have hD : va_D A (wM a G M1) := by rw [e3]; exact hD
  refine lv_aload_n hx hb dX9_errorPosition_17 rfl (lv_at hl 0 rfl) ?_
  refine va_get (D := D) (ci := 11) (v := .int (M1 0 0)) (C := RX9) (T := TX9) (N := 16) hx hb hts ju_X9 hown hK hP 0 rfl rfl 0 (by decide) (hts _ jq_15_2) (fun _ h9 => h9) rfl dX9_errorPosition_18 ?_
  refine lv_if_ne (tgt := 31) hx hb dX9_errorPosition_21 (by decide) (fun c2 => ?_) (fun c2 => ?_)
  · have hV := jF1 hV c2
    refine lv_iconst (v := 0) hx hb dX9_errorPosition_31 (by decide) ?_
    cases hV
    exact mRet C rfl dX9_errorPosition_32 rfl rfl hP hS
  · have hV := jT1 hV c2
    refine lv_aload_n hx hb dX9_errorPosition_24 rfl (lv_at hl 0 rfl) ?_
    refine va_get (D := D) (ci := 11) (v := .int (M1 0 11)) (C := RX9) (T := TX9) (N := 16) hx hb hts ju_X9 hown hK hP 0 rfl rfl 11 (by decide) (hts _ jq_6_3) (fun _ h9 => h9) rfl dX9_errorPosition_25 ?_
    refine lv_goto (tgt := 32) hx hb dX9_errorPosition_28 (by decide) ?_
    cases hV
    exact mRet C rfl dX9_errorPosition_32 rfl rfl hP hS
def F_X9_errorPosition (N : Nat)  (M : Nat → Nat → Int32) : Option (Int32 × (Nat → Nat → Int32)) := (if (M 0 11) = (-1 : Int32) then (D_X9_errorPosition_14 N   M (1 : Int32)) else (D_X9_errorPosition_14 N   M (0 : Int32)))
set_option maxHeartbeats 4000000 in
set_option maxRecDepth 100000 in
theorem k_X9_errorPosition (l : Launch) (D : va_G) (G : Nat → ClassId) (a : Nat → Nat) (N : Nat) (M : Nat → Nat → Int32) (r : (Int32 × (Nat → Nat → Int32))) (hV : F_X9_errorPosition N  M  = some r) : mM l yX9_errorPosition (jws yX9_errorPosition cX9_errorPosition 1 (some .int)) ({ frames := 0, cells := 0, slots := 0, locals := 0 } : Room) [.ref (a 0)] D G (wM a G M) (wM a G r.2) (some (.int r.1)) := by
  refine mM_of (by decide +kernel) (Nat.le_of_ble_eq_true rfl) (fun p e s m args below meth c ls A C hP hD hA hl => ?_)
  have C : Cx p s m args meth c cX9_errorPosition 1 RX9 (some .int) D G := C
  have hS : va_S A s.heap s.heap [] := va_S.rf
  obtain ⟨hx, hb, hr, hml, hts, hown, hlocks, hK0⟩ := id C
  have hK := hK0.1
  have hl : lv_has ls 1 [(0, .ref (a 0))] := hl
  rw [F_X9_errorPosition] at hV
  refine lv_aload_n hx hb dX9_errorPosition_0 rfl (lv_at hl 0 rfl) ?_
  refine lv_aload_n hx hb dX9_errorPosition_1 rfl (lv_at hl 0 rfl) ?_
  refine va_get (D := D) (ci := 11) (v := .int (M 0 11)) (C := RX9) (T := TX9) (N := 16) hx hb hts ju_X9 hown hK hP 0 rfl rfl 11 (by decide) (hts _ jq_6_3) (fun _ h9 => h9) rfl dX9_errorPosition_2 ?_
  refine lv_iconst (v := -1) hx hb dX9_errorPosition_5 (by decide) ?_
  refine lv_icmp_ne (tgt := 13) hx hb dX9_errorPosition_6 (by decide) (fun c4 => ?_) (fun c4 => ?_)
  · have hV := jF1 hV c4
    refine lv_iconst (v := 0) hx hb dX9_errorPosition_13 (by decide) ?_
    exact B_X9_errorPosition_14 C hA N a r   M (0 : Int32) _ _ _ hP hD hS (lv_sub hl [0] rfl) hV
  · have hV := jT1 hV c4
    refine lv_iconst (v := 1) hx hb dX9_errorPosition_9 (by decide) ?_
    refine lv_goto (tgt := 14) hx hb dX9_errorPosition_10 (by decide) ?_
    exact B_X9_errorPosition_14 C hA N a r   M (1 : Int32) _ _ _ hP hD hS (lv_sub hl [0] rfl) hV
theorem jy_X9_undo : jY yX9_undo cX9_undo 1 (some .int) 0 := ⟨by decide +kernel, jq_51_18, jq_1_5⟩
def D_X9_undo_13 (N : Nat)  (M : Nat → Nat → Int32) (s0 : Int32) : Option (Int32 × (Nat → Nat → Int32)) := (jlet (stF M 0 s0) (fun M1 => (if (M1 0 0) = 0 then ((F_X9_copies N M1 (M1 0 2) (0 : Int32)).bind (fun r2 => (jlet (stF r2 2 ((r2 0 2) - (1 : Int32))) (fun M3 => (some ((M3 0 2), M3)))))) else (some ((0 : Int32), M1)))))
set_option maxHeartbeats 4000000 in
set_option maxRecDepth 100000 in
theorem B_X9_undo_13 {p : Program} {l : Launch} {e : Env} {s : State} {m : MethodId} {args : Array Value} {below : List Frame} {meth : Method} {c : Code} {D : va_G} {G : Nat → ClassId} {A : Nat → Prop} (C : Cx p s m args meth c cX9_undo 1 RX9 (some .int) D G) (hA : ∀ q : Nat, s.heap.size ≤ q → A q) (N : Nat) (a : Nat → Nat) (r : (Int32 × (Nat → Nat → Int32))) : (∀ (M : Nat → Nat → Int32) (s0 : Int32) (ls : Array Slot) (H : Heap) (locs : List Loc), va_P D vwCl (wM a G M) H → va_D A (wM a G M) → va_S A s.heap H locs → lv_has ls 1 [(0, .ref (a 0))] → D_X9_undo_13 N   M s0 = some r → W p l e ({ frames := 1, cells := 0, slots := 0, locals := 23 } : Room) s m args below meth c H locs 0 0 (MQ below (mQ D (wM a G r.2) (some (.int r.1)) A) args s 0 0 A) (F0 m 13 ls [.int s0, .ref (a 0)])) := by
  have C := C
  obtain ⟨hx, hb, hr, hml, hts, hown, hlocks, hK0⟩ := id C
  have hK := hK0.1
  intro M s0 ls H locs hP hD hS hl hV
  rw [D_X9_undo_13] at hV
  refine va_put (D := D) (ci := 11) (v := .int s0) (ty := .int) (C := RX9) (T := TX9) (N := 16) hx hb hts ju_X9 tyX9 tyX9_ok nmX9 hown hK hP hD hS 0 rfl rfl 0 (by decide) (hts _ jq_15_2) (fun _ h9 => h9) rfl (by decide +kernel) rfl rfl (Nat.le_of_ble_eq_true rfl) dX9_undo_13 (fun H locs hP hD hS => ?_)
  obtain ⟨M1, e6, hV⟩ := jLet hV
  have hP : va_P D vwCl (wM a G M1) H := by rw [e6]; exact hP
  have hD : va_D A (wM a G M1) := by rw [e6]; exact hD
  refine lv_aload_n hx hb dX9_undo_16 rfl (lv_at hl 0 rfl) ?_
  refine va_get (D := D) (ci := 11) (v := .int (M1 0 0)) (C := RX9) (T := TX9) (N := 16) hx hb hts ju_X9 hown hK hP 0 rfl rfl 0 (by decide) (hts _ jq_15_2) (fun _ h9 => h9) rfl dX9_undo_17 ?_
  refine lv_if_eq (tgt := 25) hx hb dX9_undo_20 (by decide) (fun c5 => ?_) (fun c5 => ?_)
  · have hV := jT1 hV c5
    refine lv_aload_n hx hb dX9_undo_25 rfl (lv_at hl 0 rfl) ?_
    refine lv_aload_n hx hb dX9_undo_26 rfl (lv_at hl 0 rfl) ?_
    refine va_get (D := D) (ci := 11) (v := .int (M1 0 2)) (C := RX9) (T := TX9) (N := 16) hx hb hts ju_X9 hown hK hP 0 rfl rfl 2 (by decide) (hts _ jq_15_7) (fun _ h9 => h9) rfl dX9_undo_27 ?_
    refine lv_iconst (v := 0) hx hb dX9_undo_30 (by decide) ?_
    obtain ⟨r2, hr2, hV⟩ := jBind hV
    refine jVmV C dX9_undo_31 (k_X9_copies l D G a N M1 (M1 0 2) (0 : Int32) r2 hr2) jy_X9_copies jq_12_13 jq_12_14 jq_12_15 ⟨rfl, rfl, Nat.le_of_ble_eq_true rfl, Nat.le_of_ble_eq_true rfl⟩ ⟨Nat.le_of_ble_eq_true rfl, Nat.le_of_ble_eq_true rfl⟩ hP hD hA hS (ci := 11) (iw := 0) rfl rfl rfl hl (rest := []) rfl (Nat.le_of_ble_eq_true rfl) (fun H locs hQ hz hkp hS => ?_)
    have hP : va_P D vwCl (wM a G r2) H := hQ
    have hD : va_D A (wM a G r2) := jD (w := (wM a G M1)) rfl hD
    refine lv_aload_n hx hb dX9_undo_34 rfl (lv_at hl 0 rfl) ?_
    refine lv_dup hx hb dX9_undo_35 rfl ?_
    refine va_get (D := D) (ci := 11) (v := .int (r2 0 2)) (C := RX9) (T := TX9) (N := 16) hx hb hts ju_X9 hown hK hP 0 rfl rfl 2 (by decide) (hts _ jq_15_7) (fun _ h9 => h9) rfl dX9_undo_36 ?_
    refine lv_iconst (v := 1) hx hb dX9_undo_39 (by decide) ?_
    refine lv_isub hx hb dX9_undo_40 ?_
    refine va_put (D := D) (ci := 11) (v := .int ((r2 0 2) - (1 : Int32))) (ty := .int) (C := RX9) (T := TX9) (N := 16) hx hb hts ju_X9 tyX9 tyX9_ok nmX9 hown hK hP hD hS 0 rfl rfl 2 (by decide) (hts _ jq_15_7) (fun _ h9 => h9) rfl (by decide +kernel) rfl rfl (Nat.le_of_ble_eq_true rfl) dX9_undo_41 (fun H locs hP hD hS => ?_)
    obtain ⟨M3, e4, hV⟩ := jLet hV
    have hP : va_P D vwCl (wM a G M3) H := by rw [e4]; exact hP
    have hD : va_D A (wM a G M3) := by rw [e4]; exact hD
    refine lv_aload_n hx hb dX9_undo_44 rfl (lv_at hl 0 rfl) ?_
    refine va_get (D := D) (ci := 11) (v := .int (M3 0 2)) (C := RX9) (T := TX9) (N := 16) hx hb hts ju_X9 hown hK hP 0 rfl rfl 2 (by decide) (hts _ jq_15_7) (fun _ h9 => h9) rfl dX9_undo_45 ?_
    cases hV
    exact mRet C rfl dX9_undo_48 rfl rfl hP hS
  · have hV := jF1 hV c5
    refine lv_iconst (v := 0) hx hb dX9_undo_23 (by decide) ?_
    cases hV
    exact mRet C rfl dX9_undo_24 rfl rfl hP hS
def F_X9_undo (N : Nat)  (M : Nat → Nat → Int32) : Option (Int32 × (Nat → Nat → Int32)) := (if (M 0 2) = 0 then (D_X9_undo_13 N   M (1 : Int32)) else (D_X9_undo_13 N   M (0 : Int32)))
set_option maxHeartbeats 4000000 in
set_option maxRecDepth 100000 in
theorem k_X9_undo (l : Launch) (D : va_G) (G : Nat → ClassId) (a : Nat → Nat) (N : Nat) (M : Nat → Nat → Int32) (r : (Int32 × (Nat → Nat → Int32))) (hV : F_X9_undo N  M  = some r) : mM l yX9_undo (jws yX9_undo cX9_undo 1 (some .int)) ({ frames := 1, cells := 0, slots := 0, locals := 23 } : Room) [.ref (a 0)] D G (wM a G M) (wM a G r.2) (some (.int r.1)) := by
  refine mM_of (by decide +kernel) (Nat.le_of_ble_eq_true rfl) (fun p e s m args below meth c ls A C hP hD hA hl => ?_)
  have C : Cx p s m args meth c cX9_undo 1 RX9 (some .int) D G := C
  have hS : va_S A s.heap s.heap [] := va_S.rf
  obtain ⟨hx, hb, hr, hml, hts, hown, hlocks, hK0⟩ := id C
  have hK := hK0.1
  have hl : lv_has ls 1 [(0, .ref (a 0))] := hl
  rw [F_X9_undo] at hV
  refine lv_aload_n hx hb dX9_undo_0 rfl (lv_at hl 0 rfl) ?_
  refine lv_aload_n hx hb dX9_undo_1 rfl (lv_at hl 0 rfl) ?_
  refine va_get (D := D) (ci := 11) (v := .int (M 0 2)) (C := RX9) (T := TX9) (N := 16) hx hb hts ju_X9 hown hK hP 0 rfl rfl 2 (by decide) (hts _ jq_15_7) (fun _ h9 => h9) rfl dX9_undo_2 ?_
  refine lv_if_ne (tgt := 12) hx hb dX9_undo_5 (by decide) (fun c7 => ?_) (fun c7 => ?_)
  · have hV := jF1 hV c7
    refine lv_iconst (v := 0) hx hb dX9_undo_12 (by decide) ?_
    exact B_X9_undo_13 C hA N a r   M (0 : Int32) _ _ _ hP hD hS (lv_sub hl [0] rfl) hV
  · have hV := jT1 hV c7
    refine lv_iconst (v := 1) hx hb dX9_undo_8 (by decide) ?_
    refine lv_goto (tgt := 13) hx hb dX9_undo_9 (by decide) ?_
    exact B_X9_undo_13 C hA N a r   M (1 : Int32) _ _ _ hP hD hS (lv_sub hl [0] rfl) hV
theorem jy_X9_save : jY yX9_save cX9_save 1 (some .int) 0 := ⟨by decide +kernel, jq_52_4, jq_1_5⟩
def F_X9_save (N : Nat)  (M : Nat → Nat → Int32) : Option (Int32 × (Nat → Nat → Int32)) := (jlet (stF M 0 (0 : Int32)) (fun M1 => (jlet (stF M1 3 (1 : Int32)) (fun M2 => ((F_X9_copies N M2 (0 : Int32) (7 : Int32)).bind (fun r3 => (if inb (38 : Int32) 2169 = true then (some (((r3 1) (38 : Int32).toNatClampNeg), r3)) else none)))))))
set_option maxHeartbeats 4000000 in
set_option maxRecDepth 100000 in
theorem k_X9_save (l : Launch) (D : va_G) (G : Nat → ClassId) (a : Nat → Nat) (N : Nat) (M : Nat → Nat → Int32) (r : (Int32 × (Nat → Nat → Int32))) (hV : F_X9_save N  M  = some r) : mM l yX9_save (jws yX9_save cX9_save 1 (some .int)) ({ frames := 1, cells := 0, slots := 0, locals := 23 } : Room) [.ref (a 0)] D G (wM a G M) (wM a G r.2) (some (.int r.1)) := by
  refine mM_of (by decide +kernel) (Nat.le_of_ble_eq_true rfl) (fun p e s m args below meth c ls A C hP hD hA hl => ?_)
  have C : Cx p s m args meth c cX9_save 1 RX9 (some .int) D G := C
  have hS : va_S A s.heap s.heap [] := va_S.rf
  obtain ⟨hx, hb, hr, hml, hts, hown, hlocks, hK0⟩ := id C
  have hK := hK0.1
  have hl : lv_has ls 1 [(0, .ref (a 0))] := hl
  rw [F_X9_save] at hV
  refine lv_aload_n hx hb dX9_save_0 rfl (lv_at hl 0 rfl) ?_
  refine lv_iconst (v := 0) hx hb dX9_save_1 (by decide) ?_
  refine va_put (D := D) (ci := 11) (v := .int (0 : Int32)) (ty := .int) (C := RX9) (T := TX9) (N := 16) hx hb hts ju_X9 tyX9 tyX9_ok nmX9 hown hK hP hD hS 0 rfl rfl 0 (by decide) (hts _ jq_15_2) (fun _ h9 => h9) rfl (by decide +kernel) rfl rfl (Nat.le_of_ble_eq_true rfl) dX9_save_2 (fun H locs hP hD hS => ?_)
  obtain ⟨M1, e6, hV⟩ := jLet hV
  have hP : va_P D vwCl (wM a G M1) H := by rw [e6]; exact hP
  have hD : va_D A (wM a G M1) := by rw [e6]; exact hD
  refine lv_aload_n hx hb dX9_save_5 rfl (lv_at hl 0 rfl) ?_
  refine lv_iconst (v := 1) hx hb dX9_save_6 (by decide) ?_
  refine va_put (D := D) (ci := 11) (v := .int (1 : Int32)) (ty := .boolean) (C := RX9) (T := TX9) (N := 16) hx hb hts ju_X9 tyX9 tyX9_ok nmX9 hown hK hP hD hS 0 rfl rfl 3 (by decide) (hts _ jq_52_5) (fun _ h9 => h9) rfl (by decide +kernel) rfl rfl (Nat.le_of_ble_eq_true rfl) dX9_save_7 (fun H locs hP hD hS => ?_)
  obtain ⟨M2, e5, hV⟩ := jLet hV
  have hP : va_P D vwCl (wM a G M2) H := by rw [e5]; exact hP
  have hD : va_D A (wM a G M2) := by rw [e5]; exact hD
  refine lv_aload_n hx hb dX9_save_10 rfl (lv_at hl 0 rfl) ?_
  refine lv_iconst (v := 0) hx hb dX9_save_11 (by decide) ?_
  refine lv_bipush (v := 7) hx hb dX9_save_12 (by decide) ?_
  obtain ⟨r3, hr3, hV⟩ := jBind hV
  refine jVmV C dX9_save_14 (k_X9_copies l D G a N M2 (0 : Int32) (7 : Int32) r3 hr3) jy_X9_copies jq_12_13 jq_12_14 jq_12_15 ⟨rfl, rfl, Nat.le_of_ble_eq_true rfl, Nat.le_of_ble_eq_true rfl⟩ ⟨Nat.le_of_ble_eq_true rfl, Nat.le_of_ble_eq_true rfl⟩ hP hD hA hS (ci := 11) (iw := 0) rfl rfl rfl hl (rest := []) rfl (Nat.le_of_ble_eq_true rfl) (fun H locs hQ hz hkp hS => ?_)
  have hP : va_P D vwCl (wM a G r3) H := hQ
  have hD : va_D A (wM a G r3) := jD (w := (wM a G M2)) rfl hD
  refine lv_aload_n hx hb dX9_save_17 rfl (lv_at hl 0 rfl) ?_
  refine va_get (D := D) (ci := 11) (v := .ref (a 1)) (C := RX9) (T := TX9) (N := 16) hx hb hts ju_X9 hown hK hP 0 rfl rfl 1 (by decide) (hts _ jq_6_1) (fun _ h9 => h9) rfl dX9_save_18 ?_
  refine lv_bipush (v := 38) hx hb dX9_save_21 (by decide) ?_
  obtain ⟨g4, hV⟩ := jIf hV
  refine va_iald (D := D) (n := 2169) (f := (r3 1)) hx hb hK hP 1 0 rfl rfl (inb_of g4) dX9_save_23 ?_
  cases hV
  exact mRet C rfl dX9_save_24 rfl rfl hP hS
theorem jy_X9_restore : jY yX9_restore cX9_restore 1 (some .int) 0 := ⟨by decide +kernel, jq_52_20, jq_1_5⟩
def D_X9_restore_13 (N : Nat)  (M : Nat → Nat → Int32) (s0 : Int32) : Option (Int32 × (Nat → Nat → Int32)) := (jlet (stF M 0 s0) (fun M1 => (if (M1 0 0) = 0 then ((F_X9_copies N M1 (7 : Int32) (0 : Int32)).bind (fun r2 => (jlet (stF r2 2 (0 : Int32)) (fun M3 => (if inb (38 : Int32) 2169 = true then (some (((M3 1) (38 : Int32).toNatClampNeg), M3)) else none))))) else (some ((0 : Int32), M1)))))
set_option maxHeartbeats 4000000 in
set_option maxRecDepth 100000 in
theorem B_X9_restore_13 {p : Program} {l : Launch} {e : Env} {s : State} {m : MethodId} {args : Array Value} {below : List Frame} {meth : Method} {c : Code} {D : va_G} {G : Nat → ClassId} {A : Nat → Prop} (C : Cx p s m args meth c cX9_restore 1 RX9 (some .int) D G) (hA : ∀ q : Nat, s.heap.size ≤ q → A q) (N : Nat) (a : Nat → Nat) (r : (Int32 × (Nat → Nat → Int32))) : (∀ (M : Nat → Nat → Int32) (s0 : Int32) (ls : Array Slot) (H : Heap) (locs : List Loc), va_P D vwCl (wM a G M) H → va_D A (wM a G M) → va_S A s.heap H locs → lv_has ls 1 [(0, .ref (a 0))] → D_X9_restore_13 N   M s0 = some r → W p l e ({ frames := 1, cells := 0, slots := 0, locals := 23 } : Room) s m args below meth c H locs 0 0 (MQ below (mQ D (wM a G r.2) (some (.int r.1)) A) args s 0 0 A) (F0 m 13 ls [.int s0, .ref (a 0)])) := by
  have C := C
  obtain ⟨hx, hb, hr, hml, hts, hown, hlocks, hK0⟩ := id C
  have hK := hK0.1
  intro M s0 ls H locs hP hD hS hl hV
  rw [D_X9_restore_13] at hV
  refine va_put (D := D) (ci := 11) (v := .int s0) (ty := .int) (C := RX9) (T := TX9) (N := 16) hx hb hts ju_X9 tyX9 tyX9_ok nmX9 hown hK hP hD hS 0 rfl rfl 0 (by decide) (hts _ jq_15_2) (fun _ h9 => h9) rfl (by decide +kernel) rfl rfl (Nat.le_of_ble_eq_true rfl) dX9_restore_13 (fun H locs hP hD hS => ?_)
  obtain ⟨M1, e7, hV⟩ := jLet hV
  have hP : va_P D vwCl (wM a G M1) H := by rw [e7]; exact hP
  have hD : va_D A (wM a G M1) := by rw [e7]; exact hD
  refine lv_aload_n hx hb dX9_restore_16 rfl (lv_at hl 0 rfl) ?_
  refine va_get (D := D) (ci := 11) (v := .int (M1 0 0)) (C := RX9) (T := TX9) (N := 16) hx hb hts ju_X9 hown hK hP 0 rfl rfl 0 (by decide) (hts _ jq_15_2) (fun _ h9 => h9) rfl dX9_restore_17 ?_
  refine lv_if_eq (tgt := 25) hx hb dX9_restore_20 (by decide) (fun c6 => ?_) (fun c6 => ?_)
  · have hV := jT1 hV c6
    refine lv_aload_n hx hb dX9_restore_25 rfl (lv_at hl 0 rfl) ?_
    refine lv_bipush (v := 7) hx hb dX9_restore_26 (by decide) ?_
    refine lv_iconst (v := 0) hx hb dX9_restore_28 (by decide) ?_
    obtain ⟨r2, hr2, hV⟩ := jBind hV
    refine jVmV C dX9_restore_29 (k_X9_copies l D G a N M1 (7 : Int32) (0 : Int32) r2 hr2) jy_X9_copies jq_12_13 jq_12_14 jq_12_15 ⟨rfl, rfl, Nat.le_of_ble_eq_true rfl, Nat.le_of_ble_eq_true rfl⟩ ⟨Nat.le_of_ble_eq_true rfl, Nat.le_of_ble_eq_true rfl⟩ hP hD hA hS (ci := 11) (iw := 0) rfl rfl rfl hl (rest := []) rfl (Nat.le_of_ble_eq_true rfl) (fun H locs hQ hz hkp hS => ?_)
    have hP : va_P D vwCl (wM a G r2) H := hQ
    have hD : va_D A (wM a G r2) := jD (w := (wM a G M1)) rfl hD
    refine lv_aload_n hx hb dX9_restore_32 rfl (lv_at hl 0 rfl) ?_
    refine lv_iconst (v := 0) hx hb dX9_restore_33 (by decide) ?_
    refine va_put (D := D) (ci := 11) (v := .int (0 : Int32)) (ty := .int) (C := RX9) (T := TX9) (N := 16) hx hb hts ju_X9 tyX9 tyX9_ok nmX9 hown hK hP hD hS 0 rfl rfl 2 (by decide) (hts _ jq_15_7) (fun _ h9 => h9) rfl (by decide +kernel) rfl rfl (Nat.le_of_ble_eq_true rfl) dX9_restore_34 (fun H locs hP hD hS => ?_)
    obtain ⟨M3, e5, hV⟩ := jLet hV
    have hP : va_P D vwCl (wM a G M3) H := by rw [e5]; exact hP
    have hD : va_D A (wM a G M3) := by rw [e5]; exact hD
    refine lv_aload_n hx hb dX9_restore_37 rfl (lv_at hl 0 rfl) ?_
    refine va_get (D := D) (ci := 11) (v := .ref (a 1)) (C := RX9) (T := TX9) (N := 16) hx hb hts ju_X9 hown hK hP 0 rfl rfl 1 (by decide) (hts _ jq_6_1) (fun _ h9 => h9) rfl dX9_restore_38 ?_
    refine lv_bipush (v := 38) hx hb dX9_restore_41 (by decide) ?_
    obtain ⟨g4, hV⟩ := jIf hV
    refine va_iald (D := D) (n := 2169) (f := (M3 1)) hx hb hK hP 1 0 rfl rfl (inb_of g4) dX9_restore_43 ?_
    cases hV
    exact mRet C rfl dX9_restore_44 rfl rfl hP hS
  · have hV := jF1 hV c6
    refine lv_iconst (v := 0) hx hb dX9_restore_23 (by decide) ?_
    cases hV
    exact mRet C rfl dX9_restore_24 rfl rfl hP hS
def F_X9_restore (N : Nat)  (M : Nat → Nat → Int32) : Option (Int32 × (Nat → Nat → Int32)) := (if (M 0 3) = 0 then (D_X9_restore_13 N   M (1 : Int32)) else (D_X9_restore_13 N   M (0 : Int32)))
set_option maxHeartbeats 4000000 in
set_option maxRecDepth 100000 in
theorem k_X9_restore (l : Launch) (D : va_G) (G : Nat → ClassId) (a : Nat → Nat) (N : Nat) (M : Nat → Nat → Int32) (r : (Int32 × (Nat → Nat → Int32))) (hV : F_X9_restore N  M  = some r) : mM l yX9_restore (jws yX9_restore cX9_restore 1 (some .int)) ({ frames := 1, cells := 0, slots := 0, locals := 23 } : Room) [.ref (a 0)] D G (wM a G M) (wM a G r.2) (some (.int r.1)) := by
  refine mM_of (by decide +kernel) (Nat.le_of_ble_eq_true rfl) (fun p e s m args below meth c ls A C hP hD hA hl => ?_)
  have C : Cx p s m args meth c cX9_restore 1 RX9 (some .int) D G := C
  have hS : va_S A s.heap s.heap [] := va_S.rf
  obtain ⟨hx, hb, hr, hml, hts, hown, hlocks, hK0⟩ := id C
  have hK := hK0.1
  have hl : lv_has ls 1 [(0, .ref (a 0))] := hl
  rw [F_X9_restore] at hV
  refine lv_aload_n hx hb dX9_restore_0 rfl (lv_at hl 0 rfl) ?_
  refine lv_aload_n hx hb dX9_restore_1 rfl (lv_at hl 0 rfl) ?_
  refine va_get (D := D) (ci := 11) (v := .int (M 0 3)) (C := RX9) (T := TX9) (N := 16) hx hb hts ju_X9 hown hK hP 0 rfl rfl 3 (by decide) (hts _ jq_52_5) (fun _ h9 => h9) rfl dX9_restore_2 ?_
  refine lv_if_eq (tgt := 12) hx hb dX9_restore_5 (by decide) (fun c8 => ?_) (fun c8 => ?_)
  · have hV := jT1 hV c8
    refine lv_iconst (v := 1) hx hb dX9_restore_12 (by decide) ?_
    exact B_X9_restore_13 C hA N a r   M (1 : Int32) _ _ _ hP hD hS (lv_sub hl [0] rfl) hV
  · have hV := jF1 hV c8
    refine lv_iconst (v := 0) hx hb dX9_restore_8 (by decide) ?_
    refine lv_goto (tgt := 13) hx hb dX9_restore_9 (by decide) ?_
    exact B_X9_restore_13 C hA N a r   M (0 : Int32) _ _ _ hP hD hS (lv_sub hl [0] rfl) hV
