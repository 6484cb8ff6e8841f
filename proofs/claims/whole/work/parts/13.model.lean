theorem jy_X9_request : jY yX9_request cX9_request 4 (some .int) 3 := ⟨by decide +kernel, jq_34_0, jq_1_5⟩
def F_X9_request (N : Nat)  (M : Nat → Nat → Int32) (v1 v2 v3 : Int32) : Option (Int32 × (Nat → Nat → Int32)) := ((F_X9_begins N M ).bind (fun r1 => ((F_X9_requests N r1 v1 v2 v3).bind (fun r2 => ((F_X9_ends N r2.2 r2.1 (2 : Int32) (0 : Int32) (3 : Int32)).bind (fun r3 => (some (r3.1, r3.2))))))))
set_option maxHeartbeats 4000000 in
set_option maxRecDepth 100000 in
theorem k_X9_request (l : Launch) (D : va_G) (G : Nat → ClassId) (a : Nat → Nat) (N : Nat) (M : Nat → Nat → Int32) (v1 v2 v3 : Int32) (r : (Int32 × (Nat → Nat → Int32))) (hV : F_X9_request N  M v1 v2 v3 = some r) : mM l yX9_request (jws yX9_request cX9_request 4 (some .int)) ({ frames := 3, cells := 0, slots := 0, locals := 68 } : Room) [.ref (a 0), .int v1, .int v2, .int v3] D G (wM a G M) (wM a G r.2) (some (.int r.1)) := by
  refine mM_of (by decide +kernel) (Nat.le_of_ble_eq_true rfl) (fun p e s m args below meth c ls A C hP hD hA hl => ?_)
  have C : Cx p s m args meth c cX9_request 4 RX9 (some .int) D G := C
  have hS : va_S A s.heap s.heap [] := va_S.rf
  obtain ⟨hx, hb, hr, hml, hts, hown, hlocks, hK0⟩ := id C
  have hK := hK0.1
  have hl : lv_has ls 4 [(0, .ref (a 0)), (1, .int v1), (2, .int v2), (3, .int v3)] := hl
  rw [F_X9_request] at hV
  refine lv_aload_n hx hb dX9_request_0 rfl (lv_at hl 0 rfl) ?_
  obtain ⟨r1, hr1, hV⟩ := jBind hV
  refine jVmV C dX9_request_1 (k_X9_begins l D G a N M  r1 hr1) jy_X9_begins jq_12_9 jq_12_10 jq_12_11 ⟨rfl, rfl, Nat.le_of_ble_eq_true rfl, Nat.le_of_ble_eq_true rfl⟩ ⟨Nat.le_of_ble_eq_true rfl, Nat.le_of_ble_eq_true rfl⟩ hP hD hA hS (ci := 11) (iw := 0) rfl rfl rfl hl (rest := []) rfl (Nat.le_of_ble_eq_true rfl) (fun H locs hQ hz hkp hS => ?_)
  have hP : va_P D vwCl (wM a G r1) H := hQ
  have hD : va_D A (wM a G r1) := jD (w := (wM a G M)) rfl hD
  refine lv_aload_n hx hb dX9_request_4 rfl (lv_at hl 0 rfl) ?_
  refine lv_aload_n hx hb dX9_request_5 rfl (lv_at hl 0 rfl) ?_
  refine lv_iload_n hx hb dX9_request_6 rfl (lv_at hl 1 rfl) ?_
  refine lv_iload_n hx hb dX9_request_7 rfl (lv_at hl 2 rfl) ?_
  refine lv_iload_n hx hb dX9_request_8 rfl (lv_at hl 3 rfl) ?_
  obtain ⟨r2, hr2, hV⟩ := jBind hV
  refine jVmI C dX9_request_9 (k_X9_requests l D G a N r1 v1 v2 v3 r2 hr2) jy_X9_requests jq_34_1 jq_34_2 jq_34_3 ⟨rfl, rfl, Nat.le_of_ble_eq_true rfl, Nat.le_of_ble_eq_true rfl⟩ ⟨Nat.le_of_ble_eq_true rfl, Nat.le_of_ble_eq_true rfl⟩ hP hD hA hS (ci := 11) (iw := 0) rfl rfl rfl hl (rest := [.ref (a 0)]) rfl (Nat.le_of_ble_eq_true rfl) (fun H locs hQ hz hkp hS => ?_)
  have hP : va_P D vwCl (wM a G r2.2) H := hQ
  have hD : va_D A (wM a G r2.2) := jD (w := (wM a G r1)) rfl hD
  refine lv_iconst (v := 2) hx hb dX9_request_12 (by decide) ?_
  refine lv_iconst (v := 0) hx hb dX9_request_13 (by decide) ?_
  refine lv_iconst (v := 3) hx hb dX9_request_14 (by decide) ?_
  obtain ⟨r3, hr3, hV⟩ := jBind hV
  refine jVmI C dX9_request_15 (k_X9_ends l D G a N r2.2 r2.1 (2 : Int32) (0 : Int32) (3 : Int32) r3 hr3) jy_X9_ends jq_14_22 jq_14_23 jq_15_0 ⟨rfl, rfl, Nat.le_of_ble_eq_true rfl, Nat.le_of_ble_eq_true rfl⟩ ⟨Nat.le_of_ble_eq_true rfl, Nat.le_of_ble_eq_true rfl⟩ hP hD hA hS (ci := 11) (iw := 0) rfl rfl rfl hl (rest := []) rfl (Nat.le_of_ble_eq_true rfl) (fun H locs hQ hz hkp hS => ?_)
  have hP : va_P D vwCl (wM a G r3.2) H := hQ
  have hD : va_D A (wM a G r3.2) := jD (w := (wM a G r2.2)) rfl hD
  cases hV
  exact mRet C rfl dX9_request_18 rfl rfl hP hS
theorem jy_X9_waiting : jY yX9_waiting cX9_waiting 5 (some .int) 3 := ⟨by decide +kernel, jq_34_16, jq_1_5⟩
def D_X9_waiting_46 (N : Nat)  (M : Nat → Nat → Int32) (v3 : Int32) (v4 : Int32) (s0 : Int32) : Option (Int32 × (Nat → Nat → Int32)) := (jlet (stF M 0 s0) (fun M1 => (if (M1 0 0) = 0 then (if v3 = 0 then ((F_X9_r N M1 v4 (1 : Int32)).bind (fun r2 => (some (r2, M1)))) else ((F_X9_r N M1 v4 (2 : Int32)).bind (fun r3 => (some (r3, M1))))) else (some ((0 : Int32), M1)))))
set_option maxHeartbeats 4000000 in
set_option maxRecDepth 100000 in
theorem B_X9_waiting_46 {p : Program} {l : Launch} {e : Env} {s : State} {m : MethodId} {args : Array Value} {below : List Frame} {meth : Method} {c : Code} {D : va_G} {G : Nat → ClassId} {A : Nat → Prop} (C : Cx p s m args meth c cX9_waiting 5 RX9 (some .int) D G) (hA : ∀ q : Nat, s.heap.size ≤ q → A q) (N : Nat) (a : Nat → Nat) (r : (Int32 × (Nat → Nat → Int32))) : (∀ (M : Nat → Nat → Int32) (v3 : Int32) (v4 : Int32) (s0 : Int32) (ls : Array Slot) (H : Heap) (locs : List Loc), va_P D vwCl (wM a G M) H → va_D A (wM a G M) → va_S A s.heap H locs → lv_has ls 5 [(0, .ref (a 0)), (3, .int v3), (4, .int v4)] → D_X9_waiting_46 N   M v3 v4 s0 = some r → W p l e ({ frames := 2, cells := 0, slots := 0, locals := 47 } : Room) s m args below meth c H locs 0 0 (MQ below (mQ D (wM a G r.2) (some (.int r.1)) A) args s 0 0 A) (F0 m 46 ls [.int s0, .ref (a 0)])) := by
  have C := C
  obtain ⟨hx, hb, hr, hml, hts, hown, hlocks, hK0⟩ := id C
  have hK := hK0.1
  intro M v3 v4 s0 ls H locs hP hD hS hl hV
  rw [D_X9_waiting_46] at hV
  refine va_put (D := D) (ci := 11) (v := .int s0) (ty := .int) (C := RX9) (T := TX9) (N := 16) hx hb hts ju_X9 tyX9 tyX9_ok nmX9 hown hK hP hD hS 0 rfl rfl 0 (by decide) (hts _ jq_15_2) (fun _ h9 => h9) rfl (by decide +kernel) rfl rfl (Nat.le_of_ble_eq_true rfl) dX9_waiting_46 (fun H locs hP hD hS => ?_)
  obtain ⟨M1, e6, hV⟩ := jLet hV
  have hP : va_P D vwCl (wM a G M1) H := by rw [e6]; exact hP
  have hD : va_D A (wM a G M1) := by rw [e6]; exact hD
  refine lv_aload_n hx hb dX9_waiting_49 rfl (lv_at hl 0 rfl) ?_
  refine va_get (D := D) (ci := 11) (v := .int (M1 0 0)) (C := RX9) (T := TX9) (N := 16) hx hb hts ju_X9 hown hK hP 0 rfl rfl 0 (by decide) (hts _ jq_15_2) (fun _ h9 => h9) rfl dX9_waiting_50 ?_
  refine lv_if_eq (tgt := 60) hx hb dX9_waiting_53 (by decide) (fun c5 => ?_) (fun c5 => ?_)
  · have hV := jT1 hV c5
    refine lv_aload_n hx hb dX9_waiting_60 rfl (lv_at hl 0 rfl) ?_
    refine lv_iload hx hb dX9_waiting_61 (lv_at hl 2 rfl) ?_
    refine lv_iload_n hx hb dX9_waiting_63 rfl (lv_at hl 1 rfl) ?_
    refine lv_if_eq (tgt := 71) hx hb dX9_waiting_64 (by decide) (fun c4 => ?_) (fun c4 => ?_)
    · have hV := jT1 hV c4
      refine lv_iconst (v := 1) hx hb dX9_waiting_71 (by decide) ?_
      obtain ⟨r2, hr2, hV⟩ := jBind hV
      refine jVpI C dX9_waiting_72 (k_X9_r l D G a N M1 v4 (1 : Int32) r2 hr2) jy_X9_r jq_14_10 jq_14_11 jq_14_12 ⟨rfl, rfl, Nat.le_of_ble_eq_true rfl, Nat.le_of_ble_eq_true rfl⟩ ⟨Nat.le_of_ble_eq_true rfl, Nat.le_of_ble_eq_true rfl⟩ hP  (ci := 11) (iw := 0) rfl rfl rfl hl (rest := []) rfl (Nat.le_of_ble_eq_true rfl) ?_
      cases hV
      exact mRet C rfl dX9_waiting_75 rfl rfl hP hS
    · have hV := jF1 hV c4
      refine lv_iconst (v := 2) hx hb dX9_waiting_67 (by decide) ?_
      refine lv_goto (tgt := 72) hx hb dX9_waiting_68 (by decide) ?_
      obtain ⟨r3, hr3, hV⟩ := jBind hV
      refine jVpI C dX9_waiting_72 (k_X9_r l D G a N M1 v4 (2 : Int32) r3 hr3) jy_X9_r jq_14_10 jq_14_11 jq_14_12 ⟨rfl, rfl, Nat.le_of_ble_eq_true rfl, Nat.le_of_ble_eq_true rfl⟩ ⟨Nat.le_of_ble_eq_true rfl, Nat.le_of_ble_eq_true rfl⟩ hP  (ci := 11) (iw := 0) rfl rfl rfl hl (rest := []) rfl (Nat.le_of_ble_eq_true rfl) ?_
      cases hV
      exact mRet C rfl dX9_waiting_75 rfl rfl hP hS
  · have hV := jF1 hV c5
    refine lv_iconst (v := 0) hx hb dX9_waiting_56 (by decide) ?_
    refine lv_goto (tgt := 75) hx hb dX9_waiting_57 (by decide) ?_
    cases hV
    exact mRet C rfl dX9_waiting_75 rfl rfl hP hS
def D_X9_waiting_14 (N : Nat)  (M : Nat → Nat → Int32) (v1 : Int32) (v2 : Int32) (v3 : Int32) (s0 : Int32) : Option (Int32 × (Nat → Nat → Int32)) := (jlet (stF M 0 s0) (fun M7 => (if (M7 0 0) = 0 then ((F_X9_requestAt N M7 v1 v2).bind (fun r8 => (if r8 = (-1 : Int32) then (D_X9_waiting_46 N   M7 v3 r8 (2 : Int32)) else (D_X9_waiting_46 N   M7 v3 r8 (0 : Int32))))) else (some ((0 : Int32), M7)))))
set_option maxHeartbeats 4000000 in
set_option maxRecDepth 100000 in
theorem B_X9_waiting_14 {p : Program} {l : Launch} {e : Env} {s : State} {m : MethodId} {args : Array Value} {below : List Frame} {meth : Method} {c : Code} {D : va_G} {G : Nat → ClassId} {A : Nat → Prop} (C : Cx p s m args meth c cX9_waiting 5 RX9 (some .int) D G) (hA : ∀ q : Nat, s.heap.size ≤ q → A q) (N : Nat) (a : Nat → Nat) (r : (Int32 × (Nat → Nat → Int32))) : (∀ (M : Nat → Nat → Int32) (v1 : Int32) (v2 : Int32) (v3 : Int32) (s0 : Int32) (ls : Array Slot) (H : Heap) (locs : List Loc), va_P D vwCl (wM a G M) H → va_D A (wM a G M) → va_S A s.heap H locs → lv_has ls 5 [(0, .ref (a 0)), (1, .int v1), (2, .int v2), (3, .int v3)] → D_X9_waiting_14 N   M v1 v2 v3 s0 = some r → W p l e ({ frames := 2, cells := 0, slots := 0, locals := 47 } : Room) s m args below meth c H locs 0 0 (MQ below (mQ D (wM a G r.2) (some (.int r.1)) A) args s 0 0 A) (F0 m 14 ls [.int s0, .ref (a 0)])) := by
  have C := C
  obtain ⟨hx, hb, hr, hml, hts, hown, hlocks, hK0⟩ := id C
  have hK := hK0.1
  intro M v1 v2 v3 s0 ls H locs hP hD hS hl hV
  rw [D_X9_waiting_14] at hV
  refine va_put (D := D) (ci := 11) (v := .int s0) (ty := .int) (C := RX9) (T := TX9) (N := 16) hx hb hts ju_X9 tyX9 tyX9_ok nmX9 hown hK hP hD hS 0 rfl rfl 0 (by decide) (hts _ jq_15_2) (fun _ h9 => h9) rfl (by decide +kernel) rfl rfl (Nat.le_of_ble_eq_true rfl) dX9_waiting_14 (fun H locs hP hD hS => ?_)
  obtain ⟨M7, e11, hV⟩ := jLet hV
  have hP : va_P D vwCl (wM a G M7) H := by rw [e11]; exact hP
  have hD : va_D A (wM a G M7) := by rw [e11]; exact hD
  refine lv_aload_n hx hb dX9_waiting_17 rfl (lv_at hl 0 rfl) ?_
  refine va_get (D := D) (ci := 11) (v := .int (M7 0 0)) (C := RX9) (T := TX9) (N := 16) hx hb hts ju_X9 hown hK hP 0 rfl rfl 0 (by decide) (hts _ jq_15_2) (fun _ h9 => h9) rfl dX9_waiting_18 ?_
  refine lv_if_eq (tgt := 26) hx hb dX9_waiting_21 (by decide) (fun c10 => ?_) (fun c10 => ?_)
  · have hV := jT1 hV c10
    refine lv_aload_n hx hb dX9_waiting_26 rfl (lv_at hl 0 rfl) ?_
    refine lv_iload_n hx hb dX9_waiting_27 rfl (lv_at hl 1 rfl) ?_
    refine lv_iload_n hx hb dX9_waiting_28 rfl (lv_at hl 2 rfl) ?_
    obtain ⟨r8, hr8, hV⟩ := jBind hV
    refine jVpI C dX9_waiting_29 (k_X9_requestAt l D G a N M7 v1 v2 r8 hr8) jy_X9_requestAt jq_14_6 jq_14_7 jq_14_8 ⟨rfl, rfl, Nat.le_of_ble_eq_true rfl, Nat.le_of_ble_eq_true rfl⟩ ⟨Nat.le_of_ble_eq_true rfl, Nat.le_of_ble_eq_true rfl⟩ hP  (ci := 11) (iw := 0) rfl rfl rfl hl (rest := []) rfl (Nat.le_of_ble_eq_true rfl) ?_
    refine lv_istore (lv' := [(4, .int r8), (0, .ref (a 0)), (1, .int v1), (2, .int v2), (3, .int v3)]) hx hb dX9_waiting_32 hl (by decide) rfl (fun ls hl => ?_)
    refine lv_aload_n hx hb dX9_waiting_34 rfl (lv_at hl 1 rfl) ?_
    refine lv_iload hx hb dX9_waiting_35 (lv_at hl 0 rfl) ?_
    refine lv_iconst (v := -1) hx hb dX9_waiting_37 (by decide) ?_
    refine lv_icmp_ne (tgt := 45) hx hb dX9_waiting_38 (by decide) (fun c9 => ?_) (fun c9 => ?_)
    · have hV := jF1 hV c9
      refine lv_iconst (v := 0) hx hb dX9_waiting_45 (by decide) ?_
      exact B_X9_waiting_46 C hA N a r   M7 v3 r8 (0 : Int32) _ _ _ hP hD hS (lv_sub hl [1, 4, 0] rfl) hV
    · have hV := jT1 hV c9
      refine lv_iconst (v := 2) hx hb dX9_waiting_41 (by decide) ?_
      refine lv_goto (tgt := 46) hx hb dX9_waiting_42 (by decide) ?_
      exact B_X9_waiting_46 C hA N a r   M7 v3 r8 (2 : Int32) _ _ _ hP hD hS (lv_sub hl [1, 4, 0] rfl) hV
  · have hV := jF1 hV c10
    refine lv_iconst (v := 0) hx hb dX9_waiting_24 (by decide) ?_
    cases hV
    exact mRet C rfl dX9_waiting_25 rfl rfl hP hS
def F_X9_waiting (N : Nat)  (M : Nat → Nat → Int32) (v1 v2 v3 : Int32) : Option (Int32 × (Nat → Nat → Int32)) := ((F_X9_isPerformance N M v1).bind (fun r12 => (if r12 = 0 then (D_X9_waiting_14 N   M v1 v2 v3 (1 : Int32)) else (D_X9_waiting_14 N   M v1 v2 v3 (0 : Int32)))))
set_option maxHeartbeats 4000000 in
set_option maxRecDepth 100000 in
theorem k_X9_waiting (l : Launch) (D : va_G) (G : Nat → ClassId) (a : Nat → Nat) (N : Nat) (M : Nat → Nat → Int32) (v1 v2 v3 : Int32) (r : (Int32 × (Nat → Nat → Int32))) (hV : F_X9_waiting N  M v1 v2 v3 = some r) : mM l yX9_waiting (jws yX9_waiting cX9_waiting 5 (some .int)) ({ frames := 2, cells := 0, slots := 0, locals := 47 } : Room) [.ref (a 0), .int v1, .int v2, .int v3] D G (wM a G M) (wM a G r.2) (some (.int r.1)) := by
  refine mM_of (by decide +kernel) (Nat.le_of_ble_eq_true rfl) (fun p e s m args below meth c ls A C hP hD hA hl => ?_)
  have C : Cx p s m args meth c cX9_waiting 5 RX9 (some .int) D G := C
  have hS : va_S A s.heap s.heap [] := va_S.rf
  obtain ⟨hx, hb, hr, hml, hts, hown, hlocks, hK0⟩ := id C
  have hK := hK0.1
  have hl : lv_has ls 5 [(0, .ref (a 0)), (1, .int v1), (2, .int v2), (3, .int v3)] := hl
  rw [F_X9_waiting] at hV
  refine lv_aload_n hx hb dX9_waiting_0 rfl (lv_at hl 0 rfl) ?_
  refine lv_aload_n hx hb dX9_waiting_1 rfl (lv_at hl 0 rfl) ?_
  refine lv_iload_n hx hb dX9_waiting_2 rfl (lv_at hl 1 rfl) ?_
  obtain ⟨r12, hr12, hV⟩ := jBind hV
  refine jVpI C dX9_waiting_3 (k_X9_isPerformance l D G a N M v1 r12 hr12) jy_X9_isPerformance jq_26_1 jq_26_2 jq_26_3 ⟨rfl, rfl, Nat.le_of_ble_eq_true rfl, Nat.le_of_ble_eq_true rfl⟩ ⟨Nat.le_of_ble_eq_true rfl, Nat.le_of_ble_eq_true rfl⟩ hP  (ci := 11) (iw := 0) rfl rfl rfl hl (rest := [.ref (a 0)]) rfl (Nat.le_of_ble_eq_true rfl) ?_
  refine lv_if_eq (tgt := 13) hx hb dX9_waiting_6 (by decide) (fun c13 => ?_) (fun c13 => ?_)
  · have hV := jT1 hV c13
    refine lv_iconst (v := 1) hx hb dX9_waiting_13 (by decide) ?_
    exact B_X9_waiting_14 C hA N a r   M v1 v2 v3 (1 : Int32) _ _ _ hP hD hS (lv_sub hl [0, 1, 2, 3] rfl) hV
  · have hV := jF1 hV c13
    refine lv_iconst (v := 0) hx hb dX9_waiting_9 (by decide) ?_
    refine lv_goto (tgt := 14) hx hb dX9_waiting_10 (by decide) ?_
    exact B_X9_waiting_14 C hA N a r   M v1 v2 v3 (0 : Int32) _ _ _ hP hD hS (lv_sub hl [0, 1, 2, 3] rfl) hV
theorem jy_X9_seatsOf : jY yX9_seatsOf cX9_seatsOf 3 (some .int) 2 := ⟨by decide +kernel, jq_35_10, jq_1_5⟩
def F_X9_seatsOf (N : Nat)  (M : Nat → Nat → Int32) (v1 v2 : Int32) : Option Int32 := (if v2 = 0 then ((F_X9_p N M v1 (3 : Int32)).bind (fun r4 => (some r4))) else (if v2 = (1 : Int32) then ((F_X9_heldAt N M v1).bind (fun r2 => (some r2))) else ((F_X9_freeAt N M v1).bind (fun r1 => (some r1)))))
set_option maxHeartbeats 4000000 in
set_option maxRecDepth 100000 in
theorem k_X9_seatsOf (l : Launch) (D : va_G) (G : Nat → ClassId) (a : Nat → Nat) (N : Nat) (M : Nat → Nat → Int32) (v1 v2 : Int32) (r : Int32) (hV : F_X9_seatsOf N  M v1 v2 = some r) : pM l yX9_seatsOf (jws yX9_seatsOf cX9_seatsOf 3 (some .int)) ({ frames := 3, cells := 0, slots := 0, locals := 66 } : Room) [.ref (a 0), .int v1, .int v2] D G (wM a G M) (some (.int r)) := by
  refine pM_of (by decide +kernel) (Nat.le_of_ble_eq_true rfl) (fun p e s m args below meth c ls C hP hl => ?_)
  have C : Cx p s m args meth c cX9_seatsOf 3 RX9 (some .int) D G := C
  obtain ⟨hx, hb, hr, hml, hts, hown, hlocks, hK0⟩ := id C
  have hK := hK0.1
  have hl : lv_has ls 3 [(0, .ref (a 0)), (1, .int v1), (2, .int v2)] := hl
  rw [F_X9_seatsOf] at hV
  refine lv_iload_n hx hb dX9_seatsOf_0 rfl (lv_at hl 2 rfl) ?_
  refine lv_if_ne (tgt := 13) hx hb dX9_seatsOf_1 (by decide) (fun c5 => ?_) (fun c5 => ?_)
  · have hV := jF1 hV c5
    refine lv_iload_n hx hb dX9_seatsOf_13 rfl (lv_at hl 2 rfl) ?_
    refine lv_iconst (v := 1) hx hb dX9_seatsOf_14 (by decide) ?_
    refine lv_icmp_ne (tgt := 26) hx hb dX9_seatsOf_15 (by decide) (fun c3 => ?_) (fun c3 => ?_)
    · have hV := jF1 hV c3
      refine lv_aload_n hx hb dX9_seatsOf_26 rfl (lv_at hl 0 rfl) ?_
      refine lv_iload_n hx hb dX9_seatsOf_27 rfl (lv_at hl 1 rfl) ?_
      obtain ⟨r1, hr1, hV⟩ := jBind hV
      refine jVpI C dX9_seatsOf_28 (k_X9_freeAt l D G a N M v1 r1 hr1) jy_X9_freeAt jq_14_14 jq_14_15 jq_14_16 ⟨rfl, rfl, Nat.le_of_ble_eq_true rfl, Nat.le_of_ble_eq_true rfl⟩ ⟨Nat.le_of_ble_eq_true rfl, Nat.le_of_ble_eq_true rfl⟩ hP  (ci := 11) (iw := 0) rfl rfl rfl hl (rest := []) rfl (Nat.le_of_ble_eq_true rfl) ?_
      exact pRet C rfl dX9_seatsOf_31 rfl (Option.some.inj hV)
    · have hV := jT1 hV c3
      refine lv_aload_n hx hb dX9_seatsOf_18 rfl (lv_at hl 0 rfl) ?_
      refine lv_iload_n hx hb dX9_seatsOf_19 rfl (lv_at hl 1 rfl) ?_
      obtain ⟨r2, hr2, hV⟩ := jBind hV
      refine jVpI C dX9_seatsOf_20 (k_X9_heldAt l D G a N M v1 r2 hr2) jy_X9_heldAt jq_13_8 jq_13_9 jq_13_10 ⟨rfl, rfl, Nat.le_of_ble_eq_true rfl, Nat.le_of_ble_eq_true rfl⟩ ⟨Nat.le_of_ble_eq_true rfl, Nat.le_of_ble_eq_true rfl⟩ hP  (ci := 11) (iw := 0) rfl rfl rfl hl (rest := []) rfl (Nat.le_of_ble_eq_true rfl) ?_
      refine lv_goto (tgt := 31) hx hb dX9_seatsOf_23 (by decide) ?_
      exact pRet C rfl dX9_seatsOf_31 rfl (Option.some.inj hV)
  · have hV := jT1 hV c5
    refine lv_aload_n hx hb dX9_seatsOf_4 rfl (lv_at hl 0 rfl) ?_
    refine lv_iload_n hx hb dX9_seatsOf_5 rfl (lv_at hl 1 rfl) ?_
    refine lv_iconst (v := 3) hx hb dX9_seatsOf_6 (by decide) ?_
    obtain ⟨r4, hr4, hV⟩ := jBind hV
    refine jVpI C dX9_seatsOf_7 (k_X9_p l D G a N M v1 (3 : Int32) r4 hr4) jy_X9_p jq_13_4 jq_13_5 jq_13_6 ⟨rfl, rfl, Nat.le_of_ble_eq_true rfl, Nat.le_of_ble_eq_true rfl⟩ ⟨Nat.le_of_ble_eq_true rfl, Nat.le_of_ble_eq_true rfl⟩ hP  (ci := 11) (iw := 0) rfl rfl rfl hl (rest := []) rfl (Nat.le_of_ble_eq_true rfl) ?_
    refine lv_goto (tgt := 31) hx hb dX9_seatsOf_10 (by decide) ?_
    exact pRet C rfl dX9_seatsOf_31 rfl (Option.some.inj hV)
theorem jy_X9_seats : jY yX9_seats cX9_seats 5 (some .int) 2 := ⟨by decide +kernel, jq_35_6, jq_1_5⟩
def D_X9_seats_39 (N : Nat)  : Nat → (Nat → Nat → Int32) → Int32 → Int32 → Int32 → Int32 → Option (Int32 × (Nat → Nat → Int32))
  | 0, _, _, _, _, _ => none
  | n + 1, M, v1, v2, v3, v4 => (if inb (38 : Int32) 2169 = true then (if ((M 1) (38 : Int32).toNatClampNeg) ≤ v4 then (some (v3, M)) else ((F_X9_p N M v4 (2 : Int32)).bind (fun r2 => (if r2 = v1 then ((F_X9_seatsOf N M v4 v2).bind (fun r3 => (D_X9_seats_39 N   n M v1 v2 (v3 + r3) (v4 + 1)))) else (D_X9_seats_39 N   n M v1 v2 (v3 + (0 : Int32)) (v4 + 1)))))) else none)
set_option maxHeartbeats 4000000 in
set_option maxRecDepth 100000 in
theorem B_X9_seats_39 {p : Program} {l : Launch} {e : Env} {s : State} {m : MethodId} {args : Array Value} {below : List Frame} {meth : Method} {c : Code} {D : va_G} {G : Nat → ClassId} {A : Nat → Prop} (C : Cx p s m args meth c cX9_seats 5 RX9 (some .int) D G) (hA : ∀ q : Nat, s.heap.size ≤ q → A q) (N : Nat) (a : Nat → Nat) (r : (Int32 × (Nat → Nat → Int32))) : (∀ (n : Nat) (M : Nat → Nat → Int32) (v1 : Int32) (v2 : Int32) (v3 : Int32) (v4 : Int32) (ls : Array Slot) (H : Heap) (locs : List Loc), va_P D vwCl (wM a G M) H → va_D A (wM a G M) → va_S A s.heap H locs → lv_has ls 5 [(0, .ref (a 0)), (1, .int v1), (2, .int v2), (3, .int v3), (4, .int v4)] → D_X9_seats_39 N   n M v1 v2 v3 v4 = some r → W p l e ({ frames := 4, cells := 0, slots := 0, locals := 88 } : Room) s m args below meth c H locs 0 0 (MQ below (mQ D (wM a G r.2) (some (.int r.1)) A) args s 0 0 A) (F0 m 39 ls [])) := by
  have C := C
  obtain ⟨hx, hb, hr, hml, hts, hown, hlocks, hK0⟩ := id C
  have hK := hK0.1
  intro n
  induction n with
  | zero =>
    intro M v1 v2 v3 v4 ls H locs hP hD hS hl hV
    rw [D_X9_seats_39] at hV
    cases hV
  | succ n ih =>
    intro M v1 v2 v3 v4 ls H locs hP hD hS hl hV
    rw [D_X9_seats_39] at hV
    refine lv_iload hx hb dX9_seats_39 (lv_at hl 4 rfl) ?_
    refine lv_aload_n hx hb dX9_seats_41 rfl (lv_at hl 0 rfl) ?_
    refine va_get (D := D) (ci := 11) (v := .ref (a 1)) (C := RX9) (T := TX9) (N := 16) hx hb hts ju_X9 hown hK hP 0 rfl rfl 1 (by decide) (hts _ jq_6_1) (fun _ h9 => h9) rfl dX9_seats_42 ?_
    refine lv_bipush (v := 38) hx hb dX9_seats_45 (by decide) ?_
    obtain ⟨g1, hV⟩ := jIf hV
    refine va_iald (D := D) (n := 2169) (f := (M 1)) hx hb hK hP 1 0 rfl rfl (inb_of g1) dX9_seats_47 ?_
    refine lv_icmp_ge (tgt := 82) hx hb dX9_seats_48 (by decide) (fun c5 => ?_) (fun c5 => ?_)
    · have hV := jT1 hV c5
      refine lv_iload_n hx hb dX9_seats_82 rfl (lv_at hl 3 rfl) ?_
      cases hV
      exact mRet C rfl dX9_seats_83 rfl rfl hP hS
    · have hV := jF1 hV c5
      refine lv_iload_n hx hb dX9_seats_51 rfl (lv_at hl 3 rfl) ?_
      refine lv_aload_n hx hb dX9_seats_52 rfl (lv_at hl 0 rfl) ?_
      refine lv_iload hx hb dX9_seats_53 (lv_at hl 4 rfl) ?_
      refine lv_iconst (v := 2) hx hb dX9_seats_55 (by decide) ?_
      obtain ⟨r2, hr2, hV⟩ := jBind hV
      refine jVpI C dX9_seats_56 (k_X9_p l D G a N M v4 (2 : Int32) r2 hr2) jy_X9_p jq_13_4 jq_13_5 jq_13_6 ⟨rfl, rfl, Nat.le_of_ble_eq_true rfl, Nat.le_of_ble_eq_true rfl⟩ ⟨Nat.le_of_ble_eq_true rfl, Nat.le_of_ble_eq_true rfl⟩ hP  (ci := 11) (iw := 0) rfl rfl rfl hl (rest := [.int v3]) rfl (Nat.le_of_ble_eq_true rfl) ?_
      refine lv_iload_n hx hb dX9_seats_59 rfl (lv_at hl 1 rfl) ?_
      refine lv_icmp_ne (tgt := 73) hx hb dX9_seats_60 (by decide) (fun c4 => ?_) (fun c4 => ?_)
      · have hV := jF1 hV c4
        refine lv_iconst (v := 0) hx hb dX9_seats_73 (by decide) ?_
        refine lv_iadd hx hb dX9_seats_74 ?_
        refine lv_istore_n (lv' := [(3, .int (v3 + (0 : Int32))), (0, .ref (a 0)), (1, .int v1), (2, .int v2), (4, .int v4)]) hx hb dX9_seats_75 rfl hl (by decide) rfl (fun ls hl => ?_)
        refine lv_iinc (v := (v4 + 1)) (lv' := [(4, .int (v4 + 1)), (3, .int (v3 + (0 : Int32))), (0, .ref (a 0)), (1, .int v1), (2, .int v2)]) hx hb dX9_seats_76 hl (k := 4) rfl rfl (by decide) rfl (fun ls hl => ?_)
        refine lv_goto (tgt := 39) hx hb dX9_seats_79 (by decide) ?_
        exact ih M v1 v2 (v3 + (0 : Int32)) (v4 + 1) _ _ _ hP hD hS (lv_sub hl [2, 3, 4, 1, 0] rfl) hV
      · have hV := jT1 hV c4
        refine lv_aload_n hx hb dX9_seats_63 rfl (lv_at hl 0 rfl) ?_
        refine lv_iload hx hb dX9_seats_64 (lv_at hl 4 rfl) ?_
        refine lv_iload_n hx hb dX9_seats_66 rfl (lv_at hl 2 rfl) ?_
        obtain ⟨r3, hr3, hV⟩ := jBind hV
        refine jVpI C dX9_seats_67 (k_X9_seatsOf l D G a N M v4 v2 r3 hr3) jy_X9_seatsOf jq_35_7 jq_35_8 jq_35_9 ⟨rfl, rfl, Nat.le_of_ble_eq_true rfl, Nat.le_of_ble_eq_true rfl⟩ ⟨Nat.le_of_ble_eq_true rfl, Nat.le_of_ble_eq_true rfl⟩ hP  (ci := 11) (iw := 0) rfl rfl rfl hl (rest := [.int v3]) rfl (Nat.le_of_ble_eq_true rfl) ?_
        refine lv_goto (tgt := 74) hx hb dX9_seats_70 (by decide) ?_
        refine lv_iadd hx hb dX9_seats_74 ?_
        refine lv_istore_n (lv' := [(3, .int (v3 + r3)), (0, .ref (a 0)), (1, .int v1), (2, .int v2), (4, .int v4)]) hx hb dX9_seats_75 rfl hl (by decide) rfl (fun ls hl => ?_)
        refine lv_iinc (v := (v4 + 1)) (lv' := [(4, .int (v4 + 1)), (3, .int (v3 + r3)), (0, .ref (a 0)), (1, .int v1), (2, .int v2)]) hx hb dX9_seats_76 hl (k := 4) rfl rfl (by decide) rfl (fun ls hl => ?_)
        refine lv_goto (tgt := 39) hx hb dX9_seats_79 (by decide) ?_
        exact ih M v1 v2 (v3 + r3) (v4 + 1) _ _ _ hP hD hS (lv_sub hl [2, 3, 4, 1, 0] rfl) hV
def D_X9_seats_22 (N : Nat)  (M : Nat → Nat → Int32) (v1 : Int32) (v2 : Int32) (s0 : Int32) : Option (Int32 × (Nat → Nat → Int32)) := (jlet (stF M 0 s0) (fun M6 => (if (M6 0 0) = 0 then (D_X9_seats_39 N   N M6 v1 v2 (0 : Int32) (0 : Int32)) else (some ((0 : Int32), M6)))))
set_option maxHeartbeats 4000000 in
set_option maxRecDepth 100000 in
theorem B_X9_seats_22 {p : Program} {l : Launch} {e : Env} {s : State} {m : MethodId} {args : Array Value} {below : List Frame} {meth : Method} {c : Code} {D : va_G} {G : Nat → ClassId} {A : Nat → Prop} (C : Cx p s m args meth c cX9_seats 5 RX9 (some .int) D G) (hA : ∀ q : Nat, s.heap.size ≤ q → A q) (N : Nat) (a : Nat → Nat) (r : (Int32 × (Nat → Nat → Int32))) : (∀ (M : Nat → Nat → Int32) (v1 : Int32) (v2 : Int32) (s0 : Int32) (ls : Array Slot) (H : Heap) (locs : List Loc), va_P D vwCl (wM a G M) H → va_D A (wM a G M) → va_S A s.heap H locs → lv_has ls 5 [(0, .ref (a 0)), (1, .int v1), (2, .int v2)] → D_X9_seats_22 N   M v1 v2 s0 = some r → W p l e ({ frames := 4, cells := 0, slots := 0, locals := 88 } : Room) s m args below meth c H locs 0 0 (MQ below (mQ D (wM a G r.2) (some (.int r.1)) A) args s 0 0 A) (F0 m 22 ls [.int s0, .ref (a 0)])) := by
  have C := C
  obtain ⟨hx, hb, hr, hml, hts, hown, hlocks, hK0⟩ := id C
  have hK := hK0.1
  intro M v1 v2 s0 ls H locs hP hD hS hl hV
  rw [D_X9_seats_22] at hV
  refine va_put (D := D) (ci := 11) (v := .int s0) (ty := .int) (C := RX9) (T := TX9) (N := 16) hx hb hts ju_X9 tyX9 tyX9_ok nmX9 hown hK hP hD hS 0 rfl rfl 0 (by decide) (hts _ jq_15_2) (fun _ h9 => h9) rfl (by decide +kernel) rfl rfl (Nat.le_of_ble_eq_true rfl) dX9_seats_22 (fun H locs hP hD hS => ?_)
  obtain ⟨M6, e8, hV⟩ := jLet hV
  have hP : va_P D vwCl (wM a G M6) H := by rw [e8]; exact hP
  have hD : va_D A (wM a G M6) := by rw [e8]; exact hD
  refine lv_aload_n hx hb dX9_seats_25 rfl (lv_at hl 0 rfl) ?_
  refine va_get (D := D) (ci := 11) (v := .int (M6 0 0)) (C := RX9) (T := TX9) (N := 16) hx hb hts ju_X9 hown hK hP 0 rfl rfl 0 (by decide) (hts _ jq_15_2) (fun _ h9 => h9) rfl dX9_seats_26 ?_
  refine lv_if_eq (tgt := 34) hx hb dX9_seats_29 (by decide) (fun c7 => ?_) (fun c7 => ?_)
  · have hV := jT1 hV c7
    refine lv_iconst (v := 0) hx hb dX9_seats_34 (by decide) ?_
    refine lv_istore_n (lv' := [(3, .int (0 : Int32)), (0, .ref (a 0)), (1, .int v1), (2, .int v2)]) hx hb dX9_seats_35 rfl hl (by decide) rfl (fun ls hl => ?_)
    refine lv_iconst (v := 0) hx hb dX9_seats_36 (by decide) ?_
    refine lv_istore (lv' := [(4, .int (0 : Int32)), (3, .int (0 : Int32)), (0, .ref (a 0)), (1, .int v1), (2, .int v2)]) hx hb dX9_seats_37 hl (by decide) rfl (fun ls hl => ?_)
    exact B_X9_seats_39 C hA N a r   N M6 v1 v2 (0 : Int32) (0 : Int32) _ _ _ hP hD hS (lv_sub hl [2, 3, 4, 1, 0] rfl) hV
  · have hV := jF1 hV c7
    refine lv_iconst (v := 0) hx hb dX9_seats_32 (by decide) ?_
    cases hV
    exact mRet C rfl dX9_seats_33 rfl rfl hP hS
def F_X9_seats (N : Nat)  (M : Nat → Nat → Int32) (v1 v2 : Int32) : Option (Int32 × (Nat → Nat → Int32)) := ((F_X9_isDate N  v1).bind (fun r9 => (if r9 = 0 then (D_X9_seats_22 N   M v1 v2 (1 : Int32)) else ((F_X9_in N  v2 (0 : Int32) (2 : Int32)).bind (fun r10 => (if r10 = 0 then (D_X9_seats_22 N   M v1 v2 (1 : Int32)) else (D_X9_seats_22 N   M v1 v2 (0 : Int32))))))))
set_option maxHeartbeats 4000000 in
set_option maxRecDepth 100000 in
theorem k_X9_seats (l : Launch) (D : va_G) (G : Nat → ClassId) (a : Nat → Nat) (N : Nat) (M : Nat → Nat → Int32) (v1 v2 : Int32) (r : (Int32 × (Nat → Nat → Int32))) (hV : F_X9_seats N  M v1 v2 = some r) : mM l yX9_seats (jws yX9_seats cX9_seats 5 (some .int)) ({ frames := 4, cells := 0, slots := 0, locals := 88 } : Room) [.ref (a 0), .int v1, .int v2] D G (wM a G M) (wM a G r.2) (some (.int r.1)) := by
  refine mM_of (by decide +kernel) (Nat.le_of_ble_eq_true rfl) (fun p e s m args below meth c ls A C hP hD hA hl => ?_)
  have C : Cx p s m args meth c cX9_seats 5 RX9 (some .int) D G := C
  have hS : va_S A s.heap s.heap [] := va_S.rf
  obtain ⟨hx, hb, hr, hml, hts, hown, hlocks, hK0⟩ := id C
  have hK := hK0.1
  have hl : lv_has ls 5 [(0, .ref (a 0)), (1, .int v1), (2, .int v2)] := hl
  rw [F_X9_seats] at hV
  refine lv_aload_n hx hb dX9_seats_0 rfl (lv_at hl 0 rfl) ?_
  refine lv_iload_n hx hb dX9_seats_1 rfl (lv_at hl 1 rfl) ?_
  obtain ⟨r9, hr9, hV⟩ := jBind hV
  refine jSpI C dX9_seats_2 (k_X9_isDate l D G  N  v1 r9 hr9) jy_X9_isDate jq_24_8 jq_24_9 ⟨rfl, rfl, Nat.le_of_ble_eq_true rfl, Nat.le_of_ble_eq_true rfl⟩ ⟨Nat.le_of_ble_eq_true rfl, Nat.le_of_ble_eq_true rfl⟩ jE  hl (rest := [.ref (a 0)]) rfl (Nat.le_of_ble_eq_true rfl) ?_
  refine lv_if_eq (tgt := 21) hx hb dX9_seats_5 (by decide) (fun c12 => ?_) (fun c12 => ?_)
  · have hV := jT1 hV c12
    refine lv_iconst (v := 1) hx hb dX9_seats_21 (by decide) ?_
    exact B_X9_seats_22 C hA N a r   M v1 v2 (1 : Int32) _ _ _ hP hD hS (lv_sub hl [0, 1, 2] rfl) hV
  · have hV := jF1 hV c12
    refine lv_iload_n hx hb dX9_seats_8 rfl (lv_at hl 2 rfl) ?_
    refine lv_iconst (v := 0) hx hb dX9_seats_9 (by decide) ?_
    refine lv_iconst (v := 2) hx hb dX9_seats_10 (by decide) ?_
    obtain ⟨r10, hr10, hV⟩ := jBind hV
    refine jSpI C dX9_seats_11 (k_X9_in l D G  N  v2 (0 : Int32) (2 : Int32) r10 hr10) jy_X9_in jq_13_1 jq_13_2 ⟨rfl, rfl, Nat.le_of_ble_eq_true rfl, Nat.le_of_ble_eq_true rfl⟩ ⟨Nat.le_of_ble_eq_true rfl, Nat.le_of_ble_eq_true rfl⟩ jE  hl (rest := [.ref (a 0)]) rfl (Nat.le_of_ble_eq_true rfl) ?_
    refine lv_if_eq (tgt := 21) hx hb dX9_seats_14 (by decide) (fun c11 => ?_) (fun c11 => ?_)
    · have hV := jT1 hV c11
      refine lv_iconst (v := 1) hx hb dX9_seats_21 (by decide) ?_
      exact B_X9_seats_22 C hA N a r   M v1 v2 (1 : Int32) _ _ _ hP hD hS (lv_sub hl [0, 1, 2] rfl) hV
    · have hV := jF1 hV c11
      refine lv_iconst (v := 0) hx hb dX9_seats_17 (by decide) ?_
      refine lv_goto (tgt := 22) hx hb dX9_seats_18 (by decide) ?_
      exact B_X9_seats_22 C hA N a r   M v1 v2 (0 : Int32) _ _ _ hP hD hS (lv_sub hl [0, 1, 2] rfl) hV
theorem jy_X9_seatsAgain : jY yX9_seatsAgain cX9_seatsAgain 3 (some .int) 2 := ⟨by decide +kernel, jq_36_6, jq_1_5⟩
def F_X9_seatsAgain (N : Nat)  (M : Nat → Nat → Int32) (v1 v2 : Int32) : Option (Int32 × (Nat → Nat → Int32)) := ((F_X9_seats N M v1 v2).bind (fun r1 => (some (r1.1, r1.2))))
set_option maxHeartbeats 4000000 in
set_option maxRecDepth 100000 in
theorem k_X9_seatsAgain (l : Launch) (D : va_G) (G : Nat → ClassId) (a : Nat → Nat) (N : Nat) (M : Nat → Nat → Int32) (v1 v2 : Int32) (r : (Int32 × (Nat → Nat → Int32))) (hV : F_X9_seatsAgain N  M v1 v2 = some r) : mM l yX9_seatsAgain (jws yX9_seatsAgain cX9_seatsAgain 3 (some .int)) ({ frames := 5, cells := 0, slots := 0, locals := 112 } : Room) [.ref (a 0), .int v1, .int v2] D G (wM a G M) (wM a G r.2) (some (.int r.1)) := by
  refine mM_of (by decide +kernel) (Nat.le_of_ble_eq_true rfl) (fun p e s m args below meth c ls A C hP hD hA hl => ?_)
  have C : Cx p s m args meth c cX9_seatsAgain 3 RX9 (some .int) D G := C
  have hS : va_S A s.heap s.heap [] := va_S.rf
  obtain ⟨hx, hb, hr, hml, hts, hown, hlocks, hK0⟩ := id C
  have hK := hK0.1
  have hl : lv_has ls 3 [(0, .ref (a 0)), (1, .int v1), (2, .int v2)] := hl
  rw [F_X9_seatsAgain] at hV
  refine lv_aload_n hx hb dX9_seatsAgain_0 rfl (lv_at hl 0 rfl) ?_
  refine lv_iload_n hx hb dX9_seatsAgain_1 rfl (lv_at hl 1 rfl) ?_
  refine lv_iload_n hx hb dX9_seatsAgain_2 rfl (lv_at hl 2 rfl) ?_
  obtain ⟨r1, hr1, hV⟩ := jBind hV
  refine jVmI C dX9_seatsAgain_3 (k_X9_seats l D G a N M v1 v2 r1 hr1) jy_X9_seats jq_36_7 jq_35_4 jq_35_5 ⟨rfl, rfl, Nat.le_of_ble_eq_true rfl, Nat.le_of_ble_eq_true rfl⟩ ⟨Nat.le_of_ble_eq_true rfl, Nat.le_of_ble_eq_true rfl⟩ hP hD hA hS (ci := 11) (iw := 0) rfl rfl rfl hl (rest := []) rfl (Nat.le_of_ble_eq_true rfl) (fun H locs hQ hz hkp hS => ?_)
  have hP : va_P D vwCl (wM a G r1.2) H := hQ
  have hD : va_D A (wM a G r1.2) := jD (w := (wM a G M)) rfl hD
  cases hV
  exact mRet C rfl dX9_seatsAgain_6 rfl rfl hP hS
theorem jy_X9_subscribes : jY yX9_subscribes cX9_subscribes 3 (some .int) 1 := ⟨by decide +kernel, jq_37_7, jq_1_5⟩
def F_X9_subscribes (N : Nat)  (M : Nat → Nat → Int32) (v1 : Int32) : Option (Int32 × (Nat → Nat → Int32)) := ((F_X9_in N  v1 (1 : Int32) (6 : Int32)).bind (fun r1 => (if r1 = 0 then (some ((2 : Int32), M)) else (if inb (159 : Int32) 2169 = true then (if ((M 1) (159 : Int32).toNatClampNeg) = (10 : Int32) then (some ((3 : Int32), M)) else (if inb (((160 : Int32) + ((2 : Int32) * ((M 1) (159 : Int32).toNatClampNeg))) + (0 : Int32)) 2169 = true then (jlet (stA M 1 (((160 : Int32) + ((2 : Int32) * ((M 1) (159 : Int32).toNatClampNeg))) + (0 : Int32)) v1) (fun M4 => (if inb (((160 : Int32) + ((2 : Int32) * ((M 1) (159 : Int32).toNatClampNeg))) + (1 : Int32)) 2169 = true then (jlet (stA M4 1 (((160 : Int32) + ((2 : Int32) * ((M 1) (159 : Int32).toNatClampNeg))) + (1 : Int32)) (0 : Int32)) (fun M6 => (if inb (159 : Int32) 2169 = true then (if inb (159 : Int32) 2169 = true then (jlet (stA M6 1 (159 : Int32) (((M6 1) (159 : Int32).toNatClampNeg) + (1 : Int32))) (fun M9 => (jlet (stF M9 6 ((M 1) (159 : Int32).toNatClampNeg)) (fun M10 => (some ((0 : Int32), M10)))))) else none) else none))) else none))) else none)) else none))))
set_option maxHeartbeats 4000000 in
set_option maxRecDepth 100000 in
theorem k_X9_subscribes (l : Launch) (D : va_G) (G : Nat → ClassId) (a : Nat → Nat) (N : Nat) (M : Nat → Nat → Int32) (v1 : Int32) (r : (Int32 × (Nat → Nat → Int32))) (hV : F_X9_subscribes N  M v1 = some r) : mM l yX9_subscribes (jws yX9_subscribes cX9_subscribes 3 (some .int)) ({ frames := 1, cells := 0, slots := 0, locals := 22 } : Room) [.ref (a 0), .int v1] D G (wM a G M) (wM a G r.2) (some (.int r.1)) := by
  refine mM_of (by decide +kernel) (Nat.le_of_ble_eq_true rfl) (fun p e s m args below meth c ls A C hP hD hA hl => ?_)
  have C : Cx p s m args meth c cX9_subscribes 3 RX9 (some .int) D G := C
  have hS : va_S A s.heap s.heap [] := va_S.rf
  obtain ⟨hx, hb, hr, hml, hts, hown, hlocks, hK0⟩ := id C
  have hK := hK0.1
  have hl : lv_has ls 3 [(0, .ref (a 0)), (1, .int v1)] := hl
  rw [F_X9_subscribes] at hV
  refine lv_iload_n hx hb dX9_subscribes_0 rfl (lv_at hl 1 rfl) ?_
  refine lv_iconst (v := 1) hx hb dX9_subscribes_1 (by decide) ?_
  refine lv_bipush (v := 6) hx hb dX9_subscribes_2 (by decide) ?_
  obtain ⟨r1, hr1, hV⟩ := jBind hV
  refine jSpI C dX9_subscribes_4 (k_X9_in l D G  N  v1 (1 : Int32) (6 : Int32) r1 hr1) jy_X9_in jq_13_1 jq_13_2 ⟨rfl, rfl, Nat.le_of_ble_eq_true rfl, Nat.le_of_ble_eq_true rfl⟩ ⟨Nat.le_of_ble_eq_true rfl, Nat.le_of_ble_eq_true rfl⟩ jE  hl (rest := []) rfl (Nat.le_of_ble_eq_true rfl) ?_
  refine lv_if_ne (tgt := 12) hx hb dX9_subscribes_7 (by decide) (fun c16 => ?_) (fun c16 => ?_)
  · have hV := jF1 hV c16
    refine lv_aload_n hx hb dX9_subscribes_12 rfl (lv_at hl 0 rfl) ?_
    refine va_get (D := D) (ci := 11) (v := .ref (a 1)) (C := RX9) (T := TX9) (N := 16) hx hb hts ju_X9 hown hK hP 0 rfl rfl 1 (by decide) (hts _ jq_6_1) (fun _ h9 => h9) rfl dX9_subscribes_13 ?_
    refine lv_sipush (v := 159) hx hb dX9_subscribes_16 (by decide) ?_
    obtain ⟨g2, hV⟩ := jIf hV
    refine va_iald (D := D) (n := 2169) (f := (M 1)) hx hb hK hP 1 0 rfl rfl (inb_of g2) dX9_subscribes_19 ?_
    refine lv_istore_n (lv' := [(2, .int ((M 1) (159 : Int32).toNatClampNeg)), (0, .ref (a 0)), (1, .int v1)]) hx hb dX9_subscribes_20 rfl hl (by decide) rfl (fun ls hl => ?_)
    refine lv_iload_n hx hb dX9_subscribes_21 rfl (lv_at hl 0 rfl) ?_
    refine lv_bipush (v := 10) hx hb dX9_subscribes_22 (by decide) ?_
    refine lv_icmp_ne (tgt := 29) hx hb dX9_subscribes_24 (by decide) (fun c15 => ?_) (fun c15 => ?_)
    · have hV := jF1 hV c15
      refine lv_aload_n hx hb dX9_subscribes_29 rfl (lv_at hl 1 rfl) ?_
      refine va_get (D := D) (ci := 11) (v := .ref (a 1)) (C := RX9) (T := TX9) (N := 16) hx hb hts ju_X9 hown hK hP 0 rfl rfl 1 (by decide) (hts _ jq_6_1) (fun _ h9 => h9) rfl dX9_subscribes_30 ?_
      refine lv_sipush (v := 160) hx hb dX9_subscribes_33 (by decide) ?_
      refine lv_iconst (v := 2) hx hb dX9_subscribes_36 (by decide) ?_
      refine lv_iload_n hx hb dX9_subscribes_37 rfl (lv_at hl 0 rfl) ?_
      refine lv_imul hx hb dX9_subscribes_38 ?_
      refine lv_iadd hx hb dX9_subscribes_39 ?_
      refine lv_iconst (v := 0) hx hb dX9_subscribes_40 (by decide) ?_
      refine lv_iadd hx hb dX9_subscribes_41 ?_
      refine lv_iload_n hx hb dX9_subscribes_42 rfl (lv_at hl 2 rfl) ?_
      obtain ⟨g3, hV⟩ := jIf hV
      refine va_iast (D := D) (n := 2169) (f := (M 1)) hx hb hK hP hD hS 1 0 rfl rfl (inb_of g3) dX9_subscribes_43 (fun H locs hP hD hS => ?_)
      obtain ⟨M4, e14, hV⟩ := jLet hV
      have hP : va_P D vwCl (wM a G M4) H := by rw [e14]; exact hP
      have hD : va_D A (wM a G M4) := by rw [e14]; exact hD
      refine lv_aload_n hx hb dX9_subscribes_44 rfl (lv_at hl 1 rfl) ?_
      refine va_get (D := D) (ci := 11) (v := .ref (a 1)) (C := RX9) (T := TX9) (N := 16) hx hb hts ju_X9 hown hK hP 0 rfl rfl 1 (by decide) (hts _ jq_6_1) (fun _ h9 => h9) rfl dX9_subscribes_45 ?_
      refine lv_sipush (v := 160) hx hb dX9_subscribes_48 (by decide) ?_
      refine lv_iconst (v := 2) hx hb dX9_subscribes_51 (by decide) ?_
      refine lv_iload_n hx hb dX9_subscribes_52 rfl (lv_at hl 0 rfl) ?_
      refine lv_imul hx hb dX9_subscribes_53 ?_
      refine lv_iadd hx hb dX9_subscribes_54 ?_
      refine lv_iconst (v := 1) hx hb dX9_subscribes_55 (by decide) ?_
      refine lv_iadd hx hb dX9_subscribes_56 ?_
      refine lv_iconst (v := 0) hx hb dX9_subscribes_57 (by decide) ?_
      obtain ⟨g5, hV⟩ := jIf hV
      refine va_iast (D := D) (n := 2169) (f := (M4 1)) hx hb hK hP hD hS 1 0 rfl rfl (inb_of g5) dX9_subscribes_58 (fun H locs hP hD hS => ?_)
      obtain ⟨M6, e13, hV⟩ := jLet hV
      have hP : va_P D vwCl (wM a G M6) H := by rw [e13]; exact hP
      have hD : va_D A (wM a G M6) := by rw [e13]; exact hD
      refine lv_aload_n hx hb dX9_subscribes_59 rfl (lv_at hl 1 rfl) ?_
      refine va_get (D := D) (ci := 11) (v := .ref (a 1)) (C := RX9) (T := TX9) (N := 16) hx hb hts ju_X9 hown hK hP 0 rfl rfl 1 (by decide) (hts _ jq_6_1) (fun _ h9 => h9) rfl dX9_subscribes_60 ?_
      refine lv_sipush (v := 159) hx hb dX9_subscribes_63 (by decide) ?_
      refine lv_dup2_11 hx hb dX9_subscribes_66 rfl rfl ?_
      obtain ⟨g7, hV⟩ := jIf hV
      refine va_iald (D := D) (n := 2169) (f := (M6 1)) hx hb hK hP 1 0 rfl rfl (inb_of g7) dX9_subscribes_67 ?_
      refine lv_iconst (v := 1) hx hb dX9_subscribes_68 (by decide) ?_
      refine lv_iadd hx hb dX9_subscribes_69 ?_
      obtain ⟨g8, hV⟩ := jIf hV
      refine va_iast (D := D) (n := 2169) (f := (M6 1)) hx hb hK hP hD hS 1 0 rfl rfl (inb_of g8) dX9_subscribes_70 (fun H locs hP hD hS => ?_)
      obtain ⟨M9, e12, hV⟩ := jLet hV
      have hP : va_P D vwCl (wM a G M9) H := by rw [e12]; exact hP
      have hD : va_D A (wM a G M9) := by rw [e12]; exact hD
      refine lv_aload_n hx hb dX9_subscribes_71 rfl (lv_at hl 1 rfl) ?_
      refine lv_iload_n hx hb dX9_subscribes_72 rfl (lv_at hl 0 rfl) ?_
      refine va_put (D := D) (ci := 11) (v := .int ((M 1) (159 : Int32).toNatClampNeg)) (ty := .int) (C := RX9) (T := TX9) (N := 16) hx hb hts ju_X9 tyX9 tyX9_ok nmX9 hown hK hP hD hS 0 rfl rfl 6 (by decide) (hts _ jq_12_21) (fun _ h9 => h9) rfl (by decide +kernel) rfl rfl (Nat.le_of_ble_eq_true rfl) dX9_subscribes_73 (fun H locs hP hD hS => ?_)
      obtain ⟨M10, e11, hV⟩ := jLet hV
      have hP : va_P D vwCl (wM a G M10) H := by rw [e11]; exact hP
      have hD : va_D A (wM a G M10) := by rw [e11]; exact hD
      refine lv_iconst (v := 0) hx hb dX9_subscribes_76 (by decide) ?_
      cases hV
      exact mRet C rfl dX9_subscribes_77 rfl rfl hP hS
    · have hV := jT1 hV c15
      refine lv_iconst (v := 3) hx hb dX9_subscribes_27 (by decide) ?_
      cases hV
      exact mRet C rfl dX9_subscribes_28 rfl rfl hP hS
  · have hV := jT1 hV c16
    refine lv_iconst (v := 2) hx hb dX9_subscribes_10 (by decide) ?_
    cases hV
    exact mRet C rfl dX9_subscribes_11 rfl rfl hP hS
theorem jy_X9_subscribe : jY yX9_subscribe cX9_subscribe 2 (some .int) 1 := ⟨by decide +kernel, jq_37_3, jq_1_5⟩
def F_X9_subscribe (N : Nat)  (M : Nat → Nat → Int32) (v1 : Int32) : Option (Int32 × (Nat → Nat → Int32)) := ((F_X9_begins N M ).bind (fun r1 => ((F_X9_subscribes N r1 v1).bind (fun r2 => ((F_X9_ends N r2.2 r2.1 (1 : Int32) (2 : Int32) (0 : Int32)).bind (fun r3 => (some (r3.1, r3.2))))))))
set_option maxHeartbeats 4000000 in
set_option maxRecDepth 100000 in
theorem k_X9_subscribe (l : Launch) (D : va_G) (G : Nat → ClassId) (a : Nat → Nat) (N : Nat) (M : Nat → Nat → Int32) (v1 : Int32) (r : (Int32 × (Nat → Nat → Int32))) (hV : F_X9_subscribe N  M v1 = some r) : mM l yX9_subscribe (jws yX9_subscribe cX9_subscribe 2 (some .int)) ({ frames := 3, cells := 0, slots := 0, locals := 68 } : Room) [.ref (a 0), .int v1] D G (wM a G M) (wM a G r.2) (some (.int r.1)) := by
  refine mM_of (by decide +kernel) (Nat.le_of_ble_eq_true rfl) (fun p e s m args below meth c ls A C hP hD hA hl => ?_)
  have C : Cx p s m args meth c cX9_subscribe 2 RX9 (some .int) D G := C
  have hS : va_S A s.heap s.heap [] := va_S.rf
  obtain ⟨hx, hb, hr, hml, hts, hown, hlocks, hK0⟩ := id C
  have hK := hK0.1
  have hl : lv_has ls 2 [(0, .ref (a 0)), (1, .int v1)] := hl
  rw [F_X9_subscribe] at hV
  refine lv_aload_n hx hb dX9_subscribe_0 rfl (lv_at hl 0 rfl) ?_
  obtain ⟨r1, hr1, hV⟩ := jBind hV
  refine jVmV C dX9_subscribe_1 (k_X9_begins l D G a N M  r1 hr1) jy_X9_begins jq_12_9 jq_12_10 jq_12_11 ⟨rfl, rfl, Nat.le_of_ble_eq_true rfl, Nat.le_of_ble_eq_true rfl⟩ ⟨Nat.le_of_ble_eq_true rfl, Nat.le_of_ble_eq_true rfl⟩ hP hD hA hS (ci := 11) (iw := 0) rfl rfl rfl hl (rest := []) rfl (Nat.le_of_ble_eq_true rfl) (fun H locs hQ hz hkp hS => ?_)
  have hP : va_P D vwCl (wM a G r1) H := hQ
  have hD : va_D A (wM a G r1) := jD (w := (wM a G M)) rfl hD
  refine lv_aload_n hx hb dX9_subscribe_4 rfl (lv_at hl 0 rfl) ?_
  refine lv_aload_n hx hb dX9_subscribe_5 rfl (lv_at hl 0 rfl) ?_
  refine lv_iload_n hx hb dX9_subscribe_6 rfl (lv_at hl 1 rfl) ?_
  obtain ⟨r2, hr2, hV⟩ := jBind hV
  refine jVmI C dX9_subscribe_7 (k_X9_subscribes l D G a N r1 v1 r2 hr2) jy_X9_subscribes jq_37_4 jq_37_5 jq_37_6 ⟨rfl, rfl, Nat.le_of_ble_eq_true rfl, Nat.le_of_ble_eq_true rfl⟩ ⟨Nat.le_of_ble_eq_true rfl, Nat.le_of_ble_eq_true rfl⟩ hP hD hA hS (ci := 11) (iw := 0) rfl rfl rfl hl (rest := [.ref (a 0)]) rfl (Nat.le_of_ble_eq_true rfl) (fun H locs hQ hz hkp hS => ?_)
  have hP : va_P D vwCl (wM a G r2.2) H := hQ
  have hD : va_D A (wM a G r2.2) := jD (w := (wM a G r1)) rfl hD
  refine lv_iconst (v := 1) hx hb dX9_subscribe_10 (by decide) ?_
  refine lv_iconst (v := 2) hx hb dX9_subscribe_11 (by decide) ?_
  refine lv_iconst (v := 0) hx hb dX9_subscribe_12 (by decide) ?_
  obtain ⟨r3, hr3, hV⟩ := jBind hV
  refine jVmI C dX9_subscribe_13 (k_X9_ends l D G a N r2.2 r2.1 (1 : Int32) (2 : Int32) (0 : Int32) r3 hr3) jy_X9_ends jq_14_22 jq_14_23 jq_15_0 ⟨rfl, rfl, Nat.le_of_ble_eq_true rfl, Nat.le_of_ble_eq_true rfl⟩ ⟨Nat.le_of_ble_eq_true rfl, Nat.le_of_ble_eq_true rfl⟩ hP hD hA hS (ci := 11) (iw := 0) rfl rfl rfl hl (rest := []) rfl (Nat.le_of_ble_eq_true rfl) (fun H locs hQ hz hkp hS => ?_)
  have hP : va_P D vwCl (wM a G r3.2) H := hQ
  have hD : va_D A (wM a G r3.2) := jD (w := (wM a G r2.2)) rfl hD
  cases hV
  exact mRet C rfl dX9_subscribe_16 rfl rfl hP hS
theorem jy_X9_holdsAt : jY yX9_holdsAt cX9_holdsAt 4 (some .int) 1 := ⟨by decide +kernel, jq_39_1, jq_1_5⟩
def D_X9_holdsAt_4 (N : Nat)  (M : Nat → Nat → Int32) : Nat → Int32 → Int32 → Int32 → Option Int32
  | 0, _, _, _ => none
  | n + 1, v1, v2, v3 => (if inb (38 : Int32) 2169 = true then (if ((M 1) (38 : Int32).toNatClampNeg) ≤ v3 then (some v2) else ((F_X9_holds N M v1 v3).bind (fun r2 => (if r2 = 0 then (D_X9_holdsAt_4 N  M  n  v1 (v2 + (0 : Int32)) (v3 + 1)) else (D_X9_holdsAt_4 N  M  n  v1 (v2 + (1 : Int32)) (v3 + 1)))))) else none)
set_option maxHeartbeats 4000000 in
set_option maxRecDepth 100000 in
theorem B_X9_holdsAt_4 {p : Program} {l : Launch} {e : Env} {s : State} {m : MethodId} {args : Array Value} {below : List Frame} {meth : Method} {c : Code} {D : va_G} {G : Nat → ClassId} (C : Cx p s m args meth c cX9_holdsAt 4 RX9 (some .int) D G) (N : Nat) (a : Nat → Nat) (M : Nat → Nat → Int32) (r : Int32) (hP : va_P D vwCl (wM a G M) s.heap) : (∀ (n : Nat) (v1 : Int32) (v2 : Int32) (v3 : Int32) (ls : Array Slot), lv_has ls 4 [(0, .ref (a 0)), (1, .int v1), (2, .int v2), (3, .int v3)] → D_X9_holdsAt_4 N  M  n v1 v2 v3 = some r → W p l e ({ frames := 1, cells := 0, slots := 0, locals := 22 } : Room) s m args below meth c s.heap [] 0 0 (MQ below (QcRd (some (.int r))) args s 0 0 nofree) (F0 m 4 ls [])) := by
  have C := C
  obtain ⟨hx, hb, hr, hml, hts, hown, hlocks, hK0⟩ := id C
  have hK := hK0.1
  intro n
  induction n with
  | zero =>
    intro v1 v2 v3 ls hl hV
    rw [D_X9_holdsAt_4] at hV
    cases hV
  | succ n ih =>
    intro v1 v2 v3 ls hl hV
    rw [D_X9_holdsAt_4] at hV
    refine lv_iload_n hx hb dX9_holdsAt_4 rfl (lv_at hl 3 rfl) ?_
    refine lv_aload_n hx hb dX9_holdsAt_5 rfl (lv_at hl 0 rfl) ?_
    refine va_get (D := D) (ci := 11) (v := .ref (a 1)) (C := RX9) (T := TX9) (N := 16) hx hb hts ju_X9 hown hK hP 0 rfl rfl 1 (by decide) (hts _ jq_6_1) (fun _ h9 => h9) rfl dX9_holdsAt_6 ?_
    refine lv_bipush (v := 38) hx hb dX9_holdsAt_9 (by decide) ?_
    obtain ⟨g1, hV⟩ := jIf hV
    refine va_iald (D := D) (n := 2169) (f := (M 1)) hx hb hK hP 1 0 rfl rfl (inb_of g1) dX9_holdsAt_11 ?_
    refine lv_icmp_ge (tgt := 38) hx hb dX9_holdsAt_12 (by decide) (fun c4 => ?_) (fun c4 => ?_)
    · have hV := jT1 hV c4
      refine lv_iload_n hx hb dX9_holdsAt_38 rfl (lv_at hl 2 rfl) ?_
      exact pRet C rfl dX9_holdsAt_39 rfl (Option.some.inj hV)
    · have hV := jF1 hV c4
      refine lv_iload_n hx hb dX9_holdsAt_15 rfl (lv_at hl 2 rfl) ?_
      refine lv_aload_n hx hb dX9_holdsAt_16 rfl (lv_at hl 0 rfl) ?_
      refine lv_iload_n hx hb dX9_holdsAt_17 rfl (lv_at hl 1 rfl) ?_
      refine lv_iload_n hx hb dX9_holdsAt_18 rfl (lv_at hl 3 rfl) ?_
      obtain ⟨r2, hr2, hV⟩ := jBind hV
      refine jVpI C dX9_holdsAt_19 (k_X9_holds l D G a N M v1 v3 r2 hr2) jy_X9_holds jq_13_12 jq_13_13 jq_13_14 ⟨rfl, rfl, Nat.le_of_ble_eq_true rfl, Nat.le_of_ble_eq_true rfl⟩ ⟨Nat.le_of_ble_eq_true rfl, Nat.le_of_ble_eq_true rfl⟩ hP  (ci := 11) (iw := 0) rfl rfl rfl hl (rest := [.int v2]) rfl (Nat.le_of_ble_eq_true rfl) ?_
      refine lv_if_eq (tgt := 29) hx hb dX9_holdsAt_22 (by decide) (fun c3 => ?_) (fun c3 => ?_)
      · have hV := jT1 hV c3
        refine lv_iconst (v := 0) hx hb dX9_holdsAt_29 (by decide) ?_
        refine lv_iadd hx hb dX9_holdsAt_30 ?_
        refine lv_istore_n (lv' := [(2, .int (v2 + (0 : Int32))), (0, .ref (a 0)), (1, .int v1), (3, .int v3)]) hx hb dX9_holdsAt_31 rfl hl (by decide) rfl (fun ls hl => ?_)
        refine lv_iinc (v := (v3 + 1)) (lv' := [(3, .int (v3 + 1)), (2, .int (v2 + (0 : Int32))), (0, .ref (a 0)), (1, .int v1)]) hx hb dX9_holdsAt_32 hl (k := 3) rfl rfl (by decide) rfl (fun ls hl => ?_)
        refine lv_goto (tgt := 4) hx hb dX9_holdsAt_35 (by decide) ?_
        exact ih  v1 (v2 + (0 : Int32)) (v3 + 1) _ (lv_sub hl [2, 3, 1, 0] rfl) hV
      · have hV := jF1 hV c3
        refine lv_iconst (v := 1) hx hb dX9_holdsAt_25 (by decide) ?_
        refine lv_goto (tgt := 30) hx hb dX9_holdsAt_26 (by decide) ?_
        refine lv_iadd hx hb dX9_holdsAt_30 ?_
        refine lv_istore_n (lv' := [(2, .int (v2 + (1 : Int32))), (0, .ref (a 0)), (1, .int v1), (3, .int v3)]) hx hb dX9_holdsAt_31 rfl hl (by decide) rfl (fun ls hl => ?_)
        refine lv_iinc (v := (v3 + 1)) (lv' := [(3, .int (v3 + 1)), (2, .int (v2 + (1 : Int32))), (0, .ref (a 0)), (1, .int v1)]) hx hb dX9_holdsAt_32 hl (k := 3) rfl rfl (by decide) rfl (fun ls hl => ?_)
        refine lv_goto (tgt := 4) hx hb dX9_holdsAt_35 (by decide) ?_
        exact ih  v1 (v2 + (1 : Int32)) (v3 + 1) _ (lv_sub hl [2, 3, 1, 0] rfl) hV
def F_X9_holdsAt (N : Nat)  (M : Nat → Nat → Int32) (v1 : Int32) : Option Int32 := (D_X9_holdsAt_4 N  M  N  v1 (0 : Int32) (0 : Int32))
set_option maxHeartbeats 4000000 in
set_option maxRecDepth 100000 in
theorem k_X9_holdsAt (l : Launch) (D : va_G) (G : Nat → ClassId) (a : Nat → Nat) (N : Nat) (M : Nat → Nat → Int32) (v1 : Int32) (r : Int32) (hV : F_X9_holdsAt N  M v1 = some r) : pM l yX9_holdsAt (jws yX9_holdsAt cX9_holdsAt 4 (some .int)) ({ frames := 1, cells := 0, slots := 0, locals := 22 } : Room) [.ref (a 0), .int v1] D G (wM a G M) (some (.int r)) := by
  refine pM_of (by decide +kernel) (Nat.le_of_ble_eq_true rfl) (fun p e s m args below meth c ls C hP hl => ?_)
  have C : Cx p s m args meth c cX9_holdsAt 4 RX9 (some .int) D G := C
  obtain ⟨hx, hb, hr, hml, hts, hown, hlocks, hK0⟩ := id C
  have hK := hK0.1
  have hl : lv_has ls 4 [(0, .ref (a 0)), (1, .int v1)] := hl
  rw [F_X9_holdsAt] at hV
  refine lv_iconst (v := 0) hx hb dX9_holdsAt_0 (by decide) ?_
  refine lv_istore_n (lv' := [(2, .int (0 : Int32)), (0, .ref (a 0)), (1, .int v1)]) hx hb dX9_holdsAt_1 rfl hl (by decide) rfl (fun ls hl => ?_)
  refine lv_iconst (v := 0) hx hb dX9_holdsAt_2 (by decide) ?_
  refine lv_istore_n (lv' := [(3, .int (0 : Int32)), (2, .int (0 : Int32)), (0, .ref (a 0)), (1, .int v1)]) hx hb dX9_holdsAt_3 rfl hl (by decide) rfl (fun ls hl => ?_)
  exact B_X9_holdsAt_4 C  N a M r hP   N  v1 (0 : Int32) (0 : Int32) _ (lv_sub hl [2, 3, 1, 0] rfl) hV
theorem jy_X9_takes : jY yX9_takes cX9_takes 4 (some .int) 2 := ⟨by decide +kernel, jq_38_17, jq_1_5⟩
def D_X9_takes_40 (N : Nat)  (M : Nat → Nat → Int32) (v1 : Int32) (v2 : Int32) (v3 : Int32) (s0 : Int32) : Option (Int32 × (Nat → Nat → Int32)) := ((F_X9_isRefused N M s0 (4 : Int32) v3).bind (fun r1 => (if r1.1 = 0 then ((F_X9_holds N r1.2 v1 v2).bind (fun r2 => ((F_X9_isRefused N r1.2 r2 (5 : Int32) v2).bind (fun r3 => (if r3.1 = 0 then (if inb ((135 : Int32) + v2) 2169 = true then (if inb ((135 : Int32) + v2) 2169 = true then (jlet (stA r3.2 1 ((135 : Int32) + v2) (((r3.2 1) ((135 : Int32) + v2).toNatClampNeg) ||| ((1 : Int32) <<< (v1 &&& 31)))) (fun M6 => ((F_X9_holdsAt N M6 v1).bind (fun r7 => (jlet (stF M6 6 r7) (fun M8 => (some ((0 : Int32), M8)))))))) else none) else none) else (some ((4 : Int32), r3.2))))))) else (some ((4 : Int32), r1.2)))))
set_option maxHeartbeats 4000000 in
set_option maxRecDepth 100000 in
theorem B_X9_takes_40 {p : Program} {l : Launch} {e : Env} {s : State} {m : MethodId} {args : Array Value} {below : List Frame} {meth : Method} {c : Code} {D : va_G} {G : Nat → ClassId} {A : Nat → Prop} (C : Cx p s m args meth c cX9_takes 4 RX9 (some .int) D G) (hA : ∀ q : Nat, s.heap.size ≤ q → A q) (N : Nat) (a : Nat → Nat) (r : (Int32 × (Nat → Nat → Int32))) : (∀ (M : Nat → Nat → Int32) (v1 : Int32) (v2 : Int32) (v3 : Int32) (s0 : Int32) (ls : Array Slot) (H : Heap) (locs : List Loc), va_P D vwCl (wM a G M) H → va_D A (wM a G M) → va_S A s.heap H locs → lv_has ls 4 [(0, .ref (a 0)), (1, .int v1), (2, .int v2), (3, .int v3)] → D_X9_takes_40 N   M v1 v2 v3 s0 = some r → W p l e ({ frames := 3, cells := 0, slots := 0, locals := 66 } : Room) s m args below meth c H locs 0 0 (MQ below (mQ D (wM a G r.2) (some (.int r.1)) A) args s 0 0 A) (F0 m 40 ls [.int s0, .ref (a 0)])) := by
  have C := C
  obtain ⟨hx, hb, hr, hml, hts, hown, hlocks, hK0⟩ := id C
  have hK := hK0.1
  intro M v1 v2 v3 s0 ls H locs hP hD hS hl hV
  rw [D_X9_takes_40] at hV
  refine lv_iconst (v := 4) hx hb dX9_takes_40 (by decide) ?_
  refine lv_iload_n hx hb dX9_takes_41 rfl (lv_at hl 3 rfl) ?_
  obtain ⟨r1, hr1, hV⟩ := jBind hV
  refine jVmI C dX9_takes_42 (k_X9_isRefused l D G a N M s0 (4 : Int32) v3 r1 hr1) jy_X9_isRefused jq_13_20 jq_13_21 jq_13_22 ⟨rfl, rfl, Nat.le_of_ble_eq_true rfl, Nat.le_of_ble_eq_true rfl⟩ ⟨Nat.le_of_ble_eq_true rfl, Nat.le_of_ble_eq_true rfl⟩ hP hD hA hS (ci := 11) (iw := 0) rfl rfl rfl hl (rest := []) rfl (Nat.le_of_ble_eq_true rfl) (fun H locs hQ hz hkp hS => ?_)
  have hP : va_P D vwCl (wM a G r1.2) H := hQ
  have hD : va_D A (wM a G r1.2) := jD (w := (wM a G M)) rfl hD
  refine lv_if_ne (tgt := 63) hx hb dX9_takes_45 (by decide) (fun c12 => ?_) (fun c12 => ?_)
  · have hV := jF1 hV c12
    refine lv_iconst (v := 4) hx hb dX9_takes_63 (by decide) ?_
    cases hV
    exact mRet C rfl dX9_takes_64 rfl rfl hP hS
  · have hV := jT1 hV c12
    refine lv_aload_n hx hb dX9_takes_48 rfl (lv_at hl 0 rfl) ?_
    refine lv_aload_n hx hb dX9_takes_49 rfl (lv_at hl 0 rfl) ?_
    refine lv_iload_n hx hb dX9_takes_50 rfl (lv_at hl 1 rfl) ?_
    refine lv_iload_n hx hb dX9_takes_51 rfl (lv_at hl 2 rfl) ?_
    obtain ⟨r2, hr2, hV⟩ := jBind hV
    refine jVpI C dX9_takes_52 (k_X9_holds l D G a N r1.2 v1 v2 r2 hr2) jy_X9_holds jq_13_12 jq_13_13 jq_13_14 ⟨rfl, rfl, Nat.le_of_ble_eq_true rfl, Nat.le_of_ble_eq_true rfl⟩ ⟨Nat.le_of_ble_eq_true rfl, Nat.le_of_ble_eq_true rfl⟩ hP  (ci := 11) (iw := 0) rfl rfl rfl hl (rest := [.ref (a 0)]) rfl (Nat.le_of_ble_eq_true rfl) ?_
    refine lv_iconst (v := 5) hx hb dX9_takes_55 (by decide) ?_
    refine lv_iload_n hx hb dX9_takes_56 rfl (lv_at hl 2 rfl) ?_
    obtain ⟨r3, hr3, hV⟩ := jBind hV
    refine jVmI C dX9_takes_57 (k_X9_isRefused l D G a N r1.2 r2 (5 : Int32) v2 r3 hr3) jy_X9_isRefused jq_13_20 jq_13_21 jq_13_22 ⟨rfl, rfl, Nat.le_of_ble_eq_true rfl, Nat.le_of_ble_eq_true rfl⟩ ⟨Nat.le_of_ble_eq_true rfl, Nat.le_of_ble_eq_true rfl⟩ hP hD hA hS (ci := 11) (iw := 0) rfl rfl rfl hl (rest := []) rfl (Nat.le_of_ble_eq_true rfl) (fun H locs hQ hz hkp hS => ?_)
    have hP : va_P D vwCl (wM a G r3.2) H := hQ
    have hD : va_D A (wM a G r3.2) := jD (w := (wM a G r1.2)) rfl hD
    refine lv_if_eq (tgt := 65) hx hb dX9_takes_60 (by decide) (fun c11 => ?_) (fun c11 => ?_)
    · have hV := jT1 hV c11
      refine lv_aload_n hx hb dX9_takes_65 rfl (lv_at hl 0 rfl) ?_
      refine va_get (D := D) (ci := 11) (v := .ref (a 1)) (C := RX9) (T := TX9) (N := 16) hx hb hts ju_X9 hown hK hP 0 rfl rfl 1 (by decide) (hts _ jq_6_1) (fun _ h9 => h9) rfl dX9_takes_66 ?_
      refine lv_sipush (v := 135) hx hb dX9_takes_69 (by decide) ?_
      refine lv_iload_n hx hb dX9_takes_72 rfl (lv_at hl 2 rfl) ?_
      refine lv_iadd hx hb dX9_takes_73 ?_
      refine lv_dup2_11 hx hb dX9_takes_74 rfl rfl ?_
      obtain ⟨g4, hV⟩ := jIf hV
      refine va_iald (D := D) (n := 2169) (f := (r3.2 1)) hx hb hK hP 1 0 rfl rfl (inb_of g4) dX9_takes_75 ?_
      refine lv_iconst (v := 1) hx hb dX9_takes_76 (by decide) ?_
      refine lv_iload_n hx hb dX9_takes_77 rfl (lv_at hl 1 rfl) ?_
      refine lv_ishl hx hb dX9_takes_78 ?_
      refine lv_ior hx hb dX9_takes_79 ?_
      obtain ⟨g5, hV⟩ := jIf hV
      refine va_iast (D := D) (n := 2169) (f := (r3.2 1)) hx hb hK hP hD hS 1 0 rfl rfl (inb_of g5) dX9_takes_80 (fun H locs hP hD hS => ?_)
      obtain ⟨M6, e10, hV⟩ := jLet hV
      have hP : va_P D vwCl (wM a G M6) H := by rw [e10]; exact hP
      have hD : va_D A (wM a G M6) := by rw [e10]; exact hD
      refine lv_aload_n hx hb dX9_takes_81 rfl (lv_at hl 0 rfl) ?_
      refine lv_aload_n hx hb dX9_takes_82 rfl (lv_at hl 0 rfl) ?_
      refine lv_iload_n hx hb dX9_takes_83 rfl (lv_at hl 1 rfl) ?_
      obtain ⟨r7, hr7, hV⟩ := jBind hV
      refine jVpI C dX9_takes_84 (k_X9_holdsAt l D G a N M6 v1 r7 hr7) jy_X9_holdsAt jq_38_22 jq_38_23 jq_39_0 ⟨rfl, rfl, Nat.le_of_ble_eq_true rfl, Nat.le_of_ble_eq_true rfl⟩ ⟨Nat.le_of_ble_eq_true rfl, Nat.le_of_ble_eq_true rfl⟩ hP  (ci := 11) (iw := 0) rfl rfl rfl hl (rest := [.ref (a 0)]) rfl (Nat.le_of_ble_eq_true rfl) ?_
      refine va_put (D := D) (ci := 11) (v := .int r7) (ty := .int) (C := RX9) (T := TX9) (N := 16) hx hb hts ju_X9 tyX9 tyX9_ok nmX9 hown hK hP hD hS 0 rfl rfl 6 (by decide) (hts _ jq_12_21) (fun _ h9 => h9) rfl (by decide +kernel) rfl rfl (Nat.le_of_ble_eq_true rfl) dX9_takes_87 (fun H locs hP hD hS => ?_)
      obtain ⟨M8, e9, hV⟩ := jLet hV
      have hP : va_P D vwCl (wM a G M8) H := by rw [e9]; exact hP
      have hD : va_D A (wM a G M8) := by rw [e9]; exact hD
      refine lv_iconst (v := 0) hx hb dX9_takes_90 (by decide) ?_
      cases hV
      exact mRet C rfl dX9_takes_91 rfl rfl hP hS
    · have hV := jF1 hV c11
      refine lv_iconst (v := 4) hx hb dX9_takes_63 (by decide) ?_
      cases hV
      exact mRet C rfl dX9_takes_64 rfl rfl hP hS
def F_X9_takes (N : Nat)  (M : Nat → Nat → Int32) (v1 v2 : Int32) : Option (Int32 × (Nat → Nat → Int32)) := ((F_X9_isSubscription N M v1).bind (fun r13 => (if r13 = 0 then (some ((1 : Int32), M)) else ((F_X9_isPerformance N M v2).bind (fun r14 => (if r14 = 0 then (some ((1 : Int32), M)) else ((F_X9_freeAt N M v2).bind (fun r15 => ((F_X9_u N M v1 (0 : Int32)).bind (fun r16 => (if r16 ≤ r15 then (D_X9_takes_40 N   M v1 v2 r15 (0 : Int32)) else (D_X9_takes_40 N   M v1 v2 r15 (1 : Int32)))))))))))))
set_option maxHeartbeats 4000000 in
set_option maxRecDepth 100000 in
theorem k_X9_takes (l : Launch) (D : va_G) (G : Nat → ClassId) (a : Nat → Nat) (N : Nat) (M : Nat → Nat → Int32) (v1 v2 : Int32) (r : (Int32 × (Nat → Nat → Int32))) (hV : F_X9_takes N  M v1 v2 = some r) : mM l yX9_takes (jws yX9_takes cX9_takes 4 (some .int)) ({ frames := 3, cells := 0, slots := 0, locals := 66 } : Room) [.ref (a 0), .int v1, .int v2] D G (wM a G M) (wM a G r.2) (some (.int r.1)) := by
  refine mM_of (by decide +kernel) (Nat.le_of_ble_eq_true rfl) (fun p e s m args below meth c ls A C hP hD hA hl => ?_)
  have C : Cx p s m args meth c cX9_takes 4 RX9 (some .int) D G := C
  have hS : va_S A s.heap s.heap [] := va_S.rf
  obtain ⟨hx, hb, hr, hml, hts, hown, hlocks, hK0⟩ := id C
  have hK := hK0.1
  have hl : lv_has ls 4 [(0, .ref (a 0)), (1, .int v1), (2, .int v2)] := hl
  rw [F_X9_takes] at hV
  refine lv_aload_n hx hb dX9_takes_0 rfl (lv_at hl 0 rfl) ?_
  refine lv_iload_n hx hb dX9_takes_1 rfl (lv_at hl 1 rfl) ?_
  obtain ⟨r13, hr13, hV⟩ := jBind hV
  refine jVpI C dX9_takes_2 (k_X9_isSubscription l D G a N M v1 r13 hr13) jy_X9_isSubscription jq_38_18 jq_38_19 jq_38_20 ⟨rfl, rfl, Nat.le_of_ble_eq_true rfl, Nat.le_of_ble_eq_true rfl⟩ ⟨Nat.le_of_ble_eq_true rfl, Nat.le_of_ble_eq_true rfl⟩ hP  (ci := 11) (iw := 0) rfl rfl rfl hl (rest := []) rfl (Nat.le_of_ble_eq_true rfl) ?_
  refine lv_if_eq (tgt := 16) hx hb dX9_takes_5 (by decide) (fun c19 => ?_) (fun c19 => ?_)
  · have hV := jT1 hV c19
    refine lv_iconst (v := 1) hx hb dX9_takes_16 (by decide) ?_
    cases hV
    exact mRet C rfl dX9_takes_17 rfl rfl hP hS
  · have hV := jF1 hV c19
    refine lv_aload_n hx hb dX9_takes_8 rfl (lv_at hl 0 rfl) ?_
    refine lv_iload_n hx hb dX9_takes_9 rfl (lv_at hl 2 rfl) ?_
    obtain ⟨r14, hr14, hV⟩ := jBind hV
    refine jVpI C dX9_takes_10 (k_X9_isPerformance l D G a N M v2 r14 hr14) jy_X9_isPerformance jq_26_1 jq_26_2 jq_26_3 ⟨rfl, rfl, Nat.le_of_ble_eq_true rfl, Nat.le_of_ble_eq_true rfl⟩ ⟨Nat.le_of_ble_eq_true rfl, Nat.le_of_ble_eq_true rfl⟩ hP  (ci := 11) (iw := 0) rfl rfl rfl hl (rest := []) rfl (Nat.le_of_ble_eq_true rfl) ?_
    refine lv_if_ne (tgt := 18) hx hb dX9_takes_13 (by decide) (fun c18 => ?_) (fun c18 => ?_)
    · have hV := jF1 hV c18
      refine lv_aload_n hx hb dX9_takes_18 rfl (lv_at hl 0 rfl) ?_
      refine lv_iload_n hx hb dX9_takes_19 rfl (lv_at hl 2 rfl) ?_
      obtain ⟨r15, hr15, hV⟩ := jBind hV
      refine jVpI C dX9_takes_20 (k_X9_freeAt l D G a N M v2 r15 hr15) jy_X9_freeAt jq_14_14 jq_14_15 jq_14_16 ⟨rfl, rfl, Nat.le_of_ble_eq_true rfl, Nat.le_of_ble_eq_true rfl⟩ ⟨Nat.le_of_ble_eq_true rfl, Nat.le_of_ble_eq_true rfl⟩ hP  (ci := 11) (iw := 0) rfl rfl rfl hl (rest := []) rfl (Nat.le_of_ble_eq_true rfl) ?_
      refine lv_istore_n (lv' := [(3, .int r15), (0, .ref (a 0)), (1, .int v1), (2, .int v2)]) hx hb dX9_takes_23 rfl hl (by decide) rfl (fun ls hl => ?_)
      refine lv_aload_n hx hb dX9_takes_24 rfl (lv_at hl 1 rfl) ?_
      refine lv_iload_n hx hb dX9_takes_25 rfl (lv_at hl 0 rfl) ?_
      refine lv_aload_n hx hb dX9_takes_26 rfl (lv_at hl 1 rfl) ?_
      refine lv_iload_n hx hb dX9_takes_27 rfl (lv_at hl 2 rfl) ?_
      refine lv_iconst (v := 0) hx hb dX9_takes_28 (by decide) ?_
      obtain ⟨r16, hr16, hV⟩ := jBind hV
      refine jVpI C dX9_takes_29 (k_X9_u l D G a N M v1 (0 : Int32) r16 hr16) jy_X9_u jq_13_16 jq_13_17 jq_13_18 ⟨rfl, rfl, Nat.le_of_ble_eq_true rfl, Nat.le_of_ble_eq_true rfl⟩ ⟨Nat.le_of_ble_eq_true rfl, Nat.le_of_ble_eq_true rfl⟩ hP  (ci := 11) (iw := 0) rfl rfl rfl hl (rest := [.int r15, .ref (a 0)]) rfl (Nat.le_of_ble_eq_true rfl) ?_
      refine lv_icmp_ge (tgt := 39) hx hb dX9_takes_32 (by decide) (fun c17 => ?_) (fun c17 => ?_)
      · have hV := jT1 hV c17
        refine lv_iconst (v := 0) hx hb dX9_takes_39 (by decide) ?_
        exact B_X9_takes_40 C hA N a r   M v1 v2 r15 (0 : Int32) _ _ _ hP hD hS (lv_sub hl [1, 2, 3, 0] rfl) hV
      · have hV := jF1 hV c17
        refine lv_iconst (v := 1) hx hb dX9_takes_35 (by decide) ?_
        refine lv_goto (tgt := 40) hx hb dX9_takes_36 (by decide) ?_
        exact B_X9_takes_40 C hA N a r   M v1 v2 r15 (1 : Int32) _ _ _ hP hD hS (lv_sub hl [1, 2, 3, 0] rfl) hV
    · have hV := jT1 hV c18
      refine lv_iconst (v := 1) hx hb dX9_takes_16 (by decide) ?_
      cases hV
      exact mRet C rfl dX9_takes_17 rfl rfl hP hS
theorem jy_X9_hold : jY yX9_hold cX9_hold 3 (some .int) 2 := ⟨by decide +kernel, jq_38_13, jq_1_5⟩
def F_X9_hold (N : Nat)  (M : Nat → Nat → Int32) (v1 v2 : Int32) : Option (Int32 × (Nat → Nat → Int32)) := ((F_X9_begins N M ).bind (fun r1 => ((F_X9_takes N r1 v1 v2).bind (fun r2 => ((F_X9_ends N r2.2 r2.1 (0 : Int32) (0 : Int32) (2 : Int32)).bind (fun r3 => (some (r3.1, r3.2))))))))
set_option maxHeartbeats 4000000 in
set_option maxRecDepth 100000 in
theorem k_X9_hold (l : Launch) (D : va_G) (G : Nat → ClassId) (a : Nat → Nat) (N : Nat) (M : Nat → Nat → Int32) (v1 v2 : Int32) (r : (Int32 × (Nat → Nat → Int32))) (hV : F_X9_hold N  M v1 v2 = some r) : mM l yX9_hold (jws yX9_hold cX9_hold 3 (some .int)) ({ frames := 4, cells := 0, slots := 0, locals := 89 } : Room) [.ref (a 0), .int v1, .int v2] D G (wM a G M) (wM a G r.2) (some (.int r.1)) := by
  refine mM_of (by decide +kernel) (Nat.le_of_ble_eq_true rfl) (fun p e s m args below meth c ls A C hP hD hA hl => ?_)
  have C : Cx p s m args meth c cX9_hold 3 RX9 (some .int) D G := C
  have hS : va_S A s.heap s.heap [] := va_S.rf
  obtain ⟨hx, hb, hr, hml, hts, hown, hlocks, hK0⟩ := id C
  have hK := hK0.1
  have hl : lv_has ls 3 [(0, .ref (a 0)), (1, .int v1), (2, .int v2)] := hl
  rw [F_X9_hold] at hV
  refine lv_aload_n hx hb dX9_hold_0 rfl (lv_at hl 0 rfl) ?_
  obtain ⟨r1, hr1, hV⟩ := jBind hV
  refine jVmV C dX9_hold_1 (k_X9_begins l D G a N M  r1 hr1) jy_X9_begins jq_12_9 jq_12_10 jq_12_11 ⟨rfl, rfl, Nat.le_of_ble_eq_true rfl, Nat.le_of_ble_eq_true rfl⟩ ⟨Nat.le_of_ble_eq_true rfl, Nat.le_of_ble_eq_true rfl⟩ hP hD hA hS (ci := 11) (iw := 0) rfl rfl rfl hl (rest := []) rfl (Nat.le_of_ble_eq_true rfl) (fun H locs hQ hz hkp hS => ?_)
  have hP : va_P D vwCl (wM a G r1) H := hQ
  have hD : va_D A (wM a G r1) := jD (w := (wM a G M)) rfl hD
  refine lv_aload_n hx hb dX9_hold_4 rfl (lv_at hl 0 rfl) ?_
  refine lv_aload_n hx hb dX9_hold_5 rfl (lv_at hl 0 rfl) ?_
  refine lv_iload_n hx hb dX9_hold_6 rfl (lv_at hl 1 rfl) ?_
  refine lv_iload_n hx hb dX9_hold_7 rfl (lv_at hl 2 rfl) ?_
  obtain ⟨r2, hr2, hV⟩ := jBind hV
  refine jVmI C dX9_hold_8 (k_X9_takes l D G a N r1 v1 v2 r2 hr2) jy_X9_takes jq_38_14 jq_38_15 jq_38_16 ⟨rfl, rfl, Nat.le_of_ble_eq_true rfl, Nat.le_of_ble_eq_true rfl⟩ ⟨Nat.le_of_ble_eq_true rfl, Nat.le_of_ble_eq_true rfl⟩ hP hD hA hS (ci := 11) (iw := 0) rfl rfl rfl hl (rest := [.ref (a 0)]) rfl (Nat.le_of_ble_eq_true rfl) (fun H locs hQ hz hkp hS => ?_)
  have hP : va_P D vwCl (wM a G r2.2) H := hQ
  have hD : va_D A (wM a G r2.2) := jD (w := (wM a G r1)) rfl hD
  refine lv_iconst (v := 0) hx hb dX9_hold_11 (by decide) ?_
  refine lv_iconst (v := 0) hx hb dX9_hold_12 (by decide) ?_
  refine lv_iconst (v := 2) hx hb dX9_hold_13 (by decide) ?_
  obtain ⟨r3, hr3, hV⟩ := jBind hV
  refine jVmI C dX9_hold_14 (k_X9_ends l D G a N r2.2 r2.1 (0 : Int32) (0 : Int32) (2 : Int32) r3 hr3) jy_X9_ends jq_14_22 jq_14_23 jq_15_0 ⟨rfl, rfl, Nat.le_of_ble_eq_true rfl, Nat.le_of_ble_eq_true rfl⟩ ⟨Nat.le_of_ble_eq_true rfl, Nat.le_of_ble_eq_true rfl⟩ hP hD hA hS (ci := 11) (iw := 0) rfl rfl rfl hl (rest := []) rfl (Nat.le_of_ble_eq_true rfl) (fun H locs hQ hz hkp hS => ?_)
  have hP : va_P D vwCl (wM a G r3.2) H := hQ
  have hD : va_D A (wM a G r3.2) := jD (w := (wM a G r2.2)) rfl hD
  cases hV
  exact mRet C rfl dX9_hold_17 rfl rfl hP hS
theorem jy_X9_releases : jY yX9_releases cX9_releases 3 (some .int) 2 := ⟨by decide +kernel, jq_40_0, jq_1_5⟩
def D_X9_releases_33 (N : Nat)  (M : Nat → Nat → Int32) (v1 : Int32) (v2 : Int32) (s0 : Int32) : Option (Int32 × (Nat → Nat → Int32)) := ((F_X9_isRefused N M s0 (5 : Int32) v2).bind (fun r1 => (if r1.1 = 0 then (if inb ((135 : Int32) + v2) 2169 = true then (if inb ((135 : Int32) + v2) 2169 = true then (jlet (stA r1.2 1 ((135 : Int32) + v2) (((r1.2 1) ((135 : Int32) + v2).toNatClampNeg) &&& (((1 : Int32) <<< (v1 &&& 31)) ^^^ (-1 : Int32)))) (fun M4 => ((F_X9_serves N M4 v2).bind (fun r5 => ((F_X9_holdsAt N r5 v1).bind (fun r6 => (jlet (stF r5 6 r6) (fun M7 => (some ((0 : Int32), M7)))))))))) else none) else none) else (some ((4 : Int32), r1.2)))))
set_option maxHeartbeats 4000000 in
set_option maxRecDepth 100000 in
theorem B_X9_releases_33 {p : Program} {l : Launch} {e : Env} {s : State} {m : MethodId} {args : Array Value} {below : List Frame} {meth : Method} {c : Code} {D : va_G} {G : Nat → ClassId} {A : Nat → Prop} (C : Cx p s m args meth c cX9_releases 3 RX9 (some .int) D G) (hA : ∀ q : Nat, s.heap.size ≤ q → A q) (N : Nat) (a : Nat → Nat) (r : (Int32 × (Nat → Nat → Int32))) : (∀ (M : Nat → Nat → Int32) (v1 : Int32) (v2 : Int32) (s0 : Int32) (ls : Array Slot) (H : Heap) (locs : List Loc), va_P D vwCl (wM a G M) H → va_D A (wM a G M) → va_S A s.heap H locs → lv_has ls 3 [(0, .ref (a 0)), (1, .int v1), (2, .int v2)] → D_X9_releases_33 N   M v1 v2 s0 = some r → W p l e ({ frames := 4, cells := 0, slots := 0, locals := 88 } : Room) s m args below meth c H locs 0 0 (MQ below (mQ D (wM a G r.2) (some (.int r.1)) A) args s 0 0 A) (F0 m 33 ls [.int s0, .ref (a 0)])) := by
  have C := C
  obtain ⟨hx, hb, hr, hml, hts, hown, hlocks, hK0⟩ := id C
  have hK := hK0.1
  intro M v1 v2 s0 ls H locs hP hD hS hl hV
  rw [D_X9_releases_33] at hV
  refine lv_iconst (v := 5) hx hb dX9_releases_33 (by decide) ?_
  refine lv_iload_n hx hb dX9_releases_34 rfl (lv_at hl 2 rfl) ?_
  obtain ⟨r1, hr1, hV⟩ := jBind hV
  refine jVmI C dX9_releases_35 (k_X9_isRefused l D G a N M s0 (5 : Int32) v2 r1 hr1) jy_X9_isRefused jq_13_20 jq_13_21 jq_13_22 ⟨rfl, rfl, Nat.le_of_ble_eq_true rfl, Nat.le_of_ble_eq_true rfl⟩ ⟨Nat.le_of_ble_eq_true rfl, Nat.le_of_ble_eq_true rfl⟩ hP hD hA hS (ci := 11) (iw := 0) rfl rfl rfl hl (rest := []) rfl (Nat.le_of_ble_eq_true rfl) (fun H locs hQ hz hkp hS => ?_)
  have hP : va_P D vwCl (wM a G r1.2) H := hQ
  have hD : va_D A (wM a G r1.2) := jD (w := (wM a G M)) rfl hD
  refine lv_if_eq (tgt := 43) hx hb dX9_releases_38 (by decide) (fun c10 => ?_) (fun c10 => ?_)
  · have hV := jT1 hV c10
    refine lv_aload_n hx hb dX9_releases_43 rfl (lv_at hl 0 rfl) ?_
    refine va_get (D := D) (ci := 11) (v := .ref (a 1)) (C := RX9) (T := TX9) (N := 16) hx hb hts ju_X9 hown hK hP 0 rfl rfl 1 (by decide) (hts _ jq_6_1) (fun _ h9 => h9) rfl dX9_releases_44 ?_
    refine lv_sipush (v := 135) hx hb dX9_releases_47 (by decide) ?_
    refine lv_iload_n hx hb dX9_releases_50 rfl (lv_at hl 2 rfl) ?_
    refine lv_iadd hx hb dX9_releases_51 ?_
    refine lv_dup2_11 hx hb dX9_releases_52 rfl rfl ?_
    obtain ⟨g2, hV⟩ := jIf hV
    refine va_iald (D := D) (n := 2169) (f := (r1.2 1)) hx hb hK hP 1 0 rfl rfl (inb_of g2) dX9_releases_53 ?_
    refine lv_iconst (v := 1) hx hb dX9_releases_54 (by decide) ?_
    refine lv_iload_n hx hb dX9_releases_55 rfl (lv_at hl 1 rfl) ?_
    refine lv_ishl hx hb dX9_releases_56 ?_
    refine lv_iconst (v := -1) hx hb dX9_releases_57 (by decide) ?_
    refine lv_ixor hx hb dX9_releases_58 ?_
    refine lv_iand hx hb dX9_releases_59 ?_
    obtain ⟨g3, hV⟩ := jIf hV
    refine va_iast (D := D) (n := 2169) (f := (r1.2 1)) hx hb hK hP hD hS 1 0 rfl rfl (inb_of g3) dX9_releases_60 (fun H locs hP hD hS => ?_)
    obtain ⟨M4, e9, hV⟩ := jLet hV
    have hP : va_P D vwCl (wM a G M4) H := by rw [e9]; exact hP
    have hD : va_D A (wM a G M4) := by rw [e9]; exact hD
    refine lv_aload_n hx hb dX9_releases_61 rfl (lv_at hl 0 rfl) ?_
    refine lv_iload_n hx hb dX9_releases_62 rfl (lv_at hl 2 rfl) ?_
    obtain ⟨r5, hr5, hV⟩ := jBind hV
    refine jVmV C dX9_releases_63 (k_X9_serves l D G a N M4 v2 r5 hr5) jy_X9_serves jq_14_2 jq_14_3 jq_14_4 ⟨rfl, rfl, Nat.le_of_ble_eq_true rfl, Nat.le_of_ble_eq_true rfl⟩ ⟨Nat.le_of_ble_eq_true rfl, Nat.le_of_ble_eq_true rfl⟩ hP hD hA hS (ci := 11) (iw := 0) rfl rfl rfl hl (rest := []) rfl (Nat.le_of_ble_eq_true rfl) (fun H locs hQ hz hkp hS => ?_)
    have hP : va_P D vwCl (wM a G r5) H := hQ
    have hD : va_D A (wM a G r5) := jD (w := (wM a G M4)) rfl hD
    refine lv_aload_n hx hb dX9_releases_66 rfl (lv_at hl 0 rfl) ?_
    refine lv_aload_n hx hb dX9_releases_67 rfl (lv_at hl 0 rfl) ?_
    refine lv_iload_n hx hb dX9_releases_68 rfl (lv_at hl 1 rfl) ?_
    obtain ⟨r6, hr6, hV⟩ := jBind hV
    refine jVpI C dX9_releases_69 (k_X9_holdsAt l D G a N r5 v1 r6 hr6) jy_X9_holdsAt jq_38_22 jq_38_23 jq_39_0 ⟨rfl, rfl, Nat.le_of_ble_eq_true rfl, Nat.le_of_ble_eq_true rfl⟩ ⟨Nat.le_of_ble_eq_true rfl, Nat.le_of_ble_eq_true rfl⟩ hP  (ci := 11) (iw := 0) rfl rfl rfl hl (rest := [.ref (a 0)]) rfl (Nat.le_of_ble_eq_true rfl) ?_
    refine va_put (D := D) (ci := 11) (v := .int r6) (ty := .int) (C := RX9) (T := TX9) (N := 16) hx hb hts ju_X9 tyX9 tyX9_ok nmX9 hown hK hP hD hS 0 rfl rfl 6 (by decide) (hts _ jq_12_21) (fun _ h9 => h9) rfl (by decide +kernel) rfl rfl (Nat.le_of_ble_eq_true rfl) dX9_releases_72 (fun H locs hP hD hS => ?_)
    obtain ⟨M7, e8, hV⟩ := jLet hV
    have hP : va_P D vwCl (wM a G M7) H := by rw [e8]; exact hP
    have hD : va_D A (wM a G M7) := by rw [e8]; exact hD
    refine lv_iconst (v := 0) hx hb dX9_releases_75 (by decide) ?_
    cases hV
    exact mRet C rfl dX9_releases_76 rfl rfl hP hS
  · have hV := jF1 hV c10
    refine lv_iconst (v := 4) hx hb dX9_releases_41 (by decide) ?_
    cases hV
    exact mRet C rfl dX9_releases_42 rfl rfl hP hS
def F_X9_releases (N : Nat)  (M : Nat → Nat → Int32) (v1 v2 : Int32) : Option (Int32 × (Nat → Nat → Int32)) := ((F_X9_isSubscription N M v1).bind (fun r11 => (if r11 = 0 then (some ((1 : Int32), M)) else ((F_X9_isPerformance N M v2).bind (fun r12 => (if r12 = 0 then (some ((1 : Int32), M)) else ((F_X9_holds N M v1 v2).bind (fun r13 => (if r13 = 0 then (D_X9_releases_33 N   M v1 v2 (1 : Int32)) else (D_X9_releases_33 N   M v1 v2 (0 : Int32)))))))))))
set_option maxHeartbeats 4000000 in
set_option maxRecDepth 100000 in
theorem k_X9_releases (l : Launch) (D : va_G) (G : Nat → ClassId) (a : Nat → Nat) (N : Nat) (M : Nat → Nat → Int32) (v1 v2 : Int32) (r : (Int32 × (Nat → Nat → Int32))) (hV : F_X9_releases N  M v1 v2 = some r) : mM l yX9_releases (jws yX9_releases cX9_releases 3 (some .int)) ({ frames := 4, cells := 0, slots := 0, locals := 88 } : Room) [.ref (a 0), .int v1, .int v2] D G (wM a G M) (wM a G r.2) (some (.int r.1)) := by
  refine mM_of (by decide +kernel) (Nat.le_of_ble_eq_true rfl) (fun p e s m args below meth c ls A C hP hD hA hl => ?_)
  have C : Cx p s m args meth c cX9_releases 3 RX9 (some .int) D G := C
  have hS : va_S A s.heap s.heap [] := va_S.rf
  obtain ⟨hx, hb, hr, hml, hts, hown, hlocks, hK0⟩ := id C
  have hK := hK0.1
  have hl : lv_has ls 3 [(0, .ref (a 0)), (1, .int v1), (2, .int v2)] := hl
  rw [F_X9_releases] at hV
  refine lv_aload_n hx hb dX9_releases_0 rfl (lv_at hl 0 rfl) ?_
  refine lv_iload_n hx hb dX9_releases_1 rfl (lv_at hl 1 rfl) ?_
  obtain ⟨r11, hr11, hV⟩ := jBind hV
  refine jVpI C dX9_releases_2 (k_X9_isSubscription l D G a N M v1 r11 hr11) jy_X9_isSubscription jq_38_18 jq_38_19 jq_38_20 ⟨rfl, rfl, Nat.le_of_ble_eq_true rfl, Nat.le_of_ble_eq_true rfl⟩ ⟨Nat.le_of_ble_eq_true rfl, Nat.le_of_ble_eq_true rfl⟩ hP  (ci := 11) (iw := 0) rfl rfl rfl hl (rest := []) rfl (Nat.le_of_ble_eq_true rfl) ?_
  refine lv_if_eq (tgt := 16) hx hb dX9_releases_5 (by decide) (fun c16 => ?_) (fun c16 => ?_)
  · have hV := jT1 hV c16
    refine lv_iconst (v := 1) hx hb dX9_releases_16 (by decide) ?_
    cases hV
    exact mRet C rfl dX9_releases_17 rfl rfl hP hS
  · have hV := jF1 hV c16
    refine lv_aload_n hx hb dX9_releases_8 rfl (lv_at hl 0 rfl) ?_
    refine lv_iload_n hx hb dX9_releases_9 rfl (lv_at hl 2 rfl) ?_
    obtain ⟨r12, hr12, hV⟩ := jBind hV
    refine jVpI C dX9_releases_10 (k_X9_isPerformance l D G a N M v2 r12 hr12) jy_X9_isPerformance jq_26_1 jq_26_2 jq_26_3 ⟨rfl, rfl, Nat.le_of_ble_eq_true rfl, Nat.le_of_ble_eq_true rfl⟩ ⟨Nat.le_of_ble_eq_true rfl, Nat.le_of_ble_eq_true rfl⟩ hP  (ci := 11) (iw := 0) rfl rfl rfl hl (rest := []) rfl (Nat.le_of_ble_eq_true rfl) ?_
    refine lv_if_ne (tgt := 18) hx hb dX9_releases_13 (by decide) (fun c15 => ?_) (fun c15 => ?_)
    · have hV := jF1 hV c15
      refine lv_aload_n hx hb dX9_releases_18 rfl (lv_at hl 0 rfl) ?_
      refine lv_aload_n hx hb dX9_releases_19 rfl (lv_at hl 0 rfl) ?_
      refine lv_iload_n hx hb dX9_releases_20 rfl (lv_at hl 1 rfl) ?_
      refine lv_iload_n hx hb dX9_releases_21 rfl (lv_at hl 2 rfl) ?_
      obtain ⟨r13, hr13, hV⟩ := jBind hV
      refine jVpI C dX9_releases_22 (k_X9_holds l D G a N M v1 v2 r13 hr13) jy_X9_holds jq_13_12 jq_13_13 jq_13_14 ⟨rfl, rfl, Nat.le_of_ble_eq_true rfl, Nat.le_of_ble_eq_true rfl⟩ ⟨Nat.le_of_ble_eq_true rfl, Nat.le_of_ble_eq_true rfl⟩ hP  (ci := 11) (iw := 0) rfl rfl rfl hl (rest := [.ref (a 0)]) rfl (Nat.le_of_ble_eq_true rfl) ?_
      refine lv_if_ne (tgt := 32) hx hb dX9_releases_25 (by decide) (fun c14 => ?_) (fun c14 => ?_)
      · have hV := jF1 hV c14
        refine lv_iconst (v := 0) hx hb dX9_releases_32 (by decide) ?_
        exact B_X9_releases_33 C hA N a r   M v1 v2 (0 : Int32) _ _ _ hP hD hS (lv_sub hl [0, 1, 2] rfl) hV
      · have hV := jT1 hV c14
        refine lv_iconst (v := 1) hx hb dX9_releases_28 (by decide) ?_
        refine lv_goto (tgt := 33) hx hb dX9_releases_29 (by decide) ?_
        exact B_X9_releases_33 C hA N a r   M v1 v2 (1 : Int32) _ _ _ hP hD hS (lv_sub hl [0, 1, 2] rfl) hV
    · have hV := jT1 hV c15
      refine lv_iconst (v := 1) hx hb dX9_releases_16 (by decide) ?_
      cases hV
      exact mRet C rfl dX9_releases_17 rfl rfl hP hS
theorem jy_X9_release : jY yX9_release cX9_release 3 (some .int) 2 := ⟨by decide +kernel, jq_39_20, jq_1_5⟩
def F_X9_release (N : Nat)  (M : Nat → Nat → Int32) (v1 v2 : Int32) : Option (Int32 × (Nat → Nat → Int32)) := ((F_X9_begins N M ).bind (fun r1 => ((F_X9_releases N r1 v1 v2).bind (fun r2 => ((F_X9_ends N r2.2 r2.1 (0 : Int32) (0 : Int32) (2 : Int32)).bind (fun r3 => (some (r3.1, r3.2))))))))
set_option maxHeartbeats 4000000 in
set_option maxRecDepth 100000 in
theorem k_X9_release (l : Launch) (D : va_G) (G : Nat → ClassId) (a : Nat → Nat) (N : Nat) (M : Nat → Nat → Int32) (v1 v2 : Int32) (r : (Int32 × (Nat → Nat → Int32))) (hV : F_X9_release N  M v1 v2 = some r) : mM l yX9_release (jws yX9_release cX9_release 3 (some .int)) ({ frames := 5, cells := 0, slots := 0, locals := 110 } : Room) [.ref (a 0), .int v1, .int v2] D G (wM a G M) (wM a G r.2) (some (.int r.1)) := by
  refine mM_of (by decide +kernel) (Nat.le_of_ble_eq_true rfl) (fun p e s m args below meth c ls A C hP hD hA hl => ?_)
  have C : Cx p s m args meth c cX9_release 3 RX9 (some .int) D G := C
  have hS : va_S A s.heap s.heap [] := va_S.rf
  obtain ⟨hx, hb, hr, hml, hts, hown, hlocks, hK0⟩ := id C
  have hK := hK0.1
  have hl : lv_has ls 3 [(0, .ref (a 0)), (1, .int v1), (2, .int v2)] := hl
  rw [F_X9_release] at hV
  refine lv_aload_n hx hb dX9_release_0 rfl (lv_at hl 0 rfl) ?_
  obtain ⟨r1, hr1, hV⟩ := jBind hV
  refine jVmV C dX9_release_1 (k_X9_begins l D G a N M  r1 hr1) jy_X9_begins jq_12_9 jq_12_10 jq_12_11 ⟨rfl, rfl, Nat.le_of_ble_eq_true rfl, Nat.le_of_ble_eq_true rfl⟩ ⟨Nat.le_of_ble_eq_true rfl, Nat.le_of_ble_eq_true rfl⟩ hP hD hA hS (ci := 11) (iw := 0) rfl rfl rfl hl (rest := []) rfl (Nat.le_of_ble_eq_true rfl) (fun H locs hQ hz hkp hS => ?_)
  have hP : va_P D vwCl (wM a G r1) H := hQ
  have hD : va_D A (wM a G r1) := jD (w := (wM a G M)) rfl hD
  refine lv_aload_n hx hb dX9_release_4 rfl (lv_at hl 0 rfl) ?_
  refine lv_aload_n hx hb dX9_release_5 rfl (lv_at hl 0 rfl) ?_
  refine lv_iload_n hx hb dX9_release_6 rfl (lv_at hl 1 rfl) ?_
  refine lv_iload_n hx hb dX9_release_7 rfl (lv_at hl 2 rfl) ?_
  obtain ⟨r2, hr2, hV⟩ := jBind hV
  refine jVmI C dX9_release_8 (k_X9_releases l D G a N r1 v1 v2 r2 hr2) jy_X9_releases jq_39_21 jq_39_22 jq_39_23 ⟨rfl, rfl, Nat.le_of_ble_eq_true rfl, Nat.le_of_ble_eq_true rfl⟩ ⟨Nat.le_of_ble_eq_true rfl, Nat.le_of_ble_eq_true rfl⟩ hP hD hA hS (ci := 11) (iw := 0) rfl rfl rfl hl (rest := [.ref (a 0)]) rfl (Nat.le_of_ble_eq_true rfl) (fun H locs hQ hz hkp hS => ?_)
  have hP : va_P D vwCl (wM a G r2.2) H := hQ
  have hD : va_D A (wM a G r2.2) := jD (w := (wM a G r1)) rfl hD
  refine lv_iconst (v := 0) hx hb dX9_release_11 (by decide) ?_
  refine lv_iconst (v := 0) hx hb dX9_release_12 (by decide) ?_
  refine lv_iconst (v := 2) hx hb dX9_release_13 (by decide) ?_
  obtain ⟨r3, hr3, hV⟩ := jBind hV
  refine jVmI C dX9_release_14 (k_X9_ends l D G a N r2.2 r2.1 (0 : Int32) (0 : Int32) (2 : Int32) r3 hr3) jy_X9_ends jq_14_22 jq_14_23 jq_15_0 ⟨rfl, rfl, Nat.le_of_ble_eq_true rfl, Nat.le_of_ble_eq_true rfl⟩ ⟨Nat.le_of_ble_eq_true rfl, Nat.le_of_ble_eq_true rfl⟩ hP hD hA hS (ci := 11) (iw := 0) rfl rfl rfl hl (rest := []) rfl (Nat.le_of_ble_eq_true rfl) (fun H locs hQ hz hkp hS => ?_)
  have hP : va_P D vwCl (wM a G r3.2) H := hQ
  have hD : va_D A (wM a G r3.2) := jD (w := (wM a G r2.2)) rfl hD
  cases hV
  exact mRet C rfl dX9_release_17 rfl rfl hP hS
theorem jy_X9_exchanges : jY yX9_exchanges cX9_exchanges 5 (some .int) 3 := ⟨by decide +kernel, jq_40_23, jq_1_5⟩
def D_X9_exchanges_117 (N : Nat)  (M : Nat → Nat → Int32) (v1 : Int32) (v2 : Int32) (v3 : Int32) (v4 : Int32) (s0 : Int32) : Option (Int32 × (Nat → Nat → Int32)) := ((F_X9_isRefused N M s0 (4 : Int32) v4).bind (fun r1 => (if r1.1 = 0 then (if inb ((135 : Int32) + v2) 2169 = true then (if inb ((135 : Int32) + v2) 2169 = true then (jlet (stA r1.2 1 ((135 : Int32) + v2) (((r1.2 1) ((135 : Int32) + v2).toNatClampNeg) &&& (((1 : Int32) <<< (v1 &&& 31)) ^^^ (-1 : Int32)))) (fun M4 => (if inb ((135 : Int32) + v3) 2169 = true then (if inb ((135 : Int32) + v3) 2169 = true then (jlet (stA M4 1 ((135 : Int32) + v3) (((M4 1) ((135 : Int32) + v3).toNatClampNeg) ||| ((1 : Int32) <<< (v1 &&& 31)))) (fun M7 => (if inb (((160 : Int32) + ((2 : Int32) * v1)) + (1 : Int32)) 2169 = true then (if inb (((160 : Int32) + ((2 : Int32) * v1)) + (1 : Int32)) 2169 = true then (jlet (stA M7 1 (((160 : Int32) + ((2 : Int32) * v1)) + (1 : Int32)) (((M7 1) (((160 : Int32) + ((2 : Int32) * v1)) + (1 : Int32)).toNatClampNeg) + (1 : Int32))) (fun M10 => ((F_X9_serves N M10 v2).bind (fun r11 => ((F_X9_u N r11 v1 (1 : Int32)).bind (fun r12 => (jlet (stF r11 6 r12) (fun M13 => (some ((0 : Int32), M13)))))))))) else none) else none))) else none) else none))) else none) else none) else (some ((4 : Int32), r1.2)))))
set_option maxHeartbeats 4000000 in
set_option maxRecDepth 100000 in
theorem B_X9_exchanges_117 {p : Program} {l : Launch} {e : Env} {s : State} {m : MethodId} {args : Array Value} {below : List Frame} {meth : Method} {c : Code} {D : va_G} {G : Nat → ClassId} {A : Nat → Prop} (C : Cx p s m args meth c cX9_exchanges 5 RX9 (some .int) D G) (hA : ∀ q : Nat, s.heap.size ≤ q → A q) (N : Nat) (a : Nat → Nat) (r : (Int32 × (Nat → Nat → Int32))) : (∀ (M : Nat → Nat → Int32) (v1 : Int32) (v2 : Int32) (v3 : Int32) (v4 : Int32) (s0 : Int32) (ls : Array Slot) (H : Heap) (locs : List Loc), va_P D vwCl (wM a G M) H → va_D A (wM a G M) → va_S A s.heap H locs → lv_has ls 5 [(0, .ref (a 0)), (1, .int v1), (2, .int v2), (3, .int v3), (4, .int v4)] → D_X9_exchanges_117 N   M v1 v2 v3 v4 s0 = some r → W p l e ({ frames := 4, cells := 0, slots := 0, locals := 88 } : Room) s m args below meth c H locs 0 0 (MQ below (mQ D (wM a G r.2) (some (.int r.1)) A) args s 0 0 A) (F0 m 117 ls [.int s0, .ref (a 0)])) := by
  have C := C
  obtain ⟨hx, hb, hr, hml, hts, hown, hlocks, hK0⟩ := id C
  have hK := hK0.1
  intro M v1 v2 v3 v4 s0 ls H locs hP hD hS hl hV
  rw [D_X9_exchanges_117] at hV
  refine lv_iconst (v := 4) hx hb dX9_exchanges_117 (by decide) ?_
  refine lv_iload hx hb dX9_exchanges_118 (lv_at hl 4 rfl) ?_
  obtain ⟨r1, hr1, hV⟩ := jBind hV
  refine jVmI C dX9_exchanges_120 (k_X9_isRefused l D G a N M s0 (4 : Int32) v4 r1 hr1) jy_X9_isRefused jq_13_20 jq_13_21 jq_13_22 ⟨rfl, rfl, Nat.le_of_ble_eq_true rfl, Nat.le_of_ble_eq_true rfl⟩ ⟨Nat.le_of_ble_eq_true rfl, Nat.le_of_ble_eq_true rfl⟩ hP hD hA hS (ci := 11) (iw := 0) rfl rfl rfl hl (rest := []) rfl (Nat.le_of_ble_eq_true rfl) (fun H locs hQ hz hkp hS => ?_)
  have hP : va_P D vwCl (wM a G r1.2) H := hQ
  have hD : va_D A (wM a G r1.2) := jD (w := (wM a G M)) rfl hD
  refine lv_if_eq (tgt := 128) hx hb dX9_exchanges_123 (by decide) (fun c18 => ?_) (fun c18 => ?_)
  · have hV := jT1 hV c18
    refine lv_aload_n hx hb dX9_exchanges_128 rfl (lv_at hl 0 rfl) ?_
    refine va_get (D := D) (ci := 11) (v := .ref (a 1)) (C := RX9) (T := TX9) (N := 16) hx hb hts ju_X9 hown hK hP 0 rfl rfl 1 (by decide) (hts _ jq_6_1) (fun _ h9 => h9) rfl dX9_exchanges_129 ?_
    refine lv_sipush (v := 135) hx hb dX9_exchanges_132 (by decide) ?_
    refine lv_iload_n hx hb dX9_exchanges_135 rfl (lv_at hl 2 rfl) ?_
    refine lv_iadd hx hb dX9_exchanges_136 ?_
    refine lv_dup2_11 hx hb dX9_exchanges_137 rfl rfl ?_
    obtain ⟨g2, hV⟩ := jIf hV
    refine va_iald (D := D) (n := 2169) (f := (r1.2 1)) hx hb hK hP 1 0 rfl rfl (inb_of g2) dX9_exchanges_138 ?_
    refine lv_iconst (v := 1) hx hb dX9_exchanges_139 (by decide) ?_
    refine lv_iload_n hx hb dX9_exchanges_140 rfl (lv_at hl 1 rfl) ?_
    refine lv_ishl hx hb dX9_exchanges_141 ?_
    refine lv_iconst (v := -1) hx hb dX9_exchanges_142 (by decide) ?_
    refine lv_ixor hx hb dX9_exchanges_143 ?_
    refine lv_iand hx hb dX9_exchanges_144 ?_
    obtain ⟨g3, hV⟩ := jIf hV
    refine va_iast (D := D) (n := 2169) (f := (r1.2 1)) hx hb hK hP hD hS 1 0 rfl rfl (inb_of g3) dX9_exchanges_145 (fun H locs hP hD hS => ?_)
    obtain ⟨M4, e17, hV⟩ := jLet hV
    have hP : va_P D vwCl (wM a G M4) H := by rw [e17]; exact hP
    have hD : va_D A (wM a G M4) := by rw [e17]; exact hD
    refine lv_aload_n hx hb dX9_exchanges_146 rfl (lv_at hl 0 rfl) ?_
    refine va_get (D := D) (ci := 11) (v := .ref (a 1)) (C := RX9) (T := TX9) (N := 16) hx hb hts ju_X9 hown hK hP 0 rfl rfl 1 (by decide) (hts _ jq_6_1) (fun _ h9 => h9) rfl dX9_exchanges_147 ?_
    refine lv_sipush (v := 135) hx hb dX9_exchanges_150 (by decide) ?_
    refine lv_iload_n hx hb dX9_exchanges_153 rfl (lv_at hl 3 rfl) ?_
    refine lv_iadd hx hb dX9_exchanges_154 ?_
    refine lv_dup2_11 hx hb dX9_exchanges_155 rfl rfl ?_
    obtain ⟨g5, hV⟩ := jIf hV
    refine va_iald (D := D) (n := 2169) (f := (M4 1)) hx hb hK hP 1 0 rfl rfl (inb_of g5) dX9_exchanges_156 ?_
    refine lv_iconst (v := 1) hx hb dX9_exchanges_157 (by decide) ?_
    refine lv_iload_n hx hb dX9_exchanges_158 rfl (lv_at hl 1 rfl) ?_
    refine lv_ishl hx hb dX9_exchanges_159 ?_
    refine lv_ior hx hb dX9_exchanges_160 ?_
    obtain ⟨g6, hV⟩ := jIf hV
    refine va_iast (D := D) (n := 2169) (f := (M4 1)) hx hb hK hP hD hS 1 0 rfl rfl (inb_of g6) dX9_exchanges_161 (fun H locs hP hD hS => ?_)
    obtain ⟨M7, e16, hV⟩ := jLet hV
    have hP : va_P D vwCl (wM a G M7) H := by rw [e16]; exact hP
    have hD : va_D A (wM a G M7) := by rw [e16]; exact hD
    refine lv_aload_n hx hb dX9_exchanges_162 rfl (lv_at hl 0 rfl) ?_
    refine va_get (D := D) (ci := 11) (v := .ref (a 1)) (C := RX9) (T := TX9) (N := 16) hx hb hts ju_X9 hown hK hP 0 rfl rfl 1 (by decide) (hts _ jq_6_1) (fun _ h9 => h9) rfl dX9_exchanges_163 ?_
    refine lv_sipush (v := 160) hx hb dX9_exchanges_166 (by decide) ?_
    refine lv_iconst (v := 2) hx hb dX9_exchanges_169 (by decide) ?_
    refine lv_iload_n hx hb dX9_exchanges_170 rfl (lv_at hl 1 rfl) ?_
    refine lv_imul hx hb dX9_exchanges_171 ?_
    refine lv_iadd hx hb dX9_exchanges_172 ?_
    refine lv_iconst (v := 1) hx hb dX9_exchanges_173 (by decide) ?_
    refine lv_iadd hx hb dX9_exchanges_174 ?_
    refine lv_dup2_11 hx hb dX9_exchanges_175 rfl rfl ?_
    obtain ⟨g8, hV⟩ := jIf hV
    refine va_iald (D := D) (n := 2169) (f := (M7 1)) hx hb hK hP 1 0 rfl rfl (inb_of g8) dX9_exchanges_176 ?_
    refine lv_iconst (v := 1) hx hb dX9_exchanges_177 (by decide) ?_
    refine lv_iadd hx hb dX9_exchanges_178 ?_
    obtain ⟨g9, hV⟩ := jIf hV
    refine va_iast (D := D) (n := 2169) (f := (M7 1)) hx hb hK hP hD hS 1 0 rfl rfl (inb_of g9) dX9_exchanges_179 (fun H locs hP hD hS => ?_)
    obtain ⟨M10, e15, hV⟩ := jLet hV
    have hP : va_P D vwCl (wM a G M10) H := by rw [e15]; exact hP
    have hD : va_D A (wM a G M10) := by rw [e15]; exact hD
    refine lv_aload_n hx hb dX9_exchanges_180 rfl (lv_at hl 0 rfl) ?_
    refine lv_iload_n hx hb dX9_exchanges_181 rfl (lv_at hl 2 rfl) ?_
    obtain ⟨r11, hr11, hV⟩ := jBind hV
    refine jVmV C dX9_exchanges_182 (k_X9_serves l D G a N M10 v2 r11 hr11) jy_X9_serves jq_14_2 jq_14_3 jq_14_4 ⟨rfl, rfl, Nat.le_of_ble_eq_true rfl, Nat.le_of_ble_eq_true rfl⟩ ⟨Nat.le_of_ble_eq_true rfl, Nat.le_of_ble_eq_true rfl⟩ hP hD hA hS (ci := 11) (iw := 0) rfl rfl rfl hl (rest := []) rfl (Nat.le_of_ble_eq_true rfl) (fun H locs hQ hz hkp hS => ?_)
    have hP : va_P D vwCl (wM a G r11) H := hQ
    have hD : va_D A (wM a G r11) := jD (w := (wM a G M10)) rfl hD
    refine lv_aload_n hx hb dX9_exchanges_185 rfl (lv_at hl 0 rfl) ?_
    refine lv_aload_n hx hb dX9_exchanges_186 rfl (lv_at hl 0 rfl) ?_
    refine lv_iload_n hx hb dX9_exchanges_187 rfl (lv_at hl 1 rfl) ?_
    refine lv_iconst (v := 1) hx hb dX9_exchanges_188 (by decide) ?_
    obtain ⟨r12, hr12, hV⟩ := jBind hV
    refine jVpI C dX9_exchanges_189 (k_X9_u l D G a N r11 v1 (1 : Int32) r12 hr12) jy_X9_u jq_13_16 jq_13_17 jq_13_18 ⟨rfl, rfl, Nat.le_of_ble_eq_true rfl, Nat.le_of_ble_eq_true rfl⟩ ⟨Nat.le_of_ble_eq_true rfl, Nat.le_of_ble_eq_true rfl⟩ hP  (ci := 11) (iw := 0) rfl rfl rfl hl (rest := [.ref (a 0)]) rfl (Nat.le_of_ble_eq_true rfl) ?_
    refine va_put (D := D) (ci := 11) (v := .int r12) (ty := .int) (C := RX9) (T := TX9) (N := 16) hx hb hts ju_X9 tyX9 tyX9_ok nmX9 hown hK hP hD hS 0 rfl rfl 6 (by decide) (hts _ jq_12_21) (fun _ h9 => h9) rfl (by decide +kernel) rfl rfl (Nat.le_of_ble_eq_true rfl) dX9_exchanges_192 (fun H locs hP hD hS => ?_)
    obtain ⟨M13, e14, hV⟩ := jLet hV
    have hP : va_P D vwCl (wM a G M13) H := by rw [e14]; exact hP
    have hD : va_D A (wM a G M13) := by rw [e14]; exact hD
    refine lv_iconst (v := 0) hx hb dX9_exchanges_195 (by decide) ?_
    cases hV
    exact mRet C rfl dX9_exchanges_196 rfl rfl hP hS
  · have hV := jF1 hV c18
    refine lv_iconst (v := 4) hx hb dX9_exchanges_126 (by decide) ?_
    cases hV
    exact mRet C rfl dX9_exchanges_127 rfl rfl hP hS
def D_X9_exchanges_82 (N : Nat)  (M : Nat → Nat → Int32) (v1 : Int32) (v2 : Int32) (v3 : Int32) (s0 : Int32) : Option (Int32 × (Nat → Nat → Int32)) := ((F_X9_isRefused N M s0 (6 : Int32) (2 : Int32)).bind (fun r19 => (if r19.1 = 0 then ((F_X9_freeAt N r19.2 v3).bind (fun r20 => ((F_X9_u N r19.2 v1 (0 : Int32)).bind (fun r21 => (if r21 ≤ r20 then (D_X9_exchanges_117 N   r19.2 v1 v2 v3 r20 (0 : Int32)) else (D_X9_exchanges_117 N   r19.2 v1 v2 v3 r20 (1 : Int32))))))) else (some ((4 : Int32), r19.2)))))
set_option maxHeartbeats 4000000 in
set_option maxRecDepth 100000 in
theorem B_X9_exchanges_82 {p : Program} {l : Launch} {e : Env} {s : State} {m : MethodId} {args : Array Value} {below : List Frame} {meth : Method} {c : Code} {D : va_G} {G : Nat → ClassId} {A : Nat → Prop} (C : Cx p s m args meth c cX9_exchanges 5 RX9 (some .int) D G) (hA : ∀ q : Nat, s.heap.size ≤ q → A q) (N : Nat) (a : Nat → Nat) (r : (Int32 × (Nat → Nat → Int32))) : (∀ (M : Nat → Nat → Int32) (v1 : Int32) (v2 : Int32) (v3 : Int32) (s0 : Int32) (ls : Array Slot) (H : Heap) (locs : List Loc), va_P D vwCl (wM a G M) H → va_D A (wM a G M) → va_S A s.heap H locs → lv_has ls 5 [(0, .ref (a 0)), (1, .int v1), (2, .int v2), (3, .int v3)] → D_X9_exchanges_82 N   M v1 v2 v3 s0 = some r → W p l e ({ frames := 4, cells := 0, slots := 0, locals := 88 } : Room) s m args below meth c H locs 0 0 (MQ below (mQ D (wM a G r.2) (some (.int r.1)) A) args s 0 0 A) (F0 m 82 ls [.int s0, .ref (a 0)])) := by
  have C := C
  obtain ⟨hx, hb, hr, hml, hts, hown, hlocks, hK0⟩ := id C
  have hK := hK0.1
  intro M v1 v2 v3 s0 ls H locs hP hD hS hl hV
  rw [D_X9_exchanges_82] at hV
  refine lv_bipush (v := 6) hx hb dX9_exchanges_82 (by decide) ?_
  refine lv_iconst (v := 2) hx hb dX9_exchanges_84 (by decide) ?_
  obtain ⟨r19, hr19, hV⟩ := jBind hV
  refine jVmI C dX9_exchanges_85 (k_X9_isRefused l D G a N M s0 (6 : Int32) (2 : Int32) r19 hr19) jy_X9_isRefused jq_13_20 jq_13_21 jq_13_22 ⟨rfl, rfl, Nat.le_of_ble_eq_true rfl, Nat.le_of_ble_eq_true rfl⟩ ⟨Nat.le_of_ble_eq_true rfl, Nat.le_of_ble_eq_true rfl⟩ hP hD hA hS (ci := 11) (iw := 0) rfl rfl rfl hl (rest := []) rfl (Nat.le_of_ble_eq_true rfl) (fun H locs hQ hz hkp hS => ?_)
  have hP : va_P D vwCl (wM a G r19.2) H := hQ
  have hD : va_D A (wM a G r19.2) := jD (w := (wM a G M)) rfl hD
  refine lv_if_eq (tgt := 93) hx hb dX9_exchanges_88 (by decide) (fun c23 => ?_) (fun c23 => ?_)
  · have hV := jT1 hV c23
    refine lv_aload_n hx hb dX9_exchanges_93 rfl (lv_at hl 0 rfl) ?_
    refine lv_iload_n hx hb dX9_exchanges_94 rfl (lv_at hl 3 rfl) ?_
    obtain ⟨r20, hr20, hV⟩ := jBind hV
    refine jVpI C dX9_exchanges_95 (k_X9_freeAt l D G a N r19.2 v3 r20 hr20) jy_X9_freeAt jq_14_14 jq_14_15 jq_14_16 ⟨rfl, rfl, Nat.le_of_ble_eq_true rfl, Nat.le_of_ble_eq_true rfl⟩ ⟨Nat.le_of_ble_eq_true rfl, Nat.le_of_ble_eq_true rfl⟩ hP  (ci := 11) (iw := 0) rfl rfl rfl hl (rest := []) rfl (Nat.le_of_ble_eq_true rfl) ?_
    refine lv_istore (lv' := [(4, .int r20), (0, .ref (a 0)), (1, .int v1), (2, .int v2), (3, .int v3)]) hx hb dX9_exchanges_98 hl (by decide) rfl (fun ls hl => ?_)
    refine lv_aload_n hx hb dX9_exchanges_100 rfl (lv_at hl 1 rfl) ?_
    refine lv_iload hx hb dX9_exchanges_101 (lv_at hl 0 rfl) ?_
    refine lv_aload_n hx hb dX9_exchanges_103 rfl (lv_at hl 1 rfl) ?_
    refine lv_iload_n hx hb dX9_exchanges_104 rfl (lv_at hl 2 rfl) ?_
    refine lv_iconst (v := 0) hx hb dX9_exchanges_105 (by decide) ?_
    obtain ⟨r21, hr21, hV⟩ := jBind hV
    refine jVpI C dX9_exchanges_106 (k_X9_u l D G a N r19.2 v1 (0 : Int32) r21 hr21) jy_X9_u jq_13_16 jq_13_17 jq_13_18 ⟨rfl, rfl, Nat.le_of_ble_eq_true rfl, Nat.le_of_ble_eq_true rfl⟩ ⟨Nat.le_of_ble_eq_true rfl, Nat.le_of_ble_eq_true rfl⟩ hP  (ci := 11) (iw := 0) rfl rfl rfl hl (rest := [.int r20, .ref (a 0)]) rfl (Nat.le_of_ble_eq_true rfl) ?_
    refine lv_icmp_ge (tgt := 116) hx hb dX9_exchanges_109 (by decide) (fun c22 => ?_) (fun c22 => ?_)
    · have hV := jT1 hV c22
      refine lv_iconst (v := 0) hx hb dX9_exchanges_116 (by decide) ?_
      exact B_X9_exchanges_117 C hA N a r   r19.2 v1 v2 v3 r20 (0 : Int32) _ _ _ hP hD hS (lv_sub hl [1, 2, 3, 4, 0] rfl) hV
    · have hV := jF1 hV c22
      refine lv_iconst (v := 1) hx hb dX9_exchanges_112 (by decide) ?_
      refine lv_goto (tgt := 117) hx hb dX9_exchanges_113 (by decide) ?_
      exact B_X9_exchanges_117 C hA N a r   r19.2 v1 v2 v3 r20 (1 : Int32) _ _ _ hP hD hS (lv_sub hl [1, 2, 3, 4, 0] rfl) hV
  · have hV := jF1 hV c23
    refine lv_iconst (v := 4) hx hb dX9_exchanges_91 (by decide) ?_
    cases hV
    exact mRet C rfl dX9_exchanges_92 rfl rfl hP hS
def D_X9_exchanges_41 (N : Nat)  (M : Nat → Nat → Int32) (v1 : Int32) (v2 : Int32) (v3 : Int32) (s0 : Int32) : Option (Int32 × (Nat → Nat → Int32)) := ((F_X9_isRefused N M s0 (5 : Int32) v2).bind (fun r24 => (if r24.1 = 0 then ((F_X9_holds N r24.2 v1 v3).bind (fun r25 => ((F_X9_isRefused N r24.2 r25 (5 : Int32) v3).bind (fun r26 => (if r26.1 = 0 then ((F_X9_u N r26.2 v1 (1 : Int32)).bind (fun r27 => (if r27 = (2 : Int32) then (D_X9_exchanges_82 N   r26.2 v1 v2 v3 (1 : Int32)) else (D_X9_exchanges_82 N   r26.2 v1 v2 v3 (0 : Int32))))) else (some ((4 : Int32), r26.2))))))) else (some ((4 : Int32), r24.2)))))
set_option maxHeartbeats 4000000 in
set_option maxRecDepth 100000 in
theorem B_X9_exchanges_41 {p : Program} {l : Launch} {e : Env} {s : State} {m : MethodId} {args : Array Value} {below : List Frame} {meth : Method} {c : Code} {D : va_G} {G : Nat → ClassId} {A : Nat → Prop} (C : Cx p s m args meth c cX9_exchanges 5 RX9 (some .int) D G) (hA : ∀ q : Nat, s.heap.size ≤ q → A q) (N : Nat) (a : Nat → Nat) (r : (Int32 × (Nat → Nat → Int32))) : (∀ (M : Nat → Nat → Int32) (v1 : Int32) (v2 : Int32) (v3 : Int32) (s0 : Int32) (ls : Array Slot) (H : Heap) (locs : List Loc), va_P D vwCl (wM a G M) H → va_D A (wM a G M) → va_S A s.heap H locs → lv_has ls 5 [(0, .ref (a 0)), (1, .int v1), (2, .int v2), (3, .int v3)] → D_X9_exchanges_41 N   M v1 v2 v3 s0 = some r → W p l e ({ frames := 4, cells := 0, slots := 0, locals := 88 } : Room) s m args below meth c H locs 0 0 (MQ below (mQ D (wM a G r.2) (some (.int r.1)) A) args s 0 0 A) (F0 m 41 ls [.int s0, .ref (a 0)])) := by
  have C := C
  obtain ⟨hx, hb, hr, hml, hts, hown, hlocks, hK0⟩ := id C
  have hK := hK0.1
  intro M v1 v2 v3 s0 ls H locs hP hD hS hl hV
  rw [D_X9_exchanges_41] at hV
  refine lv_iconst (v := 5) hx hb dX9_exchanges_41 (by decide) ?_
  refine lv_iload_n hx hb dX9_exchanges_42 rfl (lv_at hl 2 rfl) ?_
  obtain ⟨r24, hr24, hV⟩ := jBind hV
  refine jVmI C dX9_exchanges_43 (k_X9_isRefused l D G a N M s0 (5 : Int32) v2 r24 hr24) jy_X9_isRefused jq_13_20 jq_13_21 jq_13_22 ⟨rfl, rfl, Nat.le_of_ble_eq_true rfl, Nat.le_of_ble_eq_true rfl⟩ ⟨Nat.le_of_ble_eq_true rfl, Nat.le_of_ble_eq_true rfl⟩ hP hD hA hS (ci := 11) (iw := 0) rfl rfl rfl hl (rest := []) rfl (Nat.le_of_ble_eq_true rfl) (fun H locs hQ hz hkp hS => ?_)
  have hP : va_P D vwCl (wM a G r24.2) H := hQ
  have hD : va_D A (wM a G r24.2) := jD (w := (wM a G M)) rfl hD
  refine lv_if_ne (tgt := 64) hx hb dX9_exchanges_46 (by decide) (fun c30 => ?_) (fun c30 => ?_)
  · have hV := jF1 hV c30
    refine lv_iconst (v := 4) hx hb dX9_exchanges_64 (by decide) ?_
    cases hV
    exact mRet C rfl dX9_exchanges_65 rfl rfl hP hS
  · have hV := jT1 hV c30
    refine lv_aload_n hx hb dX9_exchanges_49 rfl (lv_at hl 0 rfl) ?_
    refine lv_aload_n hx hb dX9_exchanges_50 rfl (lv_at hl 0 rfl) ?_
    refine lv_iload_n hx hb dX9_exchanges_51 rfl (lv_at hl 1 rfl) ?_
    refine lv_iload_n hx hb dX9_exchanges_52 rfl (lv_at hl 3 rfl) ?_
    obtain ⟨r25, hr25, hV⟩ := jBind hV
    refine jVpI C dX9_exchanges_53 (k_X9_holds l D G a N r24.2 v1 v3 r25 hr25) jy_X9_holds jq_13_12 jq_13_13 jq_13_14 ⟨rfl, rfl, Nat.le_of_ble_eq_true rfl, Nat.le_of_ble_eq_true rfl⟩ ⟨Nat.le_of_ble_eq_true rfl, Nat.le_of_ble_eq_true rfl⟩ hP  (ci := 11) (iw := 0) rfl rfl rfl hl (rest := [.ref (a 0)]) rfl (Nat.le_of_ble_eq_true rfl) ?_
    refine lv_iconst (v := 5) hx hb dX9_exchanges_56 (by decide) ?_
    refine lv_iload_n hx hb dX9_exchanges_57 rfl (lv_at hl 3 rfl) ?_
    obtain ⟨r26, hr26, hV⟩ := jBind hV
    refine jVmI C dX9_exchanges_58 (k_X9_isRefused l D G a N r24.2 r25 (5 : Int32) v3 r26 hr26) jy_X9_isRefused jq_13_20 jq_13_21 jq_13_22 ⟨rfl, rfl, Nat.le_of_ble_eq_true rfl, Nat.le_of_ble_eq_true rfl⟩ ⟨Nat.le_of_ble_eq_true rfl, Nat.le_of_ble_eq_true rfl⟩ hP hD hA hS (ci := 11) (iw := 0) rfl rfl rfl hl (rest := []) rfl (Nat.le_of_ble_eq_true rfl) (fun H locs hQ hz hkp hS => ?_)
    have hP : va_P D vwCl (wM a G r26.2) H := hQ
    have hD : va_D A (wM a G r26.2) := jD (w := (wM a G r24.2)) rfl hD
    refine lv_if_eq (tgt := 66) hx hb dX9_exchanges_61 (by decide) (fun c29 => ?_) (fun c29 => ?_)
    · have hV := jT1 hV c29
      refine lv_aload_n hx hb dX9_exchanges_66 rfl (lv_at hl 0 rfl) ?_
      refine lv_aload_n hx hb dX9_exchanges_67 rfl (lv_at hl 0 rfl) ?_
      refine lv_iload_n hx hb dX9_exchanges_68 rfl (lv_at hl 1 rfl) ?_
      refine lv_iconst (v := 1) hx hb dX9_exchanges_69 (by decide) ?_
      obtain ⟨r27, hr27, hV⟩ := jBind hV
      refine jVpI C dX9_exchanges_70 (k_X9_u l D G a N r26.2 v1 (1 : Int32) r27 hr27) jy_X9_u jq_13_16 jq_13_17 jq_13_18 ⟨rfl, rfl, Nat.le_of_ble_eq_true rfl, Nat.le_of_ble_eq_true rfl⟩ ⟨Nat.le_of_ble_eq_true rfl, Nat.le_of_ble_eq_true rfl⟩ hP  (ci := 11) (iw := 0) rfl rfl rfl hl (rest := [.ref (a 0)]) rfl (Nat.le_of_ble_eq_true rfl) ?_
      refine lv_iconst (v := 2) hx hb dX9_exchanges_73 (by decide) ?_
      refine lv_icmp_ne (tgt := 81) hx hb dX9_exchanges_74 (by decide) (fun c28 => ?_) (fun c28 => ?_)
      · have hV := jF1 hV c28
        refine lv_iconst (v := 0) hx hb dX9_exchanges_81 (by decide) ?_
        exact B_X9_exchanges_82 C hA N a r   r26.2 v1 v2 v3 (0 : Int32) _ _ _ hP hD hS (lv_sub hl [0, 1, 2, 3] rfl) hV
      · have hV := jT1 hV c28
        refine lv_iconst (v := 1) hx hb dX9_exchanges_77 (by decide) ?_
        refine lv_goto (tgt := 82) hx hb dX9_exchanges_78 (by decide) ?_
        exact B_X9_exchanges_82 C hA N a r   r26.2 v1 v2 v3 (1 : Int32) _ _ _ hP hD hS (lv_sub hl [0, 1, 2, 3] rfl) hV
    · have hV := jF1 hV c29
      refine lv_iconst (v := 4) hx hb dX9_exchanges_64 (by decide) ?_
      cases hV
      exact mRet C rfl dX9_exchanges_65 rfl rfl hP hS
def F_X9_exchanges (N : Nat)  (M : Nat → Nat → Int32) (v1 v2 v3 : Int32) : Option (Int32 × (Nat → Nat → Int32)) := ((F_X9_isSubscription N M v1).bind (fun r31 => (if r31 = 0 then (some ((1 : Int32), M)) else ((F_X9_isPerformance N M v2).bind (fun r32 => (if r32 = 0 then (some ((1 : Int32), M)) else ((F_X9_isPerformance N M v3).bind (fun r33 => (if r33 = 0 then (some ((1 : Int32), M)) else ((F_X9_holds N M v1 v2).bind (fun r34 => (if r34 = 0 then (D_X9_exchanges_41 N   M v1 v2 v3 (1 : Int32)) else (D_X9_exchanges_41 N   M v1 v2 v3 (0 : Int32))))))))))))))
set_option maxHeartbeats 4000000 in
set_option maxRecDepth 100000 in
theorem k_X9_exchanges (l : Launch) (D : va_G) (G : Nat → ClassId) (a : Nat → Nat) (N : Nat) (M : Nat → Nat → Int32) (v1 v2 v3 : Int32) (r : (Int32 × (Nat → Nat → Int32))) (hV : F_X9_exchanges N  M v1 v2 v3 = some r) : mM l yX9_exchanges (jws yX9_exchanges cX9_exchanges 5 (some .int)) ({ frames := 4, cells := 0, slots := 0, locals := 88 } : Room) [.ref (a 0), .int v1, .int v2, .int v3] D G (wM a G M) (wM a G r.2) (some (.int r.1)) := by
  refine mM_of (by decide +kernel) (Nat.le_of_ble_eq_true rfl) (fun p e s m args below meth c ls A C hP hD hA hl => ?_)
  have C : Cx p s m args meth c cX9_exchanges 5 RX9 (some .int) D G := C
  have hS : va_S A s.heap s.heap [] := va_S.rf
  obtain ⟨hx, hb, hr, hml, hts, hown, hlocks, hK0⟩ := id C
  have hK := hK0.1
  have hl : lv_has ls 5 [(0, .ref (a 0)), (1, .int v1), (2, .int v2), (3, .int v3)] := hl
  rw [F_X9_exchanges] at hV
  refine lv_aload_n hx hb dX9_exchanges_0 rfl (lv_at hl 0 rfl) ?_
  refine lv_iload_n hx hb dX9_exchanges_1 rfl (lv_at hl 1 rfl) ?_
  obtain ⟨r31, hr31, hV⟩ := jBind hV
  refine jVpI C dX9_exchanges_2 (k_X9_isSubscription l D G a N M v1 r31 hr31) jy_X9_isSubscription jq_38_18 jq_38_19 jq_38_20 ⟨rfl, rfl, Nat.le_of_ble_eq_true rfl, Nat.le_of_ble_eq_true rfl⟩ ⟨Nat.le_of_ble_eq_true rfl, Nat.le_of_ble_eq_true rfl⟩ hP  (ci := 11) (iw := 0) rfl rfl rfl hl (rest := []) rfl (Nat.le_of_ble_eq_true rfl) ?_
  refine lv_if_eq (tgt := 24) hx hb dX9_exchanges_5 (by decide) (fun c38 => ?_) (fun c38 => ?_)
  · have hV := jT1 hV c38
    refine lv_iconst (v := 1) hx hb dX9_exchanges_24 (by decide) ?_
    cases hV
    exact mRet C rfl dX9_exchanges_25 rfl rfl hP hS
  · have hV := jF1 hV c38
    refine lv_aload_n hx hb dX9_exchanges_8 rfl (lv_at hl 0 rfl) ?_
    refine lv_iload_n hx hb dX9_exchanges_9 rfl (lv_at hl 2 rfl) ?_
    obtain ⟨r32, hr32, hV⟩ := jBind hV
    refine jVpI C dX9_exchanges_10 (k_X9_isPerformance l D G a N M v2 r32 hr32) jy_X9_isPerformance jq_26_1 jq_26_2 jq_26_3 ⟨rfl, rfl, Nat.le_of_ble_eq_true rfl, Nat.le_of_ble_eq_true rfl⟩ ⟨Nat.le_of_ble_eq_true rfl, Nat.le_of_ble_eq_true rfl⟩ hP  (ci := 11) (iw := 0) rfl rfl rfl hl (rest := []) rfl (Nat.le_of_ble_eq_true rfl) ?_
    refine lv_if_eq (tgt := 24) hx hb dX9_exchanges_13 (by decide) (fun c37 => ?_) (fun c37 => ?_)
    · have hV := jT1 hV c37
      refine lv_iconst (v := 1) hx hb dX9_exchanges_24 (by decide) ?_
      cases hV
      exact mRet C rfl dX9_exchanges_25 rfl rfl hP hS
    · have hV := jF1 hV c37
      refine lv_aload_n hx hb dX9_exchanges_16 rfl (lv_at hl 0 rfl) ?_
      refine lv_iload_n hx hb dX9_exchanges_17 rfl (lv_at hl 3 rfl) ?_
      obtain ⟨r33, hr33, hV⟩ := jBind hV
      refine jVpI C dX9_exchanges_18 (k_X9_isPerformance l D G a N M v3 r33 hr33) jy_X9_isPerformance jq_26_1 jq_26_2 jq_26_3 ⟨rfl, rfl, Nat.le_of_ble_eq_true rfl, Nat.le_of_ble_eq_true rfl⟩ ⟨Nat.le_of_ble_eq_true rfl, Nat.le_of_ble_eq_true rfl⟩ hP  (ci := 11) (iw := 0) rfl rfl rfl hl (rest := []) rfl (Nat.le_of_ble_eq_true rfl) ?_
      refine lv_if_ne (tgt := 26) hx hb dX9_exchanges_21 (by decide) (fun c36 => ?_) (fun c36 => ?_)
      · have hV := jF1 hV c36
        refine lv_aload_n hx hb dX9_exchanges_26 rfl (lv_at hl 0 rfl) ?_
        refine lv_aload_n hx hb dX9_exchanges_27 rfl (lv_at hl 0 rfl) ?_
        refine lv_iload_n hx hb dX9_exchanges_28 rfl (lv_at hl 1 rfl) ?_
        refine lv_iload_n hx hb dX9_exchanges_29 rfl (lv_at hl 2 rfl) ?_
        obtain ⟨r34, hr34, hV⟩ := jBind hV
        refine jVpI C dX9_exchanges_30 (k_X9_holds l D G a N M v1 v2 r34 hr34) jy_X9_holds jq_13_12 jq_13_13 jq_13_14 ⟨rfl, rfl, Nat.le_of_ble_eq_true rfl, Nat.le_of_ble_eq_true rfl⟩ ⟨Nat.le_of_ble_eq_true rfl, Nat.le_of_ble_eq_true rfl⟩ hP  (ci := 11) (iw := 0) rfl rfl rfl hl (rest := [.ref (a 0)]) rfl (Nat.le_of_ble_eq_true rfl) ?_
        refine lv_if_ne (tgt := 40) hx hb dX9_exchanges_33 (by decide) (fun c35 => ?_) (fun c35 => ?_)
        · have hV := jF1 hV c35
          refine lv_iconst (v := 0) hx hb dX9_exchanges_40 (by decide) ?_
          exact B_X9_exchanges_41 C hA N a r   M v1 v2 v3 (0 : Int32) _ _ _ hP hD hS (lv_sub hl [0, 1, 2, 3] rfl) hV
        · have hV := jT1 hV c35
          refine lv_iconst (v := 1) hx hb dX9_exchanges_36 (by decide) ?_
          refine lv_goto (tgt := 41) hx hb dX9_exchanges_37 (by decide) ?_
          exact B_X9_exchanges_41 C hA N a r   M v1 v2 v3 (1 : Int32) _ _ _ hP hD hS (lv_sub hl [0, 1, 2, 3] rfl) hV
      · have hV := jT1 hV c36
        refine lv_iconst (v := 1) hx hb dX9_exchanges_24 (by decide) ?_
        cases hV
        exact mRet C rfl dX9_exchanges_25 rfl rfl hP hS
theorem jy_X9_exchange : jY yX9_exchange cX9_exchange 4 (some .int) 3 := ⟨by decide +kernel, jq_40_19, jq_1_5⟩
def F_X9_exchange (N : Nat)  (M : Nat → Nat → Int32) (v1 v2 v3 : Int32) : Option (Int32 × (Nat → Nat → Int32)) := ((F_X9_begins N M ).bind (fun r1 => ((F_X9_exchanges N r1 v1 v2 v3).bind (fun r2 => ((F_X9_ends N r2.2 r2.1 (0 : Int32) (0 : Int32) (2 : Int32)).bind (fun r3 => (some (r3.1, r3.2))))))))
set_option maxHeartbeats 4000000 in
set_option maxRecDepth 100000 in
theorem k_X9_exchange (l : Launch) (D : va_G) (G : Nat → ClassId) (a : Nat → Nat) (N : Nat) (M : Nat → Nat → Int32) (v1 v2 v3 : Int32) (r : (Int32 × (Nat → Nat → Int32))) (hV : F_X9_exchange N  M v1 v2 v3 = some r) : mM l yX9_exchange (jws yX9_exchange cX9_exchange 4 (some .int)) ({ frames := 5, cells := 0, slots := 0, locals := 112 } : Room) [.ref (a 0), .int v1, .int v2, .int v3] D G (wM a G M) (wM a G r.2) (some (.int r.1)) := by
  refine mM_of (by decide +kernel) (Nat.le_of_ble_eq_true rfl) (fun p e s m args below meth c ls A C hP hD hA hl => ?_)
  have C : Cx p s m args meth c cX9_exchange 4 RX9 (some .int) D G := C
  have hS : va_S A s.heap s.heap [] := va_S.rf
  obtain ⟨hx, hb, hr, hml, hts, hown, hlocks, hK0⟩ := id C
  have hK := hK0.1
  have hl : lv_has ls 4 [(0, .ref (a 0)), (1, .int v1), (2, .int v2), (3, .int v3)] := hl
  rw [F_X9_exchange] at hV
  refine lv_aload_n hx hb dX9_exchange_0 rfl (lv_at hl 0 rfl) ?_
  obtain ⟨r1, hr1, hV⟩ := jBind hV
  refine jVmV C dX9_exchange_1 (k_X9_begins l D G a N M  r1 hr1) jy_X9_begins jq_12_9 jq_12_10 jq_12_11 ⟨rfl, rfl, Nat.le_of_ble_eq_true rfl, Nat.le_of_ble_eq_true rfl⟩ ⟨Nat.le_of_ble_eq_true rfl, Nat.le_of_ble_eq_true rfl⟩ hP hD hA hS (ci := 11) (iw := 0) rfl rfl rfl hl (rest := []) rfl (Nat.le_of_ble_eq_true rfl) (fun H locs hQ hz hkp hS => ?_)
  have hP : va_P D vwCl (wM a G r1) H := hQ
  have hD : va_D A (wM a G r1) := jD (w := (wM a G M)) rfl hD
  refine lv_aload_n hx hb dX9_exchange_4 rfl (lv_at hl 0 rfl) ?_
  refine lv_aload_n hx hb dX9_exchange_5 rfl (lv_at hl 0 rfl) ?_
  refine lv_iload_n hx hb dX9_exchange_6 rfl (lv_at hl 1 rfl) ?_
  refine lv_iload_n hx hb dX9_exchange_7 rfl (lv_at hl 2 rfl) ?_
  refine lv_iload_n hx hb dX9_exchange_8 rfl (lv_at hl 3 rfl) ?_
  obtain ⟨r2, hr2, hV⟩ := jBind hV
  refine jVmI C dX9_exchange_9 (k_X9_exchanges l D G a N r1 v1 v2 v3 r2 hr2) jy_X9_exchanges jq_40_20 jq_40_21 jq_40_22 ⟨rfl, rfl, Nat.le_of_ble_eq_true rfl, Nat.le_of_ble_eq_true rfl⟩ ⟨Nat.le_of_ble_eq_true rfl, Nat.le_of_ble_eq_true rfl⟩ hP hD hA hS (ci := 11) (iw := 0) rfl rfl rfl hl (rest := [.ref (a 0)]) rfl (Nat.le_of_ble_eq_true rfl) (fun H locs hQ hz hkp hS => ?_)
  have hP : va_P D vwCl (wM a G r2.2) H := hQ
  have hD : va_D A (wM a G r2.2) := jD (w := (wM a G r1)) rfl hD
  refine lv_iconst (v := 0) hx hb dX9_exchange_12 (by decide) ?_
  refine lv_iconst (v := 0) hx hb dX9_exchange_13 (by decide) ?_
  refine lv_iconst (v := 2) hx hb dX9_exchange_14 (by decide) ?_
  obtain ⟨r3, hr3, hV⟩ := jBind hV
  refine jVmI C dX9_exchange_15 (k_X9_ends l D G a N r2.2 r2.1 (0 : Int32) (0 : Int32) (2 : Int32) r3 hr3) jy_X9_ends jq_14_22 jq_14_23 jq_15_0 ⟨rfl, rfl, Nat.le_of_ble_eq_true rfl, Nat.le_of_ble_eq_true rfl⟩ ⟨Nat.le_of_ble_eq_true rfl, Nat.le_of_ble_eq_true rfl⟩ hP hD hA hS (ci := 11) (iw := 0) rfl rfl rfl hl (rest := []) rfl (Nat.le_of_ble_eq_true rfl) (fun H locs hQ hz hkp hS => ?_)
  have hP : va_P D vwCl (wM a G r3.2) H := hQ
  have hD : va_D A (wM a G r3.2) := jD (w := (wM a G r2.2)) rfl hD
  cases hV
  exact mRet C rfl dX9_exchange_18 rfl rfl hP hS
theorem jy_X9_subscription : jY yX9_subscription cX9_subscription 5 (some .int) 2 := ⟨by decide +kernel, jq_41_12, jq_1_5⟩
def D_X9_subscription_75 (N : Nat)  : Nat → (Nat → Nat → Int32) → Int32 → Int32 → Int32 → Option (Int32 × (Nat → Nat → Int32))
  | 0, _, _, _, _ => none
  | n + 1, M, v1, v3, v4 => (if inb (38 : Int32) 2169 = true then (if ((M 1) (38 : Int32).toNatClampNeg) ≤ v4 then (some (v3, M)) else ((F_X9_holds N M v1 v4).bind (fun r2 => (if r2 = 0 then (D_X9_subscription_75 N   n M v1 (v3 ||| (0 : Int32)) (v4 + 1)) else (D_X9_subscription_75 N   n M v1 (v3 ||| ((1 : Int32) <<< (v4 &&& 31))) (v4 + 1)))))) else none)
set_option maxHeartbeats 4000000 in
set_option maxRecDepth 100000 in
theorem B_X9_subscription_75 {p : Program} {l : Launch} {e : Env} {s : State} {m : MethodId} {args : Array Value} {below : List Frame} {meth : Method} {c : Code} {D : va_G} {G : Nat → ClassId} {A : Nat → Prop} (C : Cx p s m args meth c cX9_subscription 5 RX9 (some .int) D G) (hA : ∀ q : Nat, s.heap.size ≤ q → A q) (N : Nat) (a : Nat → Nat) (r : (Int32 × (Nat → Nat → Int32))) : (∀ (n : Nat) (M : Nat → Nat → Int32) (v1 : Int32) (v3 : Int32) (v4 : Int32) (ls : Array Slot) (H : Heap) (locs : List Loc), va_P D vwCl (wM a G M) H → va_D A (wM a G M) → va_S A s.heap H locs → lv_has ls 5 [(0, .ref (a 0)), (1, .int v1), (3, .int v3), (4, .int v4)] → D_X9_subscription_75 N   n M v1 v3 v4 = some r → W p l e ({ frames := 2, cells := 0, slots := 0, locals := 45 } : Room) s m args below meth c H locs 0 0 (MQ below (mQ D (wM a G r.2) (some (.int r.1)) A) args s 0 0 A) (F0 m 75 ls [])) := by
  have C := C
  obtain ⟨hx, hb, hr, hml, hts, hown, hlocks, hK0⟩ := id C
  have hK := hK0.1
  intro n
  induction n with
  | zero =>
    intro M v1 v3 v4 ls H locs hP hD hS hl hV
    rw [D_X9_subscription_75] at hV
    cases hV
  | succ n ih =>
    intro M v1 v3 v4 ls H locs hP hD hS hl hV
    rw [D_X9_subscription_75] at hV
    refine lv_iload hx hb dX9_subscription_75 (lv_at hl 3 rfl) ?_
    refine lv_aload_n hx hb dX9_subscription_77 rfl (lv_at hl 0 rfl) ?_
    refine va_get (D := D) (ci := 11) (v := .ref (a 1)) (C := RX9) (T := TX9) (N := 16) hx hb hts ju_X9 hown hK hP 0 rfl rfl 1 (by decide) (hts _ jq_6_1) (fun _ h9 => h9) rfl dX9_subscription_78 ?_
    refine lv_bipush (v := 38) hx hb dX9_subscription_81 (by decide) ?_
    obtain ⟨g1, hV⟩ := jIf hV
    refine va_iald (D := D) (n := 2169) (f := (M 1)) hx hb hK hP 1 0 rfl rfl (inb_of g1) dX9_subscription_83 ?_
    refine lv_icmp_ge (tgt := 114) hx hb dX9_subscription_84 (by decide) (fun c4 => ?_) (fun c4 => ?_)
    · have hV := jT1 hV c4
      refine lv_iload_n hx hb dX9_subscription_114 rfl (lv_at hl 2 rfl) ?_
      cases hV
      exact mRet C rfl dX9_subscription_115 rfl rfl hP hS
    · have hV := jF1 hV c4
      refine lv_iload_n hx hb dX9_subscription_87 rfl (lv_at hl 2 rfl) ?_
      refine lv_aload_n hx hb dX9_subscription_88 rfl (lv_at hl 0 rfl) ?_
      refine lv_iload_n hx hb dX9_subscription_89 rfl (lv_at hl 1 rfl) ?_
      refine lv_iload hx hb dX9_subscription_90 (lv_at hl 3 rfl) ?_
      obtain ⟨r2, hr2, hV⟩ := jBind hV
      refine jVpI C dX9_subscription_92 (k_X9_holds l D G a N M v1 v4 r2 hr2) jy_X9_holds jq_13_12 jq_13_13 jq_13_14 ⟨rfl, rfl, Nat.le_of_ble_eq_true rfl, Nat.le_of_ble_eq_true rfl⟩ ⟨Nat.le_of_ble_eq_true rfl, Nat.le_of_ble_eq_true rfl⟩ hP  (ci := 11) (iw := 0) rfl rfl rfl hl (rest := [.int v3]) rfl (Nat.le_of_ble_eq_true rfl) ?_
      refine lv_if_eq (tgt := 105) hx hb dX9_subscription_95 (by decide) (fun c3 => ?_) (fun c3 => ?_)
      · have hV := jT1 hV c3
        refine lv_iconst (v := 0) hx hb dX9_subscription_105 (by decide) ?_
        refine lv_ior hx hb dX9_subscription_106 ?_
        refine lv_istore_n (lv' := [(3, .int (v3 ||| (0 : Int32))), (0, .ref (a 0)), (1, .int v1), (4, .int v4)]) hx hb dX9_subscription_107 rfl hl (by decide) rfl (fun ls hl => ?_)
        refine lv_iinc (v := (v4 + 1)) (lv' := [(4, .int (v4 + 1)), (3, .int (v3 ||| (0 : Int32))), (0, .ref (a 0)), (1, .int v1)]) hx hb dX9_subscription_108 hl (k := 3) rfl rfl (by decide) rfl (fun ls hl => ?_)
        refine lv_goto (tgt := 75) hx hb dX9_subscription_111 (by decide) ?_
        exact ih M v1 (v3 ||| (0 : Int32)) (v4 + 1) _ _ _ hP hD hS (lv_sub hl [2, 3, 1, 0] rfl) hV
      · have hV := jF1 hV c3
        refine lv_iconst (v := 1) hx hb dX9_subscription_98 (by decide) ?_
        refine lv_iload hx hb dX9_subscription_99 (lv_at hl 3 rfl) ?_
        refine lv_ishl hx hb dX9_subscription_101 ?_
        refine lv_goto (tgt := 106) hx hb dX9_subscription_102 (by decide) ?_
        refine lv_ior hx hb dX9_subscription_106 ?_
        refine lv_istore_n (lv' := [(3, .int (v3 ||| ((1 : Int32) <<< (v4 &&& 31)))), (0, .ref (a 0)), (1, .int v1), (4, .int v4)]) hx hb dX9_subscription_107 rfl hl (by decide) rfl (fun ls hl => ?_)
        refine lv_iinc (v := (v4 + 1)) (lv' := [(4, .int (v4 + 1)), (3, .int (v3 ||| ((1 : Int32) <<< (v4 &&& 31)))), (0, .ref (a 0)), (1, .int v1)]) hx hb dX9_subscription_108 hl (k := 3) rfl rfl (by decide) rfl (fun ls hl => ?_)
        refine lv_goto (tgt := 75) hx hb dX9_subscription_111 (by decide) ?_
        exact ih M v1 (v3 ||| ((1 : Int32) <<< (v4 &&& 31))) (v4 + 1) _ _ _ hP hD hS (lv_sub hl [2, 3, 1, 0] rfl) hV
def D_X9_subscription_27 (N : Nat)  (M : Nat → Nat → Int32) (v1 : Int32) (v2 : Int32) (s0 : Int32) : Option (Int32 × (Nat → Nat → Int32)) := (jlet (stF M 0 s0) (fun M5 => (if (M5 0 0) = 0 then (if v2 = (1 : Int32) then ((F_X9_holdsAt N M5 v1).bind (fun r10 => (some (r10, M5)))) else (if v2 = (3 : Int32) then (D_X9_subscription_75 N   N M5 v1 (0 : Int32) (0 : Int32)) else (if v2 = 0 then ((F_X9_u N M5 v1 (0 : Int32)).bind (fun r7 => (some (r7, M5)))) else ((F_X9_u N M5 v1 (1 : Int32)).bind (fun r6 => (some (r6, M5))))))) else (some ((0 : Int32), M5)))))
set_option maxHeartbeats 4000000 in
set_option maxRecDepth 100000 in
theorem B_X9_subscription_27 {p : Program} {l : Launch} {e : Env} {s : State} {m : MethodId} {args : Array Value} {below : List Frame} {meth : Method} {c : Code} {D : va_G} {G : Nat → ClassId} {A : Nat → Prop} (C : Cx p s m args meth c cX9_subscription 5 RX9 (some .int) D G) (hA : ∀ q : Nat, s.heap.size ≤ q → A q) (N : Nat) (a : Nat → Nat) (r : (Int32 × (Nat → Nat → Int32))) : (∀ (M : Nat → Nat → Int32) (v1 : Int32) (v2 : Int32) (s0 : Int32) (ls : Array Slot) (H : Heap) (locs : List Loc), va_P D vwCl (wM a G M) H → va_D A (wM a G M) → va_S A s.heap H locs → lv_has ls 5 [(0, .ref (a 0)), (1, .int v1), (2, .int v2)] → D_X9_subscription_27 N   M v1 v2 s0 = some r → W p l e ({ frames := 2, cells := 0, slots := 0, locals := 45 } : Room) s m args below meth c H locs 0 0 (MQ below (mQ D (wM a G r.2) (some (.int r.1)) A) args s 0 0 A) (F0 m 27 ls [.int s0, .ref (a 0)])) := by
  have C := C
  obtain ⟨hx, hb, hr, hml, hts, hown, hlocks, hK0⟩ := id C
  have hK := hK0.1
  intro M v1 v2 s0 ls H locs hP hD hS hl hV
  rw [D_X9_subscription_27] at hV
  refine va_put (D := D) (ci := 11) (v := .int s0) (ty := .int) (C := RX9) (T := TX9) (N := 16) hx hb hts ju_X9 tyX9 tyX9_ok nmX9 hown hK hP hD hS 0 rfl rfl 0 (by decide) (hts _ jq_15_2) (fun _ h9 => h9) rfl (by decide +kernel) rfl rfl (Nat.le_of_ble_eq_true rfl) dX9_subscription_27 (fun H locs hP hD hS => ?_)
  obtain ⟨M5, e13, hV⟩ := jLet hV
  have hP : va_P D vwCl (wM a G M5) H := by rw [e13]; exact hP
  have hD : va_D A (wM a G M5) := by rw [e13]; exact hD
  refine lv_aload_n hx hb dX9_subscription_30 rfl (lv_at hl 0 rfl) ?_
  refine va_get (D := D) (ci := 11) (v := .int (M5 0 0)) (C := RX9) (T := TX9) (N := 16) hx hb hts ju_X9 hown hK hP 0 rfl rfl 0 (by decide) (hts _ jq_15_2) (fun _ h9 => h9) rfl dX9_subscription_31 ?_
  refine lv_if_eq (tgt := 39) hx hb dX9_subscription_34 (by decide) (fun c12 => ?_) (fun c12 => ?_)
  · have hV := jT1 hV c12
    refine lv_iload_n hx hb dX9_subscription_39 rfl (lv_at hl 2 rfl) ?_
    refine lv_iconst (v := 1) hx hb dX9_subscription_40 (by decide) ?_
    refine lv_icmp_ne (tgt := 50) hx hb dX9_subscription_41 (by decide) (fun c11 => ?_) (fun c11 => ?_)
    · have hV := jF1 hV c11
      refine lv_iload_n hx hb dX9_subscription_50 rfl (lv_at hl 2 rfl) ?_
      refine lv_iconst (v := 3) hx hb dX9_subscription_51 (by decide) ?_
      refine lv_icmp_eq (tgt := 70) hx hb dX9_subscription_52 (by decide) (fun c9 => ?_) (fun c9 => ?_)
      · have hV := jT1 hV c9
        refine lv_iconst (v := 0) hx hb dX9_subscription_70 (by decide) ?_
        refine lv_istore_n (lv' := [(3, .int (0 : Int32)), (0, .ref (a 0)), (1, .int v1), (2, .int v2)]) hx hb dX9_subscription_71 rfl hl (by decide) rfl (fun ls hl => ?_)
        refine lv_iconst (v := 0) hx hb dX9_subscription_72 (by decide) ?_
        refine lv_istore (lv' := [(4, .int (0 : Int32)), (3, .int (0 : Int32)), (0, .ref (a 0)), (1, .int v1), (2, .int v2)]) hx hb dX9_subscription_73 hl (by decide) rfl (fun ls hl => ?_)
        exact B_X9_subscription_75 C hA N a r   N M5 v1 (0 : Int32) (0 : Int32) _ _ _ hP hD hS (lv_sub hl [2, 3, 1, 0] rfl) hV
      · have hV := jF1 hV c9
        refine lv_aload_n hx hb dX9_subscription_55 rfl (lv_at hl 0 rfl) ?_
        refine lv_iload_n hx hb dX9_subscription_56 rfl (lv_at hl 1 rfl) ?_
        refine lv_iload_n hx hb dX9_subscription_57 rfl (lv_at hl 2 rfl) ?_
        refine lv_if_ne (tgt := 65) hx hb dX9_subscription_58 (by decide) (fun c8 => ?_) (fun c8 => ?_)
        · have hV := jF1 hV c8
          refine lv_iconst (v := 1) hx hb dX9_subscription_65 (by decide) ?_
          obtain ⟨r6, hr6, hV⟩ := jBind hV
          refine jVpI C dX9_subscription_66 (k_X9_u l D G a N M5 v1 (1 : Int32) r6 hr6) jy_X9_u jq_13_16 jq_13_17 jq_13_18 ⟨rfl, rfl, Nat.le_of_ble_eq_true rfl, Nat.le_of_ble_eq_true rfl⟩ ⟨Nat.le_of_ble_eq_true rfl, Nat.le_of_ble_eq_true rfl⟩ hP  (ci := 11) (iw := 0) rfl rfl rfl hl (rest := []) rfl (Nat.le_of_ble_eq_true rfl) ?_
          cases hV
          exact mRet C rfl dX9_subscription_69 rfl rfl hP hS
        · have hV := jT1 hV c8
          refine lv_iconst (v := 0) hx hb dX9_subscription_61 (by decide) ?_
          refine lv_goto (tgt := 66) hx hb dX9_subscription_62 (by decide) ?_
          obtain ⟨r7, hr7, hV⟩ := jBind hV
          refine jVpI C dX9_subscription_66 (k_X9_u l D G a N M5 v1 (0 : Int32) r7 hr7) jy_X9_u jq_13_16 jq_13_17 jq_13_18 ⟨rfl, rfl, Nat.le_of_ble_eq_true rfl, Nat.le_of_ble_eq_true rfl⟩ ⟨Nat.le_of_ble_eq_true rfl, Nat.le_of_ble_eq_true rfl⟩ hP  (ci := 11) (iw := 0) rfl rfl rfl hl (rest := []) rfl (Nat.le_of_ble_eq_true rfl) ?_
          cases hV
          exact mRet C rfl dX9_subscription_69 rfl rfl hP hS
    · have hV := jT1 hV c11
      refine lv_aload_n hx hb dX9_subscription_44 rfl (lv_at hl 0 rfl) ?_
      refine lv_iload_n hx hb dX9_subscription_45 rfl (lv_at hl 1 rfl) ?_
      obtain ⟨r10, hr10, hV⟩ := jBind hV
      refine jVpI C dX9_subscription_46 (k_X9_holdsAt l D G a N M5 v1 r10 hr10) jy_X9_holdsAt jq_38_22 jq_38_23 jq_39_0 ⟨rfl, rfl, Nat.le_of_ble_eq_true rfl, Nat.le_of_ble_eq_true rfl⟩ ⟨Nat.le_of_ble_eq_true rfl, Nat.le_of_ble_eq_true rfl⟩ hP  (ci := 11) (iw := 0) rfl rfl rfl hl (rest := []) rfl (Nat.le_of_ble_eq_true rfl) ?_
      cases hV
      exact mRet C rfl dX9_subscription_49 rfl rfl hP hS
  · have hV := jF1 hV c12
    refine lv_iconst (v := 0) hx hb dX9_subscription_37 (by decide) ?_
    cases hV
    exact mRet C rfl dX9_subscription_38 rfl rfl hP hS
def F_X9_subscription (N : Nat)  (M : Nat → Nat → Int32) (v1 v2 : Int32) : Option (Int32 × (Nat → Nat → Int32)) := ((F_X9_isSubscription N M v1).bind (fun r14 => (if r14 = 0 then (D_X9_subscription_27 N   M v1 v2 (1 : Int32)) else ((F_X9_in N  v2 (0 : Int32) (3 : Int32)).bind (fun r15 => (if r15 = 0 then (D_X9_subscription_27 N   M v1 v2 (2 : Int32)) else (D_X9_subscription_27 N   M v1 v2 (0 : Int32))))))))
set_option maxHeartbeats 4000000 in
set_option maxRecDepth 100000 in
theorem k_X9_subscription (l : Launch) (D : va_G) (G : Nat → ClassId) (a : Nat → Nat) (N : Nat) (M : Nat → Nat → Int32) (v1 v2 : Int32) (r : (Int32 × (Nat → Nat → Int32))) (hV : F_X9_subscription N  M v1 v2 = some r) : mM l yX9_subscription (jws yX9_subscription cX9_subscription 5 (some .int)) ({ frames := 2, cells := 0, slots := 0, locals := 45 } : Room) [.ref (a 0), .int v1, .int v2] D G (wM a G M) (wM a G r.2) (some (.int r.1)) := by
  refine mM_of (by decide +kernel) (Nat.le_of_ble_eq_true rfl) (fun p e s m args below meth c ls A C hP hD hA hl => ?_)
  have C : Cx p s m args meth c cX9_subscription 5 RX9 (some .int) D G := C
  have hS : va_S A s.heap s.heap [] := va_S.rf
  obtain ⟨hx, hb, hr, hml, hts, hown, hlocks, hK0⟩ := id C
  have hK := hK0.1
  have hl : lv_has ls 5 [(0, .ref (a 0)), (1, .int v1), (2, .int v2)] := hl
  rw [F_X9_subscription] at hV
  refine lv_aload_n hx hb dX9_subscription_0 rfl (lv_at hl 0 rfl) ?_
  refine lv_aload_n hx hb dX9_subscription_1 rfl (lv_at hl 0 rfl) ?_
  refine lv_iload_n hx hb dX9_subscription_2 rfl (lv_at hl 1 rfl) ?_
  obtain ⟨r14, hr14, hV⟩ := jBind hV
  refine jVpI C dX9_subscription_3 (k_X9_isSubscription l D G a N M v1 r14 hr14) jy_X9_isSubscription jq_38_18 jq_38_19 jq_38_20 ⟨rfl, rfl, Nat.le_of_ble_eq_true rfl, Nat.le_of_ble_eq_true rfl⟩ ⟨Nat.le_of_ble_eq_true rfl, Nat.le_of_ble_eq_true rfl⟩ hP  (ci := 11) (iw := 0) rfl rfl rfl hl (rest := [.ref (a 0)]) rfl (Nat.le_of_ble_eq_true rfl) ?_
  refine lv_if_ne (tgt := 13) hx hb dX9_subscription_6 (by decide) (fun c17 => ?_) (fun c17 => ?_)
  · have hV := jF1 hV c17
    refine lv_iload_n hx hb dX9_subscription_13 rfl (lv_at hl 2 rfl) ?_
    refine lv_iconst (v := 0) hx hb dX9_subscription_14 (by decide) ?_
    refine lv_iconst (v := 3) hx hb dX9_subscription_15 (by decide) ?_
    obtain ⟨r15, hr15, hV⟩ := jBind hV
    refine jSpI C dX9_subscription_16 (k_X9_in l D G  N  v2 (0 : Int32) (3 : Int32) r15 hr15) jy_X9_in jq_13_1 jq_13_2 ⟨rfl, rfl, Nat.le_of_ble_eq_true rfl, Nat.le_of_ble_eq_true rfl⟩ ⟨Nat.le_of_ble_eq_true rfl, Nat.le_of_ble_eq_true rfl⟩ jE  hl (rest := [.ref (a 0)]) rfl (Nat.le_of_ble_eq_true rfl) ?_
    refine lv_if_eq (tgt := 26) hx hb dX9_subscription_19 (by decide) (fun c16 => ?_) (fun c16 => ?_)
    · have hV := jT1 hV c16
      refine lv_iconst (v := 2) hx hb dX9_subscription_26 (by decide) ?_
      exact B_X9_subscription_27 C hA N a r   M v1 v2 (2 : Int32) _ _ _ hP hD hS (lv_sub hl [0, 1, 2] rfl) hV
    · have hV := jF1 hV c16
      refine lv_iconst (v := 0) hx hb dX9_subscription_22 (by decide) ?_
      refine lv_goto (tgt := 27) hx hb dX9_subscription_23 (by decide) ?_
      exact B_X9_subscription_27 C hA N a r   M v1 v2 (0 : Int32) _ _ _ hP hD hS (lv_sub hl [0, 1, 2] rfl) hV
  · have hV := jT1 hV c17
    refine lv_iconst (v := 1) hx hb dX9_subscription_9 (by decide) ?_
    refine lv_goto (tgt := 27) hx hb dX9_subscription_10 (by decide) ?_
    exact B_X9_subscription_27 C hA N a r   M v1 v2 (1 : Int32) _ _ _ hP hD hS (lv_sub hl [0, 1, 2] rfl) hV
theorem jy_X9_reason : jY yX9_reason cX9_reason 2 (some .int) 1 := ⟨by decide +kernel, jq_43_6, jq_1_5⟩
def D_X9_reason_13 (N : Nat)  (M : Nat → Nat → Int32) (v1 : Int32) (s0 : Int32) : Option (Int32 × (Nat → Nat → Int32)) := (jlet (stF M 0 s0) (fun M1 => (if (M1 0 0) = 0 then (if v1 = 0 then (some ((M1 0 4), M1)) else (some ((M1 0 5), M1))) else (some ((0 : Int32), M1)))))
set_option maxHeartbeats 4000000 in
set_option maxRecDepth 100000 in
theorem B_X9_reason_13 {p : Program} {l : Launch} {e : Env} {s : State} {m : MethodId} {args : Array Value} {below : List Frame} {meth : Method} {c : Code} {D : va_G} {G : Nat → ClassId} {A : Nat → Prop} (C : Cx p s m args meth c cX9_reason 2 RX9 (some .int) D G) (hA : ∀ q : Nat, s.heap.size ≤ q → A q) (N : Nat) (a : Nat → Nat) (r : (Int32 × (Nat → Nat → Int32))) : (∀ (M : Nat → Nat → Int32) (v1 : Int32) (s0 : Int32) (ls : Array Slot) (H : Heap) (locs : List Loc), va_P D vwCl (wM a G M) H → va_D A (wM a G M) → va_S A s.heap H locs → lv_has ls 2 [(0, .ref (a 0)), (1, .int v1)] → D_X9_reason_13 N   M v1 s0 = some r → W p l e ({ frames := 0, cells := 0, slots := 0, locals := 0 } : Room) s m args below meth c H locs 0 0 (MQ below (mQ D (wM a G r.2) (some (.int r.1)) A) args s 0 0 A) (F0 m 13 ls [.int s0, .ref (a 0)])) := by
  have C := C
  obtain ⟨hx, hb, hr, hml, hts, hown, hlocks, hK0⟩ := id C
  have hK := hK0.1
  intro M v1 s0 ls H locs hP hD hS hl hV
  rw [D_X9_reason_13] at hV
  refine va_put (D := D) (ci := 11) (v := .int s0) (ty := .int) (C := RX9) (T := TX9) (N := 16) hx hb hts ju_X9 tyX9 tyX9_ok nmX9 hown hK hP hD hS 0 rfl rfl 0 (by decide) (hts _ jq_15_2) (fun _ h9 => h9) rfl (by decide +kernel) rfl rfl (Nat.le_of_ble_eq_true rfl) dX9_reason_13 (fun H locs hP hD hS => ?_)
  obtain ⟨M1, e4, hV⟩ := jLet hV
  have hP : va_P D vwCl (wM a G M1) H := by rw [e4]; exact hP
  have hD : va_D A (wM a G M1) := by rw [e4]; exact hD
  refine lv_aload_n hx hb dX9_reason_16 rfl (lv_at hl 0 rfl) ?_
  refine va_get (D := D) (ci := 11) (v := .int (M1 0 0)) (C := RX9) (T := TX9) (N := 16) hx hb hts ju_X9 hown hK hP 0 rfl rfl 0 (by decide) (hts _ jq_15_2) (fun _ h9 => h9) rfl dX9_reason_17 ?_
  refine lv_if_eq (tgt := 27) hx hb dX9_reason_20 (by decide) (fun c3 => ?_) (fun c3 => ?_)
  · have hV := jT1 hV c3
    refine lv_iload_n hx hb dX9_reason_27 rfl (lv_at hl 1 rfl) ?_
    refine lv_if_eq (tgt := 38) hx hb dX9_reason_28 (by decide) (fun c2 => ?_) (fun c2 => ?_)
    · have hV := jT1 hV c2
      refine lv_aload_n hx hb dX9_reason_38 rfl (lv_at hl 0 rfl) ?_
      refine va_get (D := D) (ci := 11) (v := .int (M1 0 4)) (C := RX9) (T := TX9) (N := 16) hx hb hts ju_X9 hown hK hP 0 rfl rfl 4 (by decide) (hts _ jq_14_0) (fun _ h9 => h9) rfl dX9_reason_39 ?_
      cases hV
      exact mRet C rfl dX9_reason_42 rfl rfl hP hS
    · have hV := jF1 hV c2
      refine lv_aload_n hx hb dX9_reason_31 rfl (lv_at hl 0 rfl) ?_
      refine va_get (D := D) (ci := 11) (v := .int (M1 0 5)) (C := RX9) (T := TX9) (N := 16) hx hb hts ju_X9 hown hK hP 0 rfl rfl 5 (by decide) (hts _ jq_14_1) (fun _ h9 => h9) rfl dX9_reason_32 ?_
      refine lv_goto (tgt := 42) hx hb dX9_reason_35 (by decide) ?_
      cases hV
      exact mRet C rfl dX9_reason_42 rfl rfl hP hS
  · have hV := jF1 hV c3
    refine lv_iconst (v := 0) hx hb dX9_reason_23 (by decide) ?_
    refine lv_goto (tgt := 42) hx hb dX9_reason_24 (by decide) ?_
    cases hV
    exact mRet C rfl dX9_reason_42 rfl rfl hP hS
def F_X9_reason (N : Nat)  (M : Nat → Nat → Int32) (v1 : Int32) : Option (Int32 × (Nat → Nat → Int32)) := (if (M 0 4) = 0 then (D_X9_reason_13 N   M v1 (1 : Int32)) else (D_X9_reason_13 N   M v1 (0 : Int32)))
set_option maxHeartbeats 4000000 in
set_option maxRecDepth 100000 in
theorem k_X9_reason (l : Launch) (D : va_G) (G : Nat → ClassId) (a : Nat → Nat) (N : Nat) (M : Nat → Nat → Int32) (v1 : Int32) (r : (Int32 × (Nat → Nat → Int32))) (hV : F_X9_reason N  M v1 = some r) : mM l yX9_reason (jws yX9_reason cX9_reason 2 (some .int)) ({ frames := 0, cells := 0, slots := 0, locals := 0 } : Room) [.ref (a 0), .int v1] D G (wM a G M) (wM a G r.2) (some (.int r.1)) := by
  refine mM_of (by decide +kernel) (Nat.le_of_ble_eq_true rfl) (fun p e s m args below meth c ls A C hP hD hA hl => ?_)
  have C : Cx p s m args meth c cX9_reason 2 RX9 (some .int) D G := C
  have hS : va_S A s.heap s.heap [] := va_S.rf
  obtain ⟨hx, hb, hr, hml, hts, hown, hlocks, hK0⟩ := id C
  have hK := hK0.1
  have hl : lv_has ls 2 [(0, .ref (a 0)), (1, .int v1)] := hl
  rw [F_X9_reason] at hV
  refine lv_aload_n hx hb dX9_reason_0 rfl (lv_at hl 0 rfl) ?_
  refine lv_aload_n hx hb dX9_reason_1 rfl (lv_at hl 0 rfl) ?_
  refine va_get (D := D) (ci := 11) (v := .int (M 0 4)) (C := RX9) (T := TX9) (N := 16) hx hb hts ju_X9 hown hK hP 0 rfl rfl 4 (by decide) (hts _ jq_14_0) (fun _ h9 => h9) rfl dX9_reason_2 ?_
  refine lv_if_ne (tgt := 12) hx hb dX9_reason_5 (by decide) (fun c5 => ?_) (fun c5 => ?_)
  · have hV := jF1 hV c5
    refine lv_iconst (v := 0) hx hb dX9_reason_12 (by decide) ?_
    exact B_X9_reason_13 C hA N a r   M v1 (0 : Int32) _ _ _ hP hD hS (lv_sub hl [0, 1] rfl) hV
  · have hV := jT1 hV c5
    refine lv_iconst (v := 1) hx hb dX9_reason_8 (by decide) ?_
    refine lv_goto (tgt := 13) hx hb dX9_reason_9 (by decide) ?_
    exact B_X9_reason_13 C hA N a r   M v1 (1 : Int32) _ _ _ hP hD hS (lv_sub hl [0, 1] rfl) hV
theorem jy_X9_account : jY yX9_account cX9_account 4 (some .int) 1 := ⟨by decide +kernel, jq_44_2, jq_1_5⟩
def D_X9_account_185 (N : Nat)  : Nat → (Nat → Nat → Int32) → Int32 → Int32 → Option (Int32 × (Nat → Nat → Int32))
  | 0, _, _, _ => none
  | n + 1, M, v2, v3 => (if inb (5 : Int32) 2169 = true then (if ((M 1) (5 : Int32).toNatClampNeg) ≤ v3 then (some (v2, M)) else ((F_X9_takings N M v3).bind (fun r2 => (D_X9_account_185 N   n M (v2 + r2) (v3 + 1))))) else none)
set_option maxHeartbeats 4000000 in
set_option maxRecDepth 100000 in
theorem B_X9_account_185 {p : Program} {l : Launch} {e : Env} {s : State} {m : MethodId} {args : Array Value} {below : List Frame} {meth : Method} {c : Code} {D : va_G} {G : Nat → ClassId} {A : Nat → Prop} (C : Cx p s m args meth c cX9_account 4 RX9 (some .int) D G) (hA : ∀ q : Nat, s.heap.size ≤ q → A q) (N : Nat) (a : Nat → Nat) (r : (Int32 × (Nat → Nat → Int32))) : (∀ (n : Nat) (M : Nat → Nat → Int32) (v2 : Int32) (v3 : Int32) (ls : Array Slot) (H : Heap) (locs : List Loc), va_P D vwCl (wM a G M) H → va_D A (wM a G M) → va_S A s.heap H locs → lv_has ls 4 [(0, .ref (a 0)), (2, .int v2), (3, .int v3)] → D_X9_account_185 N   n M v2 v3 = some r → W p l e ({ frames := 4, cells := 0, slots := 0, locals := 88 } : Room) s m args below meth c H locs 0 0 (MQ below (mQ D (wM a G r.2) (some (.int r.1)) A) args s 0 0 A) (F0 m 185 ls [])) := by
  have C := C
  obtain ⟨hx, hb, hr, hml, hts, hown, hlocks, hK0⟩ := id C
  have hK := hK0.1
  intro n
  induction n with
  | zero =>
    intro M v2 v3 ls H locs hP hD hS hl hV
    rw [D_X9_account_185] at hV
    cases hV
  | succ n ih =>
    intro M v2 v3 ls H locs hP hD hS hl hV
    rw [D_X9_account_185] at hV
    refine lv_iload_n hx hb dX9_account_185 rfl (lv_at hl 2 rfl) ?_
    refine lv_aload_n hx hb dX9_account_186 rfl (lv_at hl 0 rfl) ?_
    refine va_get (D := D) (ci := 11) (v := .ref (a 1)) (C := RX9) (T := TX9) (N := 16) hx hb hts ju_X9 hown hK hP 0 rfl rfl 1 (by decide) (hts _ jq_6_1) (fun _ h9 => h9) rfl dX9_account_187 ?_
    refine lv_iconst (v := 5) hx hb dX9_account_190 (by decide) ?_
    obtain ⟨g1, hV⟩ := jIf hV
    refine va_iald (D := D) (n := 2169) (f := (M 1)) hx hb hK hP 1 0 rfl rfl (inb_of g1) dX9_account_191 ?_
    refine lv_icmp_ge (tgt := 209) hx hb dX9_account_192 (by decide) (fun c3 => ?_) (fun c3 => ?_)
    · have hV := jT1 hV c3
      refine lv_iload_n hx hb dX9_account_209 rfl (lv_at hl 1 rfl) ?_
      cases hV
      exact mRet C rfl dX9_account_210 rfl rfl hP hS
    · have hV := jF1 hV c3
      refine lv_iload_n hx hb dX9_account_195 rfl (lv_at hl 1 rfl) ?_
      refine lv_aload_n hx hb dX9_account_196 rfl (lv_at hl 0 rfl) ?_
      refine lv_iload_n hx hb dX9_account_197 rfl (lv_at hl 2 rfl) ?_
      obtain ⟨r2, hr2, hV⟩ := jBind hV
      refine jVpI C dX9_account_198 (k_X9_takings l D G a N M v3 r2 hr2) jy_X9_takings jq_22_9 jq_22_10 jq_22_11 ⟨rfl, rfl, Nat.le_of_ble_eq_true rfl, Nat.le_of_ble_eq_true rfl⟩ ⟨Nat.le_of_ble_eq_true rfl, Nat.le_of_ble_eq_true rfl⟩ hP  (ci := 11) (iw := 0) rfl rfl rfl hl (rest := [.int v2]) rfl (Nat.le_of_ble_eq_true rfl) ?_
      refine lv_iadd hx hb dX9_account_201 ?_
      refine lv_istore_n (lv' := [(2, .int (v2 + r2)), (0, .ref (a 0)), (3, .int v3)]) hx hb dX9_account_202 rfl hl (by decide) rfl (fun ls hl => ?_)
      refine lv_iinc (v := (v3 + 1)) (lv' := [(3, .int (v3 + 1)), (2, .int (v2 + r2)), (0, .ref (a 0))]) hx hb dX9_account_203 hl (k := 2) rfl rfl (by decide) rfl (fun ls hl => ?_)
      refine lv_goto (tgt := 185) hx hb dX9_account_206 (by decide) ?_
      exact ih M (v2 + r2) (v3 + 1) _ _ _ hP hD hS (lv_sub hl [2, 1, 0] rfl) hV
def D_X9_account_139 (N : Nat)  : Nat → (Nat → Nat → Int32) → Int32 → Int32 → Int32 → Option (Int32 × (Nat → Nat → Int32))
  | 0, _, _, _, _ => none
  | n + 1, M, v1, v2, v3 => (if inb (38 : Int32) 2169 = true then (if ((M 1) (38 : Int32).toNatClampNeg) ≤ v3 then (some (v2, M)) else ((F_X9_seatsOf N M v3 (v1 - (4 : Int32))).bind (fun r5 => (D_X9_account_139 N   n M v1 (v2 + r5) (v3 + 1))))) else none)
set_option maxHeartbeats 4000000 in
set_option maxRecDepth 100000 in
theorem B_X9_account_139 {p : Program} {l : Launch} {e : Env} {s : State} {m : MethodId} {args : Array Value} {below : List Frame} {meth : Method} {c : Code} {D : va_G} {G : Nat → ClassId} {A : Nat → Prop} (C : Cx p s m args meth c cX9_account 4 RX9 (some .int) D G) (hA : ∀ q : Nat, s.heap.size ≤ q → A q) (N : Nat) (a : Nat → Nat) (r : (Int32 × (Nat → Nat → Int32))) : (∀ (n : Nat) (M : Nat → Nat → Int32) (v1 : Int32) (v2 : Int32) (v3 : Int32) (ls : Array Slot) (H : Heap) (locs : List Loc), va_P D vwCl (wM a G M) H → va_D A (wM a G M) → va_S A s.heap H locs → lv_has ls 4 [(0, .ref (a 0)), (1, .int v1), (2, .int v2), (3, .int v3)] → D_X9_account_139 N   n M v1 v2 v3 = some r → W p l e ({ frames := 4, cells := 0, slots := 0, locals := 88 } : Room) s m args below meth c H locs 0 0 (MQ below (mQ D (wM a G r.2) (some (.int r.1)) A) args s 0 0 A) (F0 m 139 ls [])) := by
  have C := C
  obtain ⟨hx, hb, hr, hml, hts, hown, hlocks, hK0⟩ := id C
  have hK := hK0.1
  intro n
  induction n with
  | zero =>
    intro M v1 v2 v3 ls H locs hP hD hS hl hV
    rw [D_X9_account_139] at hV
    cases hV
  | succ n ih =>
    intro M v1 v2 v3 ls H locs hP hD hS hl hV
    rw [D_X9_account_139] at hV
    refine lv_iload_n hx hb dX9_account_139 rfl (lv_at hl 3 rfl) ?_
    refine lv_aload_n hx hb dX9_account_140 rfl (lv_at hl 0 rfl) ?_
    refine va_get (D := D) (ci := 11) (v := .ref (a 1)) (C := RX9) (T := TX9) (N := 16) hx hb hts ju_X9 hown hK hP 0 rfl rfl 1 (by decide) (hts _ jq_6_1) (fun _ h9 => h9) rfl dX9_account_141 ?_
    refine lv_bipush (v := 38) hx hb dX9_account_144 (by decide) ?_
    obtain ⟨g4, hV⟩ := jIf hV
    refine va_iald (D := D) (n := 2169) (f := (M 1)) hx hb hK hP 1 0 rfl rfl (inb_of g4) dX9_account_146 ?_
    refine lv_icmp_ge (tgt := 167) hx hb dX9_account_147 (by decide) (fun c6 => ?_) (fun c6 => ?_)
    · have hV := jT1 hV c6
      refine lv_iload_n hx hb dX9_account_167 rfl (lv_at hl 2 rfl) ?_
      cases hV
      exact mRet C rfl dX9_account_168 rfl rfl hP hS
    · have hV := jF1 hV c6
      refine lv_iload_n hx hb dX9_account_150 rfl (lv_at hl 2 rfl) ?_
      refine lv_aload_n hx hb dX9_account_151 rfl (lv_at hl 0 rfl) ?_
      refine lv_iload_n hx hb dX9_account_152 rfl (lv_at hl 3 rfl) ?_
      refine lv_iload_n hx hb dX9_account_153 rfl (lv_at hl 1 rfl) ?_
      refine lv_iconst (v := 4) hx hb dX9_account_154 (by decide) ?_
      refine lv_isub hx hb dX9_account_155 ?_
      obtain ⟨r5, hr5, hV⟩ := jBind hV
      refine jVpI C dX9_account_156 (k_X9_seatsOf l D G a N M v3 (v1 - (4 : Int32)) r5 hr5) jy_X9_seatsOf jq_35_7 jq_35_8 jq_35_9 ⟨rfl, rfl, Nat.le_of_ble_eq_true rfl, Nat.le_of_ble_eq_true rfl⟩ ⟨Nat.le_of_ble_eq_true rfl, Nat.le_of_ble_eq_true rfl⟩ hP  (ci := 11) (iw := 0) rfl rfl rfl hl (rest := [.int v2]) rfl (Nat.le_of_ble_eq_true rfl) ?_
      refine lv_iadd hx hb dX9_account_159 ?_
      refine lv_istore_n (lv' := [(2, .int (v2 + r5)), (0, .ref (a 0)), (1, .int v1), (3, .int v3)]) hx hb dX9_account_160 rfl hl (by decide) rfl (fun ls hl => ?_)
      refine lv_iinc (v := (v3 + 1)) (lv' := [(3, .int (v3 + 1)), (2, .int (v2 + r5)), (0, .ref (a 0)), (1, .int v1)]) hx hb dX9_account_161 hl (k := 3) rfl rfl (by decide) rfl (fun ls hl => ?_)
      refine lv_goto (tgt := 139) hx hb dX9_account_164 (by decide) ?_
      exact ih M v1 (v2 + r5) (v3 + 1) _ _ _ hP hD hS (lv_sub hl [2, 3, 1, 0] rfl) hV
def D_X9_account_16 (N : Nat)  (M : Nat → Nat → Int32) (v1 : Int32) (s0 : Int32) : Option (Int32 × (Nat → Nat → Int32)) := (jlet (stF M 0 s0) (fun M7 => (if (M7 0 0) = 0 then (if v1 = 0 then (if inb (5 : Int32) 2169 = true then (some (((M7 1) (5 : Int32).toNatClampNeg), M7)) else none) else (if v1 = 1 then (if inb (38 : Int32) 2169 = true then (some (((M7 1) (38 : Int32).toNatClampNeg), M7)) else none) else (if v1 = 2 then (if inb (159 : Int32) 2169 = true then (some (((M7 1) (159 : Int32).toNatClampNeg), M7)) else none) else (if v1 = 3 then (if inb (180 : Int32) 2169 = true then (some (((M7 1) (180 : Int32).toNatClampNeg), M7)) else none) else (if v1 = 4 then (D_X9_account_139 N   N M7 v1 (0 : Int32) (0 : Int32)) else (if v1 = 5 then (D_X9_account_139 N   N M7 v1 (0 : Int32) (0 : Int32)) else (if v1 = 6 then (D_X9_account_139 N   N M7 v1 (0 : Int32) (0 : Int32)) else (if v1 = 7 then (if inb (3 : Int32) 2169 = true then (some (((M7 1) (3 : Int32).toNatClampNeg), M7)) else none) else (if v1 = 8 then (if inb (4 : Int32) 2169 = true then (some (((M7 1) (4 : Int32).toNatClampNeg), M7)) else none) else (if v1 = 9 then (D_X9_account_185 N   N M7 (0 : Int32) (0 : Int32)) else (if v1 = 13 then (some ((M7 0 10), M7)) else (if v1 = 14 then (some ((M7 0 2), M7)) else (if inb (((0 : Int32) + v1) - (10 : Int32)) 2169 = true then (some (((M7 1) (((0 : Int32) + v1) - (10 : Int32)).toNatClampNeg), M7)) else none))))))))))))) else (some ((0 : Int32), M7)))))
set_option maxHeartbeats 4000000 in
set_option maxRecDepth 100000 in
theorem B_X9_account_16 {p : Program} {l : Launch} {e : Env} {s : State} {m : MethodId} {args : Array Value} {below : List Frame} {meth : Method} {c : Code} {D : va_G} {G : Nat → ClassId} {A : Nat → Prop} (C : Cx p s m args meth c cX9_account 4 RX9 (some .int) D G) (hA : ∀ q : Nat, s.heap.size ≤ q → A q) (N : Nat) (a : Nat → Nat) (r : (Int32 × (Nat → Nat → Int32))) : (∀ (M : Nat → Nat → Int32) (v1 : Int32) (s0 : Int32) (ls : Array Slot) (H : Heap) (locs : List Loc), va_P D vwCl (wM a G M) H → va_D A (wM a G M) → va_S A s.heap H locs → lv_has ls 4 [(0, .ref (a 0)), (1, .int v1)] → D_X9_account_16 N   M v1 s0 = some r → W p l e ({ frames := 4, cells := 0, slots := 0, locals := 88 } : Room) s m args below meth c H locs 0 0 (MQ below (mQ D (wM a G r.2) (some (.int r.1)) A) args s 0 0 A) (F0 m 16 ls [.int s0, .ref (a 0)])) := by
  have C := C
  obtain ⟨hx, hb, hr, hml, hts, hown, hlocks, hK0⟩ := id C
  have hK := hK0.1
  intro M v1 s0 ls H locs hP hD hS hl hV
  rw [D_X9_account_16] at hV
  refine va_put (D := D) (ci := 11) (v := .int s0) (ty := .int) (C := RX9) (T := TX9) (N := 16) hx hb hts ju_X9 tyX9 tyX9_ok nmX9 hown hK hP hD hS 0 rfl rfl 0 (by decide) (hts _ jq_15_2) (fun _ h9 => h9) rfl (by decide +kernel) rfl rfl (Nat.le_of_ble_eq_true rfl) dX9_account_16 (fun H locs hP hD hS => ?_)
  obtain ⟨M7, e17, hV⟩ := jLet hV
  have hP : va_P D vwCl (wM a G M7) H := by rw [e17]; exact hP
  have hD : va_D A (wM a G M7) := by rw [e17]; exact hD
  refine lv_aload_n hx hb dX9_account_19 rfl (lv_at hl 0 rfl) ?_
  refine va_get (D := D) (ci := 11) (v := .int (M7 0 0)) (C := RX9) (T := TX9) (N := 16) hx hb hts ju_X9 hown hK hP 0 rfl rfl 0 (by decide) (hts _ jq_15_2) (fun _ h9 => h9) rfl dX9_account_20 ?_
  refine lv_if_eq (tgt := 28) hx hb dX9_account_23 (by decide) (fun c16 => ?_) (fun c16 => ?_)
  · have hV := jT1 hV c16
    refine lv_iconst (v := 0) hx hb dX9_account_28 (by decide) ?_
    refine lv_istore_n (lv' := [(2, .int (0 : Int32)), (0, .ref (a 0)), (1, .int v1)]) hx hb dX9_account_29 rfl hl (by decide) rfl (fun ls hl => ?_)
    refine lv_iload_n hx hb dX9_account_30 rfl (lv_at hl 2 rfl) ?_
    by_cases c8_0 : v1 = 0
    · have hV := jT1 hV c8_0
      refine lv_tableIn (tgt := 104) hx hb dX9_account_31 (by rw [c8_0]; decide) (by rw [c8_0]; decide) (by rw [c8_0]; rfl) (by decide) ?_
      refine lv_aload_n hx hb dX9_account_104 rfl (lv_at hl 1 rfl) ?_
      refine va_get (D := D) (ci := 11) (v := .ref (a 1)) (C := RX9) (T := TX9) (N := 16) hx hb hts ju_X9 hown hK hP 0 rfl rfl 1 (by decide) (hts _ jq_6_1) (fun _ h9 => h9) rfl dX9_account_105 ?_
      refine lv_iconst (v := 5) hx hb dX9_account_108 (by decide) ?_
      obtain ⟨g15, hV⟩ := jIf hV
      refine va_iald (D := D) (n := 2169) (f := (M7 1)) hx hb hK hP 1 0 rfl rfl (inb_of g15) dX9_account_109 ?_
      cases hV
      exact mRet C rfl dX9_account_110 rfl rfl hP hS
    · have hV := jF1 hV c8_0
      by_cases c8_1 : v1 = 1
      · have hV := jT1 hV c8_1
        refine lv_tableIn (tgt := 111) hx hb dX9_account_31 (by rw [c8_1]; decide) (by rw [c8_1]; decide) (by rw [c8_1]; rfl) (by decide) ?_
        refine lv_aload_n hx hb dX9_account_111 rfl (lv_at hl 1 rfl) ?_
        refine va_get (D := D) (ci := 11) (v := .ref (a 1)) (C := RX9) (T := TX9) (N := 16) hx hb hts ju_X9 hown hK hP 0 rfl rfl 1 (by decide) (hts _ jq_6_1) (fun _ h9 => h9) rfl dX9_account_112 ?_
        refine lv_bipush (v := 38) hx hb dX9_account_115 (by decide) ?_
        obtain ⟨g14, hV⟩ := jIf hV
        refine va_iald (D := D) (n := 2169) (f := (M7 1)) hx hb hK hP 1 0 rfl rfl (inb_of g14) dX9_account_117 ?_
        cases hV
        exact mRet C rfl dX9_account_118 rfl rfl hP hS
      · have hV := jF1 hV c8_1
        by_cases c8_2 : v1 = 2
        · have hV := jT1 hV c8_2
          refine lv_tableIn (tgt := 119) hx hb dX9_account_31 (by rw [c8_2]; decide) (by rw [c8_2]; decide) (by rw [c8_2]; rfl) (by decide) ?_
          refine lv_aload_n hx hb dX9_account_119 rfl (lv_at hl 1 rfl) ?_
          refine va_get (D := D) (ci := 11) (v := .ref (a 1)) (C := RX9) (T := TX9) (N := 16) hx hb hts ju_X9 hown hK hP 0 rfl rfl 1 (by decide) (hts _ jq_6_1) (fun _ h9 => h9) rfl dX9_account_120 ?_
          refine lv_sipush (v := 159) hx hb dX9_account_123 (by decide) ?_
          obtain ⟨g13, hV⟩ := jIf hV
          refine va_iald (D := D) (n := 2169) (f := (M7 1)) hx hb hK hP 1 0 rfl rfl (inb_of g13) dX9_account_126 ?_
          cases hV
          exact mRet C rfl dX9_account_127 rfl rfl hP hS
        · have hV := jF1 hV c8_2
          by_cases c8_3 : v1 = 3
          · have hV := jT1 hV c8_3
            refine lv_tableIn (tgt := 128) hx hb dX9_account_31 (by rw [c8_3]; decide) (by rw [c8_3]; decide) (by rw [c8_3]; rfl) (by decide) ?_
            refine lv_aload_n hx hb dX9_account_128 rfl (lv_at hl 1 rfl) ?_
            refine va_get (D := D) (ci := 11) (v := .ref (a 1)) (C := RX9) (T := TX9) (N := 16) hx hb hts ju_X9 hown hK hP 0 rfl rfl 1 (by decide) (hts _ jq_6_1) (fun _ h9 => h9) rfl dX9_account_129 ?_
            refine lv_sipush (v := 180) hx hb dX9_account_132 (by decide) ?_
            obtain ⟨g12, hV⟩ := jIf hV
            refine va_iald (D := D) (n := 2169) (f := (M7 1)) hx hb hK hP 1 0 rfl rfl (inb_of g12) dX9_account_135 ?_
            cases hV
            exact mRet C rfl dX9_account_136 rfl rfl hP hS
          · have hV := jF1 hV c8_3
            by_cases c8_4 : v1 = 4
            · have hV := jT1 hV c8_4
              refine lv_tableIn (tgt := 137) hx hb dX9_account_31 (by rw [c8_4]; decide) (by rw [c8_4]; decide) (by rw [c8_4]; rfl) (by decide) ?_
              refine lv_iconst (v := 0) hx hb dX9_account_137 (by decide) ?_
              refine lv_istore_n (lv' := [(3, .int (0 : Int32)), (2, .int (0 : Int32)), (0, .ref (a 0)), (1, .int v1)]) hx hb dX9_account_138 rfl hl (by decide) rfl (fun ls hl => ?_)
              exact B_X9_account_139 C hA N a r   N M7 v1 (0 : Int32) (0 : Int32) _ _ _ hP hD hS (lv_sub hl [2, 3, 1, 0] rfl) hV
            · have hV := jF1 hV c8_4
              by_cases c8_5 : v1 = 5
              · have hV := jT1 hV c8_5
                refine lv_tableIn (tgt := 137) hx hb dX9_account_31 (by rw [c8_5]; decide) (by rw [c8_5]; decide) (by rw [c8_5]; rfl) (by decide) ?_
                refine lv_iconst (v := 0) hx hb dX9_account_137 (by decide) ?_
                refine lv_istore_n (lv' := [(3, .int (0 : Int32)), (2, .int (0 : Int32)), (0, .ref (a 0)), (1, .int v1)]) hx hb dX9_account_138 rfl hl (by decide) rfl (fun ls hl => ?_)
                exact B_X9_account_139 C hA N a r   N M7 v1 (0 : Int32) (0 : Int32) _ _ _ hP hD hS (lv_sub hl [2, 3, 1, 0] rfl) hV
              · have hV := jF1 hV c8_5
                by_cases c8_6 : v1 = 6
                · have hV := jT1 hV c8_6
                  refine lv_tableIn (tgt := 137) hx hb dX9_account_31 (by rw [c8_6]; decide) (by rw [c8_6]; decide) (by rw [c8_6]; rfl) (by decide) ?_
                  refine lv_iconst (v := 0) hx hb dX9_account_137 (by decide) ?_
                  refine lv_istore_n (lv' := [(3, .int (0 : Int32)), (2, .int (0 : Int32)), (0, .ref (a 0)), (1, .int v1)]) hx hb dX9_account_138 rfl hl (by decide) rfl (fun ls hl => ?_)
                  exact B_X9_account_139 C hA N a r   N M7 v1 (0 : Int32) (0 : Int32) _ _ _ hP hD hS (lv_sub hl [2, 3, 1, 0] rfl) hV
                · have hV := jF1 hV c8_6
                  by_cases c8_7 : v1 = 7
                  · have hV := jT1 hV c8_7
                    refine lv_tableIn (tgt := 169) hx hb dX9_account_31 (by rw [c8_7]; decide) (by rw [c8_7]; decide) (by rw [c8_7]; rfl) (by decide) ?_
                    refine lv_aload_n hx hb dX9_account_169 rfl (lv_at hl 1 rfl) ?_
                    refine va_get (D := D) (ci := 11) (v := .ref (a 1)) (C := RX9) (T := TX9) (N := 16) hx hb hts ju_X9 hown hK hP 0 rfl rfl 1 (by decide) (hts _ jq_6_1) (fun _ h9 => h9) rfl dX9_account_170 ?_
                    refine lv_iconst (v := 3) hx hb dX9_account_173 (by decide) ?_
                    obtain ⟨g11, hV⟩ := jIf hV
                    refine va_iald (D := D) (n := 2169) (f := (M7 1)) hx hb hK hP 1 0 rfl rfl (inb_of g11) dX9_account_174 ?_
                    cases hV
                    exact mRet C rfl dX9_account_175 rfl rfl hP hS
                  · have hV := jF1 hV c8_7
                    by_cases c8_8 : v1 = 8
                    · have hV := jT1 hV c8_8
                      refine lv_tableIn (tgt := 176) hx hb dX9_account_31 (by rw [c8_8]; decide) (by rw [c8_8]; decide) (by rw [c8_8]; rfl) (by decide) ?_
                      refine lv_aload_n hx hb dX9_account_176 rfl (lv_at hl 1 rfl) ?_
                      refine va_get (D := D) (ci := 11) (v := .ref (a 1)) (C := RX9) (T := TX9) (N := 16) hx hb hts ju_X9 hown hK hP 0 rfl rfl 1 (by decide) (hts _ jq_6_1) (fun _ h9 => h9) rfl dX9_account_177 ?_
                      refine lv_iconst (v := 4) hx hb dX9_account_180 (by decide) ?_
                      obtain ⟨g10, hV⟩ := jIf hV
                      refine va_iald (D := D) (n := 2169) (f := (M7 1)) hx hb hK hP 1 0 rfl rfl (inb_of g10) dX9_account_181 ?_
                      cases hV
                      exact mRet C rfl dX9_account_182 rfl rfl hP hS
                    · have hV := jF1 hV c8_8
                      by_cases c8_9 : v1 = 9
                      · have hV := jT1 hV c8_9
                        refine lv_tableIn (tgt := 183) hx hb dX9_account_31 (by rw [c8_9]; decide) (by rw [c8_9]; decide) (by rw [c8_9]; rfl) (by decide) ?_
                        refine lv_iconst (v := 0) hx hb dX9_account_183 (by decide) ?_
                        refine lv_istore_n (lv' := [(3, .int (0 : Int32)), (2, .int (0 : Int32)), (0, .ref (a 0)), (1, .int v1)]) hx hb dX9_account_184 rfl hl (by decide) rfl (fun ls hl => ?_)
                        exact B_X9_account_185 C hA N a r   N M7 (0 : Int32) (0 : Int32) _ _ _ hP hD hS (lv_sub hl [2, 1, 0] rfl) hV
                      · have hV := jF1 hV c8_9
                        by_cases c8_13 : v1 = 13
                        · have hV := jT1 hV c8_13
                          refine lv_tableIn (tgt := 211) hx hb dX9_account_31 (by rw [c8_13]; decide) (by rw [c8_13]; decide) (by rw [c8_13]; rfl) (by decide) ?_
                          refine lv_aload_n hx hb dX9_account_211 rfl (lv_at hl 1 rfl) ?_
                          refine va_get (D := D) (ci := 11) (v := .int (M7 0 10)) (C := RX9) (T := TX9) (N := 16) hx hb hts ju_X9 hown hK hP 0 rfl rfl 10 (by decide) (hts _ jq_44_3) (fun _ h9 => h9) rfl dX9_account_212 ?_
                          cases hV
                          exact mRet C rfl dX9_account_215 rfl rfl hP hS
                        · have hV := jF1 hV c8_13
                          by_cases c8_14 : v1 = 14
                          · have hV := jT1 hV c8_14
                            refine lv_tableIn (tgt := 216) hx hb dX9_account_31 (by rw [c8_14]; decide) (by rw [c8_14]; decide) (by rw [c8_14]; rfl) (by decide) ?_
                            refine lv_aload_n hx hb dX9_account_216 rfl (lv_at hl 1 rfl) ?_
                            refine va_get (D := D) (ci := 11) (v := .int (M7 0 2)) (C := RX9) (T := TX9) (N := 16) hx hb hts ju_X9 hown hK hP 0 rfl rfl 2 (by decide) (hts _ jq_15_7) (fun _ h9 => h9) rfl dX9_account_217 ?_
                            cases hV
                            exact mRet C rfl dX9_account_220 rfl rfl hP hS
                          · have hV := jF1 hV c8_14
                            refine jTabDef (tgt := 221) hx hb dX9_account_31 (fun k h1 h2 h3 => ?_) (by decide) ?_
                            · rcases (show k = 0 ∨ k = 1 ∨ k = 2 ∨ k = 3 ∨ k = 4 ∨ k = 5 ∨ k = 6 ∨ k = 7 ∨ k = 8 ∨ k = 9 ∨ k = 10 ∨ k = 11 ∨ k = 12 ∨ k = 13 ∨ k = 14 by omega) with rfl | rfl | rfl | rfl | rfl | rfl | rfl | rfl | rfl | rfl | rfl | rfl | rfl | rfl | rfl <;> first | rfl | exact absurd (Int32.toInt_inj.mp (h3.trans (by decide))) c8_0 | exact absurd (Int32.toInt_inj.mp (h3.trans (by decide))) c8_1 | exact absurd (Int32.toInt_inj.mp (h3.trans (by decide))) c8_2 | exact absurd (Int32.toInt_inj.mp (h3.trans (by decide))) c8_3 | exact absurd (Int32.toInt_inj.mp (h3.trans (by decide))) c8_4 | exact absurd (Int32.toInt_inj.mp (h3.trans (by decide))) c8_5 | exact absurd (Int32.toInt_inj.mp (h3.trans (by decide))) c8_6 | exact absurd (Int32.toInt_inj.mp (h3.trans (by decide))) c8_7 | exact absurd (Int32.toInt_inj.mp (h3.trans (by decide))) c8_8 | exact absurd (Int32.toInt_inj.mp (h3.trans (by decide))) c8_9 | exact absurd (Int32.toInt_inj.mp (h3.trans (by decide))) c8_13 | exact absurd (Int32.toInt_inj.mp (h3.trans (by decide))) c8_14
                            · refine lv_aload_n hx hb dX9_account_221 rfl (lv_at hl 1 rfl) ?_
                              refine va_get (D := D) (ci := 11) (v := .ref (a 1)) (C := RX9) (T := TX9) (N := 16) hx hb hts ju_X9 hown hK hP 0 rfl rfl 1 (by decide) (hts _ jq_6_1) (fun _ h9 => h9) rfl dX9_account_222 ?_
                              refine lv_iconst (v := 0) hx hb dX9_account_225 (by decide) ?_
                              refine lv_iload_n hx hb dX9_account_226 rfl (lv_at hl 2 rfl) ?_
                              refine lv_iadd hx hb dX9_account_227 ?_
                              refine lv_bipush (v := 10) hx hb dX9_account_228 (by decide) ?_
                              refine lv_isub hx hb dX9_account_230 ?_
                              obtain ⟨g9, hV⟩ := jIf hV
                              refine va_iald (D := D) (n := 2169) (f := (M7 1)) hx hb hK hP 1 0 rfl rfl (inb_of g9) dX9_account_231 ?_
                              cases hV
                              exact mRet C rfl dX9_account_232 rfl rfl hP hS
  · have hV := jF1 hV c16
    refine lv_iconst (v := 0) hx hb dX9_account_26 (by decide) ?_
    cases hV
    exact mRet C rfl dX9_account_27 rfl rfl hP hS
def F_X9_account (N : Nat)  (M : Nat → Nat → Int32) (v1 : Int32) : Option (Int32 × (Nat → Nat → Int32)) := ((F_X9_in N  v1 (0 : Int32) (14 : Int32)).bind (fun r18 => (if r18 = 0 then (D_X9_account_16 N   M v1 (1 : Int32)) else (D_X9_account_16 N   M v1 (0 : Int32)))))
set_option maxHeartbeats 4000000 in
set_option maxRecDepth 100000 in
theorem k_X9_account (l : Launch) (D : va_G) (G : Nat → ClassId) (a : Nat → Nat) (N : Nat) (M : Nat → Nat → Int32) (v1 : Int32) (r : (Int32 × (Nat → Nat → Int32))) (hV : F_X9_account N  M v1 = some r) : mM l yX9_account (jws yX9_account cX9_account 4 (some .int)) ({ frames := 4, cells := 0, slots := 0, locals := 88 } : Room) [.ref (a 0), .int v1] D G (wM a G M) (wM a G r.2) (some (.int r.1)) := by
  refine mM_of (by decide +kernel) (Nat.le_of_ble_eq_true rfl) (fun p e s m args below meth c ls A C hP hD hA hl => ?_)
  have C : Cx p s m args meth c cX9_account 4 RX9 (some .int) D G := C
  have hS : va_S A s.heap s.heap [] := va_S.rf
  obtain ⟨hx, hb, hr, hml, hts, hown, hlocks, hK0⟩ := id C
  have hK := hK0.1
  have hl : lv_has ls 4 [(0, .ref (a 0)), (1, .int v1)] := hl
  rw [F_X9_account] at hV
  refine lv_aload_n hx hb dX9_account_0 rfl (lv_at hl 0 rfl) ?_
  refine lv_iload_n hx hb dX9_account_1 rfl (lv_at hl 1 rfl) ?_
  refine lv_iconst (v := 0) hx hb dX9_account_2 (by decide) ?_
  refine lv_bipush (v := 14) hx hb dX9_account_3 (by decide) ?_
  obtain ⟨r18, hr18, hV⟩ := jBind hV
  refine jSpI C dX9_account_5 (k_X9_in l D G  N  v1 (0 : Int32) (14 : Int32) r18 hr18) jy_X9_in jq_13_1 jq_13_2 ⟨rfl, rfl, Nat.le_of_ble_eq_true rfl, Nat.le_of_ble_eq_true rfl⟩ ⟨Nat.le_of_ble_eq_true rfl, Nat.le_of_ble_eq_true rfl⟩ jE  hl (rest := [.ref (a 0)]) rfl (Nat.le_of_ble_eq_true rfl) ?_
  refine lv_if_eq (tgt := 15) hx hb dX9_account_8 (by decide) (fun c19 => ?_) (fun c19 => ?_)
  · have hV := jT1 hV c19
    refine lv_iconst (v := 1) hx hb dX9_account_15 (by decide) ?_
    exact B_X9_account_16 C hA N a r   M v1 (1 : Int32) _ _ _ hP hD hS (lv_sub hl [0, 1] rfl) hV
  · have hV := jF1 hV c19
    refine lv_iconst (v := 0) hx hb dX9_account_11 (by decide) ?_
    refine lv_goto (tgt := 16) hx hb dX9_account_12 (by decide) ?_
    exact B_X9_account_16 C hA N a r   M v1 (0 : Int32) _ _ _ hP hD hS (lv_sub hl [0, 1] rfl) hV
