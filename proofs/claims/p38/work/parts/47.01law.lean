def D_L_law_548 (N : Nat) (S : CS) (k488 : (Nat → Nat → Int32) → Int32 → Int32 → Int32 → Int32 → Int32 → Int32 → Int32 → Int32 → Int32 → Int32 → Option Int32) : Nat → (Nat → Nat → Int32) → Int32 → Int32 → Int32 → Int32 → Int32 → Int32 → Int32 → Int32 → Int32 → Int32 → Int32 → Int32 → Int32 → Option Int32
  | 0, _, _, _, _, _, _, _, _, _, _, _, _, _, _ => none
  | n + 1, M, v2, v3, v4, v5, v6, v7, v8, v9, v10, v12, v13, v14, v15 => (if v2 ≤ v15 then ((F_Y8_load N S v12).bind (fun r64 => (if r64 = v14 then ((F_Y8_account N S (8 : Int32)).bind (fun r65 => (if r65 < v14 then none else ((F_Y8_account N S (7 : Int32)).bind (fun r66 => (if v13 ≤ r66 then (D_L_law_735 N S k488 N M v2 v3 v4 v5 v6 v7 v8 (if v9 < v14 then v14 else v9) v10 v12 (0 : Int32)) else none)))))) else none))) else ((F_Y8_production N S v15 (5 : Int32)).bind (fun r70 => ((F_Y8_production N S v15 (6 : Int32)).bind (fun r71 => (D_L_law_579 N S k488 (D_L_law_548 N S k488 n) N M v2 v3 v4 v5 v6 v7 v8 v9 v10 v12 v13 v14 v15 r70 r71 (0 : Int32) (0 : Int32)))))))
set_option maxHeartbeats 4000000 in
set_option maxRecDepth 100000 in
theorem B_L_law_548 {p : Program} {l : Launch} {e : Env} {s : State} {m : MethodId} {args : Array Value} {below : List Frame} {meth : Method} {c : Code} {D : va_G} {G : Nat → ClassId} {A : Nat → Prop} {Q : State → Prop} {ret : Option FieldType} (C : Cx p s m args meth c cL_law 20 RL ret D G) (hA : ∀ q : Nat, s.heap.size ≤ q → A q) (N : Nat) (S : CS) (B : Nat → Nat → Nat) (tA : Nat → Nat) (r : Int32) (hend : ∀ (H : Heap) (locs : List Loc) (ls : Array Slot), va_S A s.heap H locs → W p l e room_1 s m args below meth c H locs 470 3491 Q (F0 m 1127 ls [.int 1])) (k488 : (Nat → Nat → Int32) → Int32 → Int32 → Int32 → Int32 → Int32 → Int32 → Int32 → Int32 → Int32 → Int32 → Option Int32) (hk488 : (∀ (M : Nat → Nat → Int32) (v2 : Int32) (v3 : Int32) (v4 : Int32) (v5 : Int32) (v6 : Int32) (v7 : Int32) (v8 : Int32) (v9 : Int32) (v10 : Int32) (v12 : Int32) (ls : Array Slot) (H : Heap) (locs : List Loc), va_P D vwCl (wLw B G tA S M) H → va_D A (wLw B G tA S M) → va_S A s.heap H locs → lv_has ls 20 [(1, .ref (B 9 0)), (2, .int v2), (3, .int v3), (4, .int v4), (5, .int v5), (6, .int v6), (7, .int v7), (8, .int v8), (9, .int v9), (10, .int v10), (11, .ref (tA 0)), (12, .int v12)] → k488 M v2 v3 v4 v5 v6 v7 v8 v9 v10 v12 = some r → W p l e room_1 s m args below meth c H locs 470 3491 Q (F0 m 488 ls []))) : (∀ (n : Nat) (M : Nat → Nat → Int32) (v2 : Int32) (v3 : Int32) (v4 : Int32) (v5 : Int32) (v6 : Int32) (v7 : Int32) (v8 : Int32) (v9 : Int32) (v10 : Int32) (v12 : Int32) (v13 : Int32) (v14 : Int32) (v15 : Int32) (ls : Array Slot) (H : Heap) (locs : List Loc), va_P D vwCl (wLw B G tA S M) H → va_D A (wLw B G tA S M) → va_S A s.heap H locs → lv_has ls 20 [(1, .ref (B 9 0)), (2, .int v2), (3, .int v3), (4, .int v4), (5, .int v5), (6, .int v6), (7, .int v7), (8, .int v8), (9, .int v9), (10, .int v10), (11, .ref (tA 0)), (12, .int v12), (13, .int v13), (14, .int v14), (15, .int v15)] → D_L_law_548 N S k488 n M v2 v3 v4 v5 v6 v7 v8 v9 v10 v12 v13 v14 v15 = some r → W p l e room_1 s m args below meth c H locs 470 3491 Q (F0 m 548 ls [])) := by
  have C := C
  obtain ⟨hx, hb, hr, hml, hts, hown, hlocks, hK0⟩ := id C
  have hK := hK0.1
  intro n
  induction n with
  | zero =>
    intro M v2 v3 v4 v5 v6 v7 v8 v9 v10 v12 v13 v14 v15 ls H locs hP hD hS hl hV
    rw [D_L_law_548] at hV
    cases hV
  | succ n ih =>
    intro M v2 v3 v4 v5 v6 v7 v8 v9 v10 v12 v13 v14 v15 ls H locs hP hD hS hl hV
    rw [D_L_law_548] at hV
    refine lv_iload hx hb dL_law_548 (lv_at hl 14 rfl) ?_
    refine lv_iload_n hx hb dL_law_550 rfl (lv_at hl 1 rfl) ?_
    refine lv_icmp_ge (tgt := 688) hx hb dL_law_551 (by decide) (fun c72 => ?_) (fun c72 => ?_)
    · have hV := jT1 hV c72
      refine lv_aload_n hx hb dL_law_688 rfl (lv_at hl 0 rfl) ?_
      refine lv_iload hx hb dL_law_689 (lv_at hl 11 rfl) ?_
      obtain ⟨r64, hr64, hV⟩ := jBind hV
      refine jVpI C dL_law_691 (k_Y8_load l D G B N S v12 r64 hr64) jy_X8_load jq_20_14 jq_20_15 jq_20_16 ⟨rfl, rfl, Nat.le_of_ble_eq_true rfl, Nat.le_of_ble_eq_true rfl⟩ ⟨Nat.le_of_ble_eq_true rfl, Nat.le_of_ble_eq_true rfl⟩ (jLeft hP) (ci := 10) (iw := 0) rfl rfl rfl hl (As := [.int v12]) (rest := []) rfl (Nat.le_of_ble_eq_true rfl) ?_
      refine lv_iload hx hb dL_law_694 (lv_at hl 13 rfl) ?_
      refine lv_icmp_ne (tgt := 721) hx hb dL_law_696 (by decide) (fun c69 => ?_) (fun c69 => ?_)
      · have hV := jF1 hV c69
        refine lv_iconst (v := 0) hx hb dL_law_721 (by decide) ?_
        cases hV
      · have hV := jT1 hV c69
        refine lv_iload hx hb dL_law_699 (lv_at hl 13 rfl) ?_
        refine lv_aload_n hx hb dL_law_701 rfl (lv_at hl 0 rfl) ?_
        refine lv_bipush (v := 8) hx hb dL_law_702 (by decide) ?_
        obtain ⟨r65, hr65, hV⟩ := jBind hV
        refine jVpI C dL_law_704 (k_Y8_account l D G B N S (8 : Int32) r65 hr65) jy_X8_account jq_5_22 jq_5_23 jq_6_0 ⟨rfl, rfl, Nat.le_of_ble_eq_true rfl, Nat.le_of_ble_eq_true rfl⟩ ⟨Nat.le_of_ble_eq_true rfl, Nat.le_of_ble_eq_true rfl⟩ (jLeft hP) (ci := 10) (iw := 0) rfl rfl rfl hl (As := [.int (8 : Int32)]) (rest := [.int v14]) rfl (Nat.le_of_ble_eq_true rfl) ?_
        refine lv_icmp_gt (tgt := 721) hx hb dL_law_707 (by decide) (fun c68 => ?_) (fun c68 => ?_)
        · have hV := jT1 hV c68
          refine lv_iconst (v := 0) hx hb dL_law_721 (by decide) ?_
          cases hV
        · have hV := jF1 hV c68
          refine lv_iload hx hb dL_law_710 (lv_at hl 12 rfl) ?_
          refine lv_aload_n hx hb dL_law_712 rfl (lv_at hl 0 rfl) ?_
          refine lv_bipush (v := 7) hx hb dL_law_713 (by decide) ?_
          obtain ⟨r66, hr66, hV⟩ := jBind hV
          refine jVpI C dL_law_715 (k_Y8_account l D G B N S (7 : Int32) r66 hr66) jy_X8_account jq_5_22 jq_5_23 jq_6_0 ⟨rfl, rfl, Nat.le_of_ble_eq_true rfl, Nat.le_of_ble_eq_true rfl⟩ ⟨Nat.le_of_ble_eq_true rfl, Nat.le_of_ble_eq_true rfl⟩ (jLeft hP) (ci := 10) (iw := 0) rfl rfl rfl hl (As := [.int (7 : Int32)]) (rest := [.int v13]) rfl (Nat.le_of_ble_eq_true rfl) ?_
          refine lv_icmp_le (tgt := 723) hx hb dL_law_718 (by decide) (fun c67 => ?_) (fun c67 => ?_)
          · have hV := jT1 hV c67
            refine lv_iload hx hb dL_law_723 (lv_at hl 8 rfl) ?_
            refine lv_iload hx hb dL_law_725 (lv_at hl 13 rfl) ?_
            refine va_mmax hx hb (by rw [hml]; exact hl.1.symm) hown (hts _ jq_1_5) (hts _ jq_1_6) (hts _ jq_1_7) (hts _ jq_1_8) (Nat.le_of_ble_eq_true rfl) (Nat.le_of_ble_eq_true rfl) (Nat.le_of_ble_eq_true rfl) (Nat.le_of_ble_eq_true rfl) (rest := []) dL_law_727 ?_
            refine lv_istore (lv' := [(9, .int (if v9 < v14 then v14 else v9)), (1, .ref (B 9 0)), (2, .int v2), (3, .int v3), (4, .int v4), (5, .int v5), (6, .int v6), (7, .int v7), (8, .int v8), (10, .int v10), (11, .ref (tA 0)), (12, .int v12), (13, .int v13), (14, .int v14), (15, .int v15)]) hx hb dL_law_730 hl (by decide) rfl (fun ls hl => ?_)
            refine lv_iconst (v := 0) hx hb dL_law_732 (by decide) ?_
            refine lv_istore (lv' := [(15, .int (0 : Int32)), (9, .int (if v9 < v14 then v14 else v9)), (1, .ref (B 9 0)), (2, .int v2), (3, .int v3), (4, .int v4), (5, .int v5), (6, .int v6), (7, .int v7), (8, .int v8), (10, .int v10), (11, .ref (tA 0)), (12, .int v12), (13, .int v13), (14, .int v14)]) hx hb dL_law_733 hl (by decide) rfl (fun ls hl => ?_)
            exact B_L_law_735 C hA N S B tA r hend k488 hk488 N M v2 v3 v4 v5 v6 v7 v8 (if v9 < v14 then v14 else v9) v10 v12 (0 : Int32) _ _ _ hP hD hS (lv_sub hl [2, 3, 4, 5, 6, 7, 8, 9, 1, 10, 11, 12, 0] rfl) hV
          · have hV := jF1 hV c67
            refine lv_iconst (v := 0) hx hb dL_law_721 (by decide) ?_
            cases hV
    · have hV := jF1 hV c72
      refine lv_aload_n hx hb dL_law_554 rfl (lv_at hl 0 rfl) ?_
      refine lv_iload hx hb dL_law_555 (lv_at hl 14 rfl) ?_
      refine lv_iconst (v := 5) hx hb dL_law_557 (by decide) ?_
      obtain ⟨r70, hr70, hV⟩ := jBind hV
      refine jVpI C dL_law_558 (k_Y8_production l D G B N S v15 (5 : Int32) r70 hr70) jy_X8_production jq_20_1 jq_20_2 jq_20_3 ⟨rfl, rfl, Nat.le_of_ble_eq_true rfl, Nat.le_of_ble_eq_true rfl⟩ ⟨Nat.le_of_ble_eq_true rfl, Nat.le_of_ble_eq_true rfl⟩ (jLeft hP) (ci := 10) (iw := 0) rfl rfl rfl hl (As := [.int v15, .int (5 : Int32)]) (rest := []) rfl (Nat.le_of_ble_eq_true rfl) ?_
      refine lv_istore (lv' := [(16, .int r70), (1, .ref (B 9 0)), (2, .int v2), (3, .int v3), (4, .int v4), (5, .int v5), (6, .int v6), (7, .int v7), (8, .int v8), (9, .int v9), (10, .int v10), (11, .ref (tA 0)), (12, .int v12), (13, .int v13), (14, .int v14), (15, .int v15)]) hx hb dL_law_561 hl (by decide) rfl (fun ls hl => ?_)
      refine lv_aload_n hx hb dL_law_563 rfl (lv_at hl 1 rfl) ?_
      refine lv_iload hx hb dL_law_564 (lv_at hl 15 rfl) ?_
      refine lv_bipush (v := 6) hx hb dL_law_566 (by decide) ?_
      obtain ⟨r71, hr71, hV⟩ := jBind hV
      refine jVpI C dL_law_568 (k_Y8_production l D G B N S v15 (6 : Int32) r71 hr71) jy_X8_production jq_20_1 jq_20_2 jq_20_3 ⟨rfl, rfl, Nat.le_of_ble_eq_true rfl, Nat.le_of_ble_eq_true rfl⟩ ⟨Nat.le_of_ble_eq_true rfl, Nat.le_of_ble_eq_true rfl⟩ (jLeft hP) (ci := 10) (iw := 0) rfl rfl rfl hl (As := [.int v15, .int (6 : Int32)]) (rest := []) rfl (Nat.le_of_ble_eq_true rfl) ?_
      refine lv_istore (lv' := [(17, .int r71), (16, .int r70), (1, .ref (B 9 0)), (2, .int v2), (3, .int v3), (4, .int v4), (5, .int v5), (6, .int v6), (7, .int v7), (8, .int v8), (9, .int v9), (10, .int v10), (11, .ref (tA 0)), (12, .int v12), (13, .int v13), (14, .int v14), (15, .int v15)]) hx hb dL_law_571 hl (by decide) rfl (fun ls hl => ?_)
      refine lv_iconst (v := 0) hx hb dL_law_573 (by decide) ?_
      refine lv_istore (lv' := [(18, .int (0 : Int32)), (17, .int r71), (16, .int r70), (1, .ref (B 9 0)), (2, .int v2), (3, .int v3), (4, .int v4), (5, .int v5), (6, .int v6), (7, .int v7), (8, .int v8), (9, .int v9), (10, .int v10), (11, .ref (tA 0)), (12, .int v12), (13, .int v13), (14, .int v14), (15, .int v15)]) hx hb dL_law_574 hl (by decide) rfl (fun ls hl => ?_)
      refine lv_iconst (v := 0) hx hb dL_law_576 (by decide) ?_
      refine lv_istore (lv' := [(19, .int (0 : Int32)), (18, .int (0 : Int32)), (17, .int r71), (16, .int r70), (1, .ref (B 9 0)), (2, .int v2), (3, .int v3), (4, .int v4), (5, .int v5), (6, .int v6), (7, .int v7), (8, .int v8), (9, .int v9), (10, .int v10), (11, .ref (tA 0)), (12, .int v12), (13, .int v13), (14, .int v14), (15, .int v15)]) hx hb dL_law_577 hl (by decide) rfl (fun ls hl => ?_)
      exact B_L_law_579 C hA N S B tA r hend k488 (D_L_law_548 N S k488 n) hk488 ih N M v2 v3 v4 v5 v6 v7 v8 v9 v10 v12 v13 v14 v15 r70 r71 (0 : Int32) (0 : Int32) _ _ _ hP hD hS (lv_sub hl [4, 5, 6, 7, 8, 9, 10, 11, 12, 13, 14, 15, 16, 17, 18, 3, 2, 1, 0] rfl) hV
def D_L_law_504 (N : Nat) (S : CS) (k488 : (Nat → Nat → Int32) → Int32 → Int32 → Int32 → Int32 → Int32 → Int32 → Int32 → Int32 → Int32 → Int32 → Option Int32) : Nat → (Nat → Nat → Int32) → Int32 → Int32 → Int32 → Int32 → Int32 → Int32 → Int32 → Int32 → Int32 → Int32 → Int32 → Int32 → Int32 → Option Int32
  | 0, _, _, _, _, _, _, _, _, _, _, _, _, _, _ => none
  | n + 1, M, v2, v3, v4, v5, v6, v7, v8, v9, v10, v12, v13, v14, v15 => (if v3 ≤ v15 then (D_L_law_548 N S k488 N M v2 v3 v4 v5 v6 v7 v8 v9 v10 v12 v13 v14 (0 : Int32)) else ((F_Y8_performance N S v15 (2 : Int32)).bind (fun r73 => (if r73 = v12 then ((F_Y8_performance N S v15 (0 : Int32)).bind (fun r74 => ((F_Y8_production N S r74 (1 : Int32)).bind (fun r75 => (D_L_law_504 N S k488 n M v2 v3 v4 v5 v6 v7 v8 v9 v10 v12 (v13 + r75) v14 (v15 + 1)))))) else (D_L_law_504 N S k488 n M v2 v3 v4 v5 v6 v7 v8 v9 v10 v12 v13 v14 (v15 + 1))))))
set_option maxHeartbeats 4000000 in
set_option maxRecDepth 100000 in
theorem B_L_law_504 {p : Program} {l : Launch} {e : Env} {s : State} {m : MethodId} {args : Array Value} {below : List Frame} {meth : Method} {c : Code} {D : va_G} {G : Nat → ClassId} {A : Nat → Prop} {Q : State → Prop} {ret : Option FieldType} (C : Cx p s m args meth c cL_law 20 RL ret D G) (hA : ∀ q : Nat, s.heap.size ≤ q → A q) (N : Nat) (S : CS) (B : Nat → Nat → Nat) (tA : Nat → Nat) (r : Int32) (hend : ∀ (H : Heap) (locs : List Loc) (ls : Array Slot), va_S A s.heap H locs → W p l e room_1 s m args below meth c H locs 470 3491 Q (F0 m 1127 ls [.int 1])) (k488 : (Nat → Nat → Int32) → Int32 → Int32 → Int32 → Int32 → Int32 → Int32 → Int32 → Int32 → Int32 → Int32 → Option Int32) (hk488 : (∀ (M : Nat → Nat → Int32) (v2 : Int32) (v3 : Int32) (v4 : Int32) (v5 : Int32) (v6 : Int32) (v7 : Int32) (v8 : Int32) (v9 : Int32) (v10 : Int32) (v12 : Int32) (ls : Array Slot) (H : Heap) (locs : List Loc), va_P D vwCl (wLw B G tA S M) H → va_D A (wLw B G tA S M) → va_S A s.heap H locs → lv_has ls 20 [(1, .ref (B 9 0)), (2, .int v2), (3, .int v3), (4, .int v4), (5, .int v5), (6, .int v6), (7, .int v7), (8, .int v8), (9, .int v9), (10, .int v10), (11, .ref (tA 0)), (12, .int v12)] → k488 M v2 v3 v4 v5 v6 v7 v8 v9 v10 v12 = some r → W p l e room_1 s m args below meth c H locs 470 3491 Q (F0 m 488 ls []))) : (∀ (n : Nat) (M : Nat → Nat → Int32) (v2 : Int32) (v3 : Int32) (v4 : Int32) (v5 : Int32) (v6 : Int32) (v7 : Int32) (v8 : Int32) (v9 : Int32) (v10 : Int32) (v12 : Int32) (v13 : Int32) (v14 : Int32) (v15 : Int32) (ls : Array Slot) (H : Heap) (locs : List Loc), va_P D vwCl (wLw B G tA S M) H → va_D A (wLw B G tA S M) → va_S A s.heap H locs → lv_has ls 20 [(1, .ref (B 9 0)), (2, .int v2), (3, .int v3), (4, .int v4), (5, .int v5), (6, .int v6), (7, .int v7), (8, .int v8), (9, .int v9), (10, .int v10), (11, .ref (tA 0)), (12, .int v12), (13, .int v13), (14, .int v14), (15, .int v15)] → D_L_law_504 N S k488 n M v2 v3 v4 v5 v6 v7 v8 v9 v10 v12 v13 v14 v15 = some r → W p l e room_1 s m args below meth c H locs 470 3491 Q (F0 m 504 ls [])) := by
  have C := C
  obtain ⟨hx, hb, hr, hml, hts, hown, hlocks, hK0⟩ := id C
  have hK := hK0.1
  intro n
  induction n with
  | zero =>
    intro M v2 v3 v4 v5 v6 v7 v8 v9 v10 v12 v13 v14 v15 ls H locs hP hD hS hl hV
    rw [D_L_law_504] at hV
    cases hV
  | succ n ih =>
    intro M v2 v3 v4 v5 v6 v7 v8 v9 v10 v12 v13 v14 v15 ls H locs hP hD hS hl hV
    rw [D_L_law_504] at hV
    refine lv_iload hx hb dL_law_504 (lv_at hl 14 rfl) ?_
    refine lv_iload_n hx hb dL_law_506 rfl (lv_at hl 2 rfl) ?_
    refine lv_icmp_ge (tgt := 545) hx hb dL_law_507 (by decide) (fun c77 => ?_) (fun c77 => ?_)
    · have hV := jT1 hV c77
      refine lv_iconst (v := 0) hx hb dL_law_545 (by decide) ?_
      refine lv_istore (lv' := [(15, .int (0 : Int32)), (1, .ref (B 9 0)), (2, .int v2), (3, .int v3), (4, .int v4), (5, .int v5), (6, .int v6), (7, .int v7), (8, .int v8), (9, .int v9), (10, .int v10), (11, .ref (tA 0)), (12, .int v12), (13, .int v13), (14, .int v14)]) hx hb dL_law_546 hl (by decide) rfl (fun ls hl => ?_)
      exact B_L_law_548 C hA N S B tA r hend k488 hk488 N M v2 v3 v4 v5 v6 v7 v8 v9 v10 v12 v13 v14 (0 : Int32) _ _ _ hP hD hS (lv_sub hl [1, 2, 3, 4, 5, 6, 7, 8, 9, 10, 11, 12, 13, 14, 0] rfl) hV
    · have hV := jF1 hV c77
      refine lv_aload_n hx hb dL_law_510 rfl (lv_at hl 0 rfl) ?_
      refine lv_iload hx hb dL_law_511 (lv_at hl 14 rfl) ?_
      refine lv_iconst (v := 2) hx hb dL_law_513 (by decide) ?_
      obtain ⟨r73, hr73, hV⟩ := jBind hV
      refine jVpI C dL_law_514 (k_Y8_performance l D G B N S v15 (2 : Int32) r73 hr73) jy_X8_performance jq_18_14 jq_18_15 jq_18_16 ⟨rfl, rfl, Nat.le_of_ble_eq_true rfl, Nat.le_of_ble_eq_true rfl⟩ ⟨Nat.le_of_ble_eq_true rfl, Nat.le_of_ble_eq_true rfl⟩ (jLeft hP) (ci := 10) (iw := 0) rfl rfl rfl hl (As := [.int v15, .int (2 : Int32)]) (rest := []) rfl (Nat.le_of_ble_eq_true rfl) ?_
      refine lv_iload hx hb dL_law_517 (lv_at hl 11 rfl) ?_
      refine lv_icmp_ne (tgt := 539) hx hb dL_law_519 (by decide) (fun c76 => ?_) (fun c76 => ?_)
      · have hV := jF1 hV c76
        refine lv_iinc (v := (v15 + 1)) (lv' := [(15, .int (v15 + 1)), (1, .ref (B 9 0)), (2, .int v2), (3, .int v3), (4, .int v4), (5, .int v5), (6, .int v6), (7, .int v7), (8, .int v8), (9, .int v9), (10, .int v10), (11, .ref (tA 0)), (12, .int v12), (13, .int v13), (14, .int v14)]) hx hb dL_law_539 hl (k := 14) rfl rfl (by decide) rfl (fun ls hl => ?_)
        refine lv_goto (tgt := 504) hx hb dL_law_542 (by decide) ?_
        exact ih M v2 v3 v4 v5 v6 v7 v8 v9 v10 v12 v13 v14 (v15 + 1) _ _ _ hP hD hS (lv_sub hl [1, 2, 3, 4, 5, 6, 7, 8, 9, 10, 11, 12, 13, 14, 0] rfl) hV
      · have hV := jT1 hV c76
        refine lv_iload hx hb dL_law_522 (lv_at hl 12 rfl) ?_
        refine lv_aload_n hx hb dL_law_524 rfl (lv_at hl 0 rfl) ?_
        refine lv_aload_n hx hb dL_law_525 rfl (lv_at hl 0 rfl) ?_
        refine lv_iload hx hb dL_law_526 (lv_at hl 14 rfl) ?_
        refine lv_iconst (v := 0) hx hb dL_law_528 (by decide) ?_
        obtain ⟨r74, hr74, hV⟩ := jBind hV
        refine jVpI C dL_law_529 (k_Y8_performance l D G B N S v15 (0 : Int32) r74 hr74) jy_X8_performance jq_18_14 jq_18_15 jq_18_16 ⟨rfl, rfl, Nat.le_of_ble_eq_true rfl, Nat.le_of_ble_eq_true rfl⟩ ⟨Nat.le_of_ble_eq_true rfl, Nat.le_of_ble_eq_true rfl⟩ (jLeft hP) (ci := 10) (iw := 0) rfl rfl rfl hl (As := [.int v15, .int (0 : Int32)]) (rest := [.ref (B 9 0), .int v13]) rfl (Nat.le_of_ble_eq_true rfl) ?_
        refine lv_iconst (v := 1) hx hb dL_law_532 (by decide) ?_
        obtain ⟨r75, hr75, hV⟩ := jBind hV
        refine jVpI C dL_law_533 (k_Y8_production l D G B N S r74 (1 : Int32) r75 hr75) jy_X8_production jq_20_1 jq_20_2 jq_20_3 ⟨rfl, rfl, Nat.le_of_ble_eq_true rfl, Nat.le_of_ble_eq_true rfl⟩ ⟨Nat.le_of_ble_eq_true rfl, Nat.le_of_ble_eq_true rfl⟩ (jLeft hP) (ci := 10) (iw := 0) rfl rfl rfl hl (As := [.int r74, .int (1 : Int32)]) (rest := [.int v13]) rfl (Nat.le_of_ble_eq_true rfl) ?_
        refine lv_iadd hx hb dL_law_536 ?_
        refine lv_istore (lv' := [(13, .int (v13 + r75)), (1, .ref (B 9 0)), (2, .int v2), (3, .int v3), (4, .int v4), (5, .int v5), (6, .int v6), (7, .int v7), (8, .int v8), (9, .int v9), (10, .int v10), (11, .ref (tA 0)), (12, .int v12), (14, .int v14), (15, .int v15)]) hx hb dL_law_537 hl (by decide) rfl (fun ls hl => ?_)
        refine lv_iinc (v := (v15 + 1)) (lv' := [(15, .int (v15 + 1)), (13, .int (v13 + r75)), (1, .ref (B 9 0)), (2, .int v2), (3, .int v3), (4, .int v4), (5, .int v5), (6, .int v6), (7, .int v7), (8, .int v8), (9, .int v9), (10, .int v10), (11, .ref (tA 0)), (12, .int v12), (14, .int v14)]) hx hb dL_law_539 hl (k := 14) rfl rfl (by decide) rfl (fun ls hl => ?_)
        refine lv_goto (tgt := 504) hx hb dL_law_542 (by decide) ?_
        exact ih M v2 v3 v4 v5 v6 v7 v8 v9 v10 v12 (v13 + r75) v14 (v15 + 1) _ _ _ hP hD hS (lv_sub hl [2, 3, 4, 5, 6, 7, 8, 9, 10, 11, 12, 13, 1, 14, 0] rfl) hV
def D_L_law_488 (N : Nat) (S : CS) : Nat → (Nat → Nat → Int32) → Int32 → Int32 → Int32 → Int32 → Int32 → Int32 → Int32 → Int32 → Int32 → Int32 → Option Int32
  | 0, _, _, _, _, _, _, _, _, _, _, _ => none
  | n + 1, M, v2, v3, v4, v5, v6, v7, v8, v9, v10, v12 => (if (30 : Int32) ≤ v12 then (D_L_law_796 N S  N M v2 v3 v4 v5 v6 v7 v8 v9 v10 (0 : Int32)) else (D_L_law_504 N S (D_L_law_488 N S  n) N M v2 v3 v4 v5 v6 v7 v8 v9 v10 v12 (0 : Int32) (0 : Int32) (0 : Int32)))
set_option maxHeartbeats 4000000 in
set_option maxRecDepth 100000 in
theorem B_L_law_488 {p : Program} {l : Launch} {e : Env} {s : State} {m : MethodId} {args : Array Value} {below : List Frame} {meth : Method} {c : Code} {D : va_G} {G : Nat → ClassId} {A : Nat → Prop} {Q : State → Prop} {ret : Option FieldType} (C : Cx p s m args meth c cL_law 20 RL ret D G) (hA : ∀ q : Nat, s.heap.size ≤ q → A q) (N : Nat) (S : CS) (B : Nat → Nat → Nat) (tA : Nat → Nat) (r : Int32) (hend : ∀ (H : Heap) (locs : List Loc) (ls : Array Slot), va_S A s.heap H locs → W p l e room_1 s m args below meth c H locs 470 3491 Q (F0 m 1127 ls [.int 1])) : (∀ (n : Nat) (M : Nat → Nat → Int32) (v2 : Int32) (v3 : Int32) (v4 : Int32) (v5 : Int32) (v6 : Int32) (v7 : Int32) (v8 : Int32) (v9 : Int32) (v10 : Int32) (v12 : Int32) (ls : Array Slot) (H : Heap) (locs : List Loc), va_P D vwCl (wLw B G tA S M) H → va_D A (wLw B G tA S M) → va_S A s.heap H locs → lv_has ls 20 [(1, .ref (B 9 0)), (2, .int v2), (3, .int v3), (4, .int v4), (5, .int v5), (6, .int v6), (7, .int v7), (8, .int v8), (9, .int v9), (10, .int v10), (11, .ref (tA 0)), (12, .int v12)] → D_L_law_488 N S  n M v2 v3 v4 v5 v6 v7 v8 v9 v10 v12 = some r → W p l e room_1 s m args below meth c H locs 470 3491 Q (F0 m 488 ls [])) := by
  have C := C
  obtain ⟨hx, hb, hr, hml, hts, hown, hlocks, hK0⟩ := id C
  have hK := hK0.1
  intro n
  induction n with
  | zero =>
    intro M v2 v3 v4 v5 v6 v7 v8 v9 v10 v12 ls H locs hP hD hS hl hV
    rw [D_L_law_488] at hV
    cases hV
  | succ n ih =>
    intro M v2 v3 v4 v5 v6 v7 v8 v9 v10 v12 ls H locs hP hD hS hl hV
    rw [D_L_law_488] at hV
    refine lv_iload hx hb dL_law_488 (lv_at hl 11 rfl) ?_
    refine lv_bipush (v := 30) hx hb dL_law_490 (by decide) ?_
    refine lv_icmp_ge (tgt := 793) hx hb dL_law_492 (by decide) (fun c78 => ?_) (fun c78 => ?_)
    · have hV := jT1 hV c78
      refine lv_iconst (v := 0) hx hb dL_law_793 (by decide) ?_
      refine lv_istore (lv' := [(12, .int (0 : Int32)), (1, .ref (B 9 0)), (2, .int v2), (3, .int v3), (4, .int v4), (5, .int v5), (6, .int v6), (7, .int v7), (8, .int v8), (9, .int v9), (10, .int v10), (11, .ref (tA 0))]) hx hb dL_law_794 hl (by decide) rfl (fun ls hl => ?_)
      exact B_L_law_796 C hA N S B tA r hend   N M v2 v3 v4 v5 v6 v7 v8 v9 v10 (0 : Int32) _ _ _ hP hD hS (lv_sub hl [1, 2, 3, 4, 5, 6, 7, 8, 9, 10, 0] rfl) hV
    · have hV := jF1 hV c78
      refine lv_iconst (v := 0) hx hb dL_law_495 (by decide) ?_
      refine lv_istore (lv' := [(13, .int (0 : Int32)), (1, .ref (B 9 0)), (2, .int v2), (3, .int v3), (4, .int v4), (5, .int v5), (6, .int v6), (7, .int v7), (8, .int v8), (9, .int v9), (10, .int v10), (11, .ref (tA 0)), (12, .int v12)]) hx hb dL_law_496 hl (by decide) rfl (fun ls hl => ?_)
      refine lv_iconst (v := 0) hx hb dL_law_498 (by decide) ?_
      refine lv_istore (lv' := [(14, .int (0 : Int32)), (13, .int (0 : Int32)), (1, .ref (B 9 0)), (2, .int v2), (3, .int v3), (4, .int v4), (5, .int v5), (6, .int v6), (7, .int v7), (8, .int v8), (9, .int v9), (10, .int v10), (11, .ref (tA 0)), (12, .int v12)]) hx hb dL_law_499 hl (by decide) rfl (fun ls hl => ?_)
      refine lv_iconst (v := 0) hx hb dL_law_501 (by decide) ?_
      refine lv_istore (lv' := [(15, .int (0 : Int32)), (14, .int (0 : Int32)), (13, .int (0 : Int32)), (1, .ref (B 9 0)), (2, .int v2), (3, .int v3), (4, .int v4), (5, .int v5), (6, .int v6), (7, .int v7), (8, .int v8), (9, .int v9), (10, .int v10), (11, .ref (tA 0)), (12, .int v12)]) hx hb dL_law_502 hl (by decide) rfl (fun ls hl => ?_)
      exact B_L_law_504 C hA N S B tA r hend (D_L_law_488 N S  n) ih N M v2 v3 v4 v5 v6 v7 v8 v9 v10 v12 (0 : Int32) (0 : Int32) (0 : Int32) _ _ _ hP hD hS (lv_sub hl [3, 4, 5, 6, 7, 8, 9, 10, 11, 12, 13, 14, 2, 1, 0] rfl) hV
def D_L_law_435 (N : Nat) (S : CS) (k126 : (Nat → Nat → Int32) → Int32 → Int32 → Int32 → Int32 → Int32 → Int32 → Int32 → Int32 → Int32 → Int32 → Option Int32) : Nat → (Nat → Nat → Int32) → Int32 → Int32 → Int32 → Int32 → Int32 → Int32 → Int32 → Int32 → Int32 → Int32 → Int32 → Option Int32
  | 0, _, _, _, _, _, _, _, _, _, _, _, _ => none
  | n + 1, M, v2, v3, v4, v5, v6, v7, v8, v9, v10, v12, v17 => ((F_Y8_performance N S v12 (6 : Int32)).bind (fun r79 => (if r79 ≤ v17 then (k126 M v2 v3 v4 v5 v6 v7 v8 v9 v10 (v12 + 1)) else ((F_Y8_waiting N S v12 v17 (1 : Int32)).bind (fun r80 => ((F_Y8_waiting N S v12 (v17 - (1 : Int32)) (1 : Int32)).bind (fun r81 => (if r80 ≤ r81 then (D_L_law_435 N S k126 n M v2 v3 v4 v5 v6 v7 v8 v9 v10 v12 (v17 + 1)) else none))))))))
set_option maxHeartbeats 4000000 in
set_option maxRecDepth 100000 in
theorem B_L_law_435 {p : Program} {l : Launch} {e : Env} {s : State} {m : MethodId} {args : Array Value} {below : List Frame} {meth : Method} {c : Code} {D : va_G} {G : Nat → ClassId} {A : Nat → Prop} {Q : State → Prop} {ret : Option FieldType} (C : Cx p s m args meth c cL_law 20 RL ret D G) (hA : ∀ q : Nat, s.heap.size ≤ q → A q) (N : Nat) (S : CS) (B : Nat → Nat → Nat) (tA : Nat → Nat) (r : Int32) (hend : ∀ (H : Heap) (locs : List Loc) (ls : Array Slot), va_S A s.heap H locs → W p l e room_1 s m args below meth c H locs 470 3491 Q (F0 m 1127 ls [.int 1])) (k126 : (Nat → Nat → Int32) → Int32 → Int32 → Int32 → Int32 → Int32 → Int32 → Int32 → Int32 → Int32 → Int32 → Option Int32) (hk126 : (∀ (M : Nat → Nat → Int32) (v2 : Int32) (v3 : Int32) (v4 : Int32) (v5 : Int32) (v6 : Int32) (v7 : Int32) (v8 : Int32) (v9 : Int32) (v10 : Int32) (v12 : Int32) (ls : Array Slot) (H : Heap) (locs : List Loc), va_P D vwCl (wLw B G tA S M) H → va_D A (wLw B G tA S M) → va_S A s.heap H locs → lv_has ls 20 [(1, .ref (B 9 0)), (2, .int v2), (3, .int v3), (4, .int v4), (5, .int v5), (6, .int v6), (7, .int v7), (8, .int v8), (9, .int v9), (10, .int v10), (11, .ref (tA 0)), (12, .int v12)] → k126 M v2 v3 v4 v5 v6 v7 v8 v9 v10 v12 = some r → W p l e room_1 s m args below meth c H locs 470 3491 Q (F0 m 126 ls []))) : (∀ (n : Nat) (M : Nat → Nat → Int32) (v2 : Int32) (v3 : Int32) (v4 : Int32) (v5 : Int32) (v6 : Int32) (v7 : Int32) (v8 : Int32) (v9 : Int32) (v10 : Int32) (v12 : Int32) (v17 : Int32) (ls : Array Slot) (H : Heap) (locs : List Loc), va_P D vwCl (wLw B G tA S M) H → va_D A (wLw B G tA S M) → va_S A s.heap H locs → lv_has ls 20 [(1, .ref (B 9 0)), (2, .int v2), (3, .int v3), (4, .int v4), (5, .int v5), (6, .int v6), (7, .int v7), (8, .int v8), (9, .int v9), (10, .int v10), (11, .ref (tA 0)), (12, .int v12), (17, .int v17)] → D_L_law_435 N S k126 n M v2 v3 v4 v5 v6 v7 v8 v9 v10 v12 v17 = some r → W p l e room_1 s m args below meth c H locs 470 3491 Q (F0 m 435 ls [])) := by
  have C := C
  obtain ⟨hx, hb, hr, hml, hts, hown, hlocks, hK0⟩ := id C
  have hK := hK0.1
  intro n
  induction n with
  | zero =>
    intro M v2 v3 v4 v5 v6 v7 v8 v9 v10 v12 v17 ls H locs hP hD hS hl hV
    rw [D_L_law_435] at hV
    cases hV
  | succ n ih =>
    intro M v2 v3 v4 v5 v6 v7 v8 v9 v10 v12 v17 ls H locs hP hD hS hl hV
    rw [D_L_law_435] at hV
    refine lv_iload hx hb dL_law_435 (lv_at hl 12 rfl) ?_
    refine lv_aload_n hx hb dL_law_437 rfl (lv_at hl 0 rfl) ?_
    refine lv_iload hx hb dL_law_438 (lv_at hl 11 rfl) ?_
    refine lv_bipush (v := 6) hx hb dL_law_440 (by decide) ?_
    obtain ⟨r79, hr79, hV⟩ := jBind hV
    refine jVpI C dL_law_442 (k_Y8_performance l D G B N S v12 (6 : Int32) r79 hr79) jy_X8_performance jq_18_14 jq_18_15 jq_18_16 ⟨rfl, rfl, Nat.le_of_ble_eq_true rfl, Nat.le_of_ble_eq_true rfl⟩ ⟨Nat.le_of_ble_eq_true rfl, Nat.le_of_ble_eq_true rfl⟩ (jLeft hP) (ci := 10) (iw := 0) rfl rfl rfl hl (As := [.int v12, .int (6 : Int32)]) (rest := [.int v17]) rfl (Nat.le_of_ble_eq_true rfl) ?_
    refine lv_icmp_ge (tgt := 479) hx hb dL_law_445 (by decide) (fun c83 => ?_) (fun c83 => ?_)
    · have hV := jT1 hV c83
      refine lv_iinc (v := (v12 + 1)) (lv' := [(12, .int (v12 + 1)), (1, .ref (B 9 0)), (2, .int v2), (3, .int v3), (4, .int v4), (5, .int v5), (6, .int v6), (7, .int v7), (8, .int v8), (9, .int v9), (10, .int v10), (11, .ref (tA 0)), (17, .int v17)]) hx hb dL_law_479 hl (k := 11) rfl rfl (by decide) rfl (fun ls hl => ?_)
      refine lv_goto (tgt := 126) hx hb dL_law_482 (by decide) ?_
      exact hk126 M v2 v3 v4 v5 v6 v7 v8 v9 v10 (v12 + 1) _ _ _ hP hD hS (lv_sub hl [1, 2, 3, 4, 5, 6, 7, 8, 9, 10, 11, 0] rfl) hV
    · have hV := jF1 hV c83
      refine lv_aload_n hx hb dL_law_448 rfl (lv_at hl 0 rfl) ?_
      refine lv_iload hx hb dL_law_449 (lv_at hl 11 rfl) ?_
      refine lv_iload hx hb dL_law_451 (lv_at hl 12 rfl) ?_
      refine lv_iconst (v := 1) hx hb dL_law_453 (by decide) ?_
      obtain ⟨r80, hr80, hV⟩ := jBind hV
      refine jVpI C dL_law_454 (k_Y8_waiting l D G B N S v12 v17 (1 : Int32) r80 hr80) jy_X8_waiting jq_19_17 jq_19_18 jq_19_19 ⟨rfl, rfl, Nat.le_of_ble_eq_true rfl, Nat.le_of_ble_eq_true rfl⟩ ⟨Nat.le_of_ble_eq_true rfl, Nat.le_of_ble_eq_true rfl⟩ (jLeft hP) (ci := 10) (iw := 0) rfl rfl rfl hl (As := [.int v12, .int v17, .int (1 : Int32)]) (rest := []) rfl (Nat.le_of_ble_eq_true rfl) ?_
      refine lv_aload_n hx hb dL_law_457 rfl (lv_at hl 0 rfl) ?_
      refine lv_iload hx hb dL_law_458 (lv_at hl 11 rfl) ?_
      refine lv_iload hx hb dL_law_460 (lv_at hl 12 rfl) ?_
      refine lv_iconst (v := 1) hx hb dL_law_462 (by decide) ?_
      refine lv_isub hx hb dL_law_463 ?_
      refine lv_iconst (v := 1) hx hb dL_law_464 (by decide) ?_
      obtain ⟨r81, hr81, hV⟩ := jBind hV
      refine jVpI C dL_law_465 (k_Y8_waiting l D G B N S v12 (v17 - (1 : Int32)) (1 : Int32) r81 hr81) jy_X8_waiting jq_19_17 jq_19_18 jq_19_19 ⟨rfl, rfl, Nat.le_of_ble_eq_true rfl, Nat.le_of_ble_eq_true rfl⟩ ⟨Nat.le_of_ble_eq_true rfl, Nat.le_of_ble_eq_true rfl⟩ (jLeft hP) (ci := 10) (iw := 0) rfl rfl rfl hl (As := [.int v12, .int (v17 - (1 : Int32)), .int (1 : Int32)]) (rest := [.int r80]) rfl (Nat.le_of_ble_eq_true rfl) ?_
      refine lv_icmp_le (tgt := 473) hx hb dL_law_468 (by decide) (fun c82 => ?_) (fun c82 => ?_)
      · have hV := jT1 hV c82
        refine lv_iinc (v := (v17 + 1)) (lv' := [(17, .int (v17 + 1)), (1, .ref (B 9 0)), (2, .int v2), (3, .int v3), (4, .int v4), (5, .int v5), (6, .int v6), (7, .int v7), (8, .int v8), (9, .int v9), (10, .int v10), (11, .ref (tA 0)), (12, .int v12)]) hx hb dL_law_473 hl (k := 12) rfl rfl (by decide) rfl (fun ls hl => ?_)
        refine lv_goto (tgt := 435) hx hb dL_law_476 (by decide) ?_
        exact ih M v2 v3 v4 v5 v6 v7 v8 v9 v10 v12 (v17 + 1) _ _ _ hP hD hS (lv_sub hl [1, 2, 3, 4, 5, 6, 7, 8, 9, 10, 11, 12, 0] rfl) hV
      · have hV := jF1 hV c82
        refine lv_iconst (v := 0) hx hb dL_law_471 (by decide) ?_
        cases hV
def D_L_law_355 (N : Nat) (S : CS) (k126 : (Nat → Nat → Int32) → Int32 → Int32 → Int32 → Int32 → Int32 → Int32 → Int32 → Int32 → Int32 → Int32 → Option Int32) : Nat → (Nat → Nat → Int32) → Int32 → Int32 → Int32 → Int32 → Int32 → Int32 → Int32 → Int32 → Int32 → Int32 → Int32 → Int32 → Int32 → Option Int32
  | 0, _, _, _, _, _, _, _, _, _, _, _, _, _, _ => none
  | n + 1, M, v2, v3, v4, v5, v6, v7, v8, v9, v10, v12, v14, v16, v17 => (if (3 : Int32) ≤ v17 then ((F_Y8_performance N S v12 (3 : Int32)).bind (fun r84 => ((F_Y8_performance N S v12 (5 : Int32)).bind (fun r85 => ((F_Y8_performance N S v12 (6 : Int32)).bind (fun r86 => (D_L_law_435 N S k126 N M v2 v3 v4 (v5 + r84) (v6 + v16) (v7 + r85) v8 v9 (v10 + r86) v12 (1 : Int32)))))))) else (if inb v14 30 = true then (if inb v17 3 = true then ((F_Y8_performance N S v12 ((3 : Int32) + v17)).bind (fun r89 => (if inb v17 3 = true then (jlet (tU M v14.toNatClampNeg v17.toNatClampNeg ((M v14.toNatClampNeg v17.toNatClampNeg) + r89)) (fun M91 => (D_L_law_355 N S k126 n M91 v2 v3 v4 v5 v6 v7 v8 v9 v10 v12 v14 v16 (v17 + 1)))) else none))) else none) else none))
set_option maxHeartbeats 4000000 in
set_option maxRecDepth 100000 in
theorem B_L_law_355 {p : Program} {l : Launch} {e : Env} {s : State} {m : MethodId} {args : Array Value} {below : List Frame} {meth : Method} {c : Code} {D : va_G} {G : Nat → ClassId} {A : Nat → Prop} {Q : State → Prop} {ret : Option FieldType} (C : Cx p s m args meth c cL_law 20 RL ret D G) (hA : ∀ q : Nat, s.heap.size ≤ q → A q) (N : Nat) (S : CS) (B : Nat → Nat → Nat) (tA : Nat → Nat) (r : Int32) (hend : ∀ (H : Heap) (locs : List Loc) (ls : Array Slot), va_S A s.heap H locs → W p l e room_1 s m args below meth c H locs 470 3491 Q (F0 m 1127 ls [.int 1])) (k126 : (Nat → Nat → Int32) → Int32 → Int32 → Int32 → Int32 → Int32 → Int32 → Int32 → Int32 → Int32 → Int32 → Option Int32) (hk126 : (∀ (M : Nat → Nat → Int32) (v2 : Int32) (v3 : Int32) (v4 : Int32) (v5 : Int32) (v6 : Int32) (v7 : Int32) (v8 : Int32) (v9 : Int32) (v10 : Int32) (v12 : Int32) (ls : Array Slot) (H : Heap) (locs : List Loc), va_P D vwCl (wLw B G tA S M) H → va_D A (wLw B G tA S M) → va_S A s.heap H locs → lv_has ls 20 [(1, .ref (B 9 0)), (2, .int v2), (3, .int v3), (4, .int v4), (5, .int v5), (6, .int v6), (7, .int v7), (8, .int v8), (9, .int v9), (10, .int v10), (11, .ref (tA 0)), (12, .int v12)] → k126 M v2 v3 v4 v5 v6 v7 v8 v9 v10 v12 = some r → W p l e room_1 s m args below meth c H locs 470 3491 Q (F0 m 126 ls []))) : (∀ (n : Nat) (M : Nat → Nat → Int32) (v2 : Int32) (v3 : Int32) (v4 : Int32) (v5 : Int32) (v6 : Int32) (v7 : Int32) (v8 : Int32) (v9 : Int32) (v10 : Int32) (v12 : Int32) (v14 : Int32) (v16 : Int32) (v17 : Int32) (ls : Array Slot) (H : Heap) (locs : List Loc), va_P D vwCl (wLw B G tA S M) H → va_D A (wLw B G tA S M) → va_S A s.heap H locs → lv_has ls 20 [(1, .ref (B 9 0)), (2, .int v2), (3, .int v3), (4, .int v4), (5, .int v5), (6, .int v6), (7, .int v7), (8, .int v8), (9, .int v9), (10, .int v10), (11, .ref (tA 0)), (12, .int v12), (14, .int v14), (16, .int v16), (17, .int v17)] → D_L_law_355 N S k126 n M v2 v3 v4 v5 v6 v7 v8 v9 v10 v12 v14 v16 v17 = some r → W p l e room_1 s m args below meth c H locs 470 3491 Q (F0 m 355 ls [])) := by
  have C := C
  obtain ⟨hx, hb, hr, hml, hts, hown, hlocks, hK0⟩ := id C
  have hK := hK0.1
  intro n
  induction n with
  | zero =>
    intro M v2 v3 v4 v5 v6 v7 v8 v9 v10 v12 v14 v16 v17 ls H locs hP hD hS hl hV
    rw [D_L_law_355] at hV
    cases hV
  | succ n ih =>
    intro M v2 v3 v4 v5 v6 v7 v8 v9 v10 v12 v14 v16 v17 ls H locs hP hD hS hl hV
    rw [D_L_law_355] at hV
    refine lv_iload hx hb dL_law_355 (lv_at hl 14 rfl) ?_
    refine lv_iconst (v := 3) hx hb dL_law_357 (by decide) ?_
    refine lv_icmp_ge (tgt := 388) hx hb dL_law_358 (by decide) (fun c93 => ?_) (fun c93 => ?_)
    · have hV := jT1 hV c93
      refine lv_iload hx hb dL_law_388 (lv_at hl 4 rfl) ?_
      refine lv_aload_n hx hb dL_law_390 rfl (lv_at hl 0 rfl) ?_
      refine lv_iload hx hb dL_law_391 (lv_at hl 11 rfl) ?_
      refine lv_iconst (v := 3) hx hb dL_law_393 (by decide) ?_
      obtain ⟨r84, hr84, hV⟩ := jBind hV
      refine jVpI C dL_law_394 (k_Y8_performance l D G B N S v12 (3 : Int32) r84 hr84) jy_X8_performance jq_18_14 jq_18_15 jq_18_16 ⟨rfl, rfl, Nat.le_of_ble_eq_true rfl, Nat.le_of_ble_eq_true rfl⟩ ⟨Nat.le_of_ble_eq_true rfl, Nat.le_of_ble_eq_true rfl⟩ (jLeft hP) (ci := 10) (iw := 0) rfl rfl rfl hl (As := [.int v12, .int (3 : Int32)]) (rest := [.int v5]) rfl (Nat.le_of_ble_eq_true rfl) ?_
      refine lv_iadd hx hb dL_law_397 ?_
      refine lv_istore (lv' := [(5, .int (v5 + r84)), (1, .ref (B 9 0)), (2, .int v2), (3, .int v3), (4, .int v4), (6, .int v6), (7, .int v7), (8, .int v8), (9, .int v9), (10, .int v10), (11, .ref (tA 0)), (12, .int v12), (14, .int v14), (16, .int v16), (17, .int v17)]) hx hb dL_law_398 hl (by decide) rfl (fun ls hl => ?_)
      refine lv_iload hx hb dL_law_400 (lv_at hl 5 rfl) ?_
      refine lv_iload hx hb dL_law_402 (lv_at hl 13 rfl) ?_
      refine lv_iadd hx hb dL_law_404 ?_
      refine lv_istore (lv' := [(6, .int (v6 + v16)), (5, .int (v5 + r84)), (1, .ref (B 9 0)), (2, .int v2), (3, .int v3), (4, .int v4), (7, .int v7), (8, .int v8), (9, .int v9), (10, .int v10), (11, .ref (tA 0)), (12, .int v12), (14, .int v14), (16, .int v16), (17, .int v17)]) hx hb dL_law_405 hl (by decide) rfl (fun ls hl => ?_)
      refine lv_iload hx hb dL_law_407 (lv_at hl 6 rfl) ?_
      refine lv_aload_n hx hb dL_law_409 rfl (lv_at hl 2 rfl) ?_
      refine lv_iload hx hb dL_law_410 (lv_at hl 11 rfl) ?_
      refine lv_iconst (v := 5) hx hb dL_law_412 (by decide) ?_
      obtain ⟨r85, hr85, hV⟩ := jBind hV
      refine jVpI C dL_law_413 (k_Y8_performance l D G B N S v12 (5 : Int32) r85 hr85) jy_X8_performance jq_18_14 jq_18_15 jq_18_16 ⟨rfl, rfl, Nat.le_of_ble_eq_true rfl, Nat.le_of_ble_eq_true rfl⟩ ⟨Nat.le_of_ble_eq_true rfl, Nat.le_of_ble_eq_true rfl⟩ (jLeft hP) (ci := 10) (iw := 0) rfl rfl rfl hl (As := [.int v12, .int (5 : Int32)]) (rest := [.int v7]) rfl (Nat.le_of_ble_eq_true rfl) ?_
      refine lv_iadd hx hb dL_law_416 ?_
      refine lv_istore (lv' := [(7, .int (v7 + r85)), (6, .int (v6 + v16)), (5, .int (v5 + r84)), (1, .ref (B 9 0)), (2, .int v2), (3, .int v3), (4, .int v4), (8, .int v8), (9, .int v9), (10, .int v10), (11, .ref (tA 0)), (12, .int v12), (14, .int v14), (16, .int v16), (17, .int v17)]) hx hb dL_law_417 hl (by decide) rfl (fun ls hl => ?_)
      refine lv_iload hx hb dL_law_419 (lv_at hl 9 rfl) ?_
      refine lv_aload_n hx hb dL_law_421 rfl (lv_at hl 3 rfl) ?_
      refine lv_iload hx hb dL_law_422 (lv_at hl 11 rfl) ?_
      refine lv_bipush (v := 6) hx hb dL_law_424 (by decide) ?_
      obtain ⟨r86, hr86, hV⟩ := jBind hV
      refine jVpI C dL_law_426 (k_Y8_performance l D G B N S v12 (6 : Int32) r86 hr86) jy_X8_performance jq_18_14 jq_18_15 jq_18_16 ⟨rfl, rfl, Nat.le_of_ble_eq_true rfl, Nat.le_of_ble_eq_true rfl⟩ ⟨Nat.le_of_ble_eq_true rfl, Nat.le_of_ble_eq_true rfl⟩ (jLeft hP) (ci := 10) (iw := 0) rfl rfl rfl hl (As := [.int v12, .int (6 : Int32)]) (rest := [.int v10]) rfl (Nat.le_of_ble_eq_true rfl) ?_
      refine lv_iadd hx hb dL_law_429 ?_
      refine lv_istore (lv' := [(10, .int (v10 + r86)), (7, .int (v7 + r85)), (6, .int (v6 + v16)), (5, .int (v5 + r84)), (1, .ref (B 9 0)), (2, .int v2), (3, .int v3), (4, .int v4), (8, .int v8), (9, .int v9), (11, .ref (tA 0)), (12, .int v12), (14, .int v14), (16, .int v16), (17, .int v17)]) hx hb dL_law_430 hl (by decide) rfl (fun ls hl => ?_)
      refine lv_iconst (v := 1) hx hb dL_law_432 (by decide) ?_
      refine lv_istore (lv' := [(17, .int (1 : Int32)), (10, .int (v10 + r86)), (7, .int (v7 + r85)), (6, .int (v6 + v16)), (5, .int (v5 + r84)), (1, .ref (B 9 0)), (2, .int v2), (3, .int v3), (4, .int v4), (8, .int v8), (9, .int v9), (11, .ref (tA 0)), (12, .int v12), (14, .int v14), (16, .int v16)]) hx hb dL_law_433 hl (by decide) rfl (fun ls hl => ?_)
      exact B_L_law_435 C hA N S B tA r hend k126 hk126 N M v2 v3 v4 (v5 + r84) (v6 + v16) (v7 + r85) v8 v9 (v10 + r86) v12 (1 : Int32) _ _ _ hP hD hS (lv_sub hl [5, 6, 7, 8, 4, 3, 2, 9, 10, 1, 11, 12, 0] rfl) hV
    · have hV := jF1 hV c93
      refine lv_aload hx hb dL_law_361 (lv_at hl 10 rfl) ?_
      refine lv_iload hx hb dL_law_363 (lv_at hl 12 rfl) ?_
      obtain ⟨g87, hV⟩ := jIf hV
      refine tAald hx hb hK hP g87 dL_law_365 ?_
      refine lv_iload hx hb dL_law_366 (lv_at hl 14 rfl) ?_
      refine lv_dup2_11 hx hb dL_law_368 rfl rfl ?_
      obtain ⟨g88, hV⟩ := jIf hV
      refine tIald hx hb hK hP g87 g88 dL_law_369 ?_
      refine lv_aload_n hx hb dL_law_370 rfl (lv_at hl 0 rfl) ?_
      refine lv_iload hx hb dL_law_371 (lv_at hl 11 rfl) ?_
      refine lv_iconst (v := 3) hx hb dL_law_373 (by decide) ?_
      refine lv_iload hx hb dL_law_374 (lv_at hl 14 rfl) ?_
      refine lv_iadd hx hb dL_law_376 ?_
      obtain ⟨r89, hr89, hV⟩ := jBind hV
      refine jVpI C dL_law_377 (k_Y8_performance l D G B N S v12 ((3 : Int32) + v17) r89 hr89) jy_X8_performance jq_18_14 jq_18_15 jq_18_16 ⟨rfl, rfl, Nat.le_of_ble_eq_true rfl, Nat.le_of_ble_eq_true rfl⟩ ⟨Nat.le_of_ble_eq_true rfl, Nat.le_of_ble_eq_true rfl⟩ (jLeft hP) (ci := 10) (iw := 0) rfl rfl rfl hl (As := [.int v12, .int ((3 : Int32) + v17)]) (rest := [.int (M v14.toNatClampNeg v17.toNatClampNeg), .int v17, .ref (tA (v14.toNatClampNeg + 1))]) rfl (Nat.le_of_ble_eq_true rfl) ?_
      refine lv_iadd hx hb dL_law_380 ?_
      obtain ⟨g90, hV⟩ := jIf hV
      refine tIast hx hb hK hP hD hS g87 g90 dL_law_381 (fun H locs hP hD hS => ?_)
      obtain ⟨M91, e92, hV⟩ := jLet hV
      have hP : va_P D vwCl (wLw B G tA S M91) H := by rw [e92]; exact hP
      have hD : va_D A (wLw B G tA S M91) := by rw [e92]; exact hD
      refine lv_iinc (v := (v17 + 1)) (lv' := [(17, .int (v17 + 1)), (1, .ref (B 9 0)), (2, .int v2), (3, .int v3), (4, .int v4), (5, .int v5), (6, .int v6), (7, .int v7), (8, .int v8), (9, .int v9), (10, .int v10), (11, .ref (tA 0)), (12, .int v12), (14, .int v14), (16, .int v16)]) hx hb dL_law_382 hl (k := 14) rfl rfl (by decide) rfl (fun ls hl => ?_)
      refine lv_goto (tgt := 355) hx hb dL_law_385 (by decide) ?_
      exact ih M91 v2 v3 v4 v5 v6 v7 v8 v9 v10 v12 v14 v16 (v17 + 1) _ _ _ hP hD hS (lv_sub hl [1, 2, 3, 4, 5, 6, 7, 8, 9, 10, 11, 12, 13, 14, 0] rfl) hV
def D_L_law_296 (N : Nat) (S : CS) (k126 : (Nat → Nat → Int32) → Int32 → Int32 → Int32 → Int32 → Int32 → Int32 → Int32 → Int32 → Int32 → Int32 → Option Int32) : Nat → (Nat → Nat → Int32) → Int32 → Int32 → Int32 → Int32 → Int32 → Int32 → Int32 → Int32 → Int32 → Int32 → Int32 → Int32 → Int32 → Int32 → Option Int32
  | 0, _, _, _, _, _, _, _, _, _, _, _, _, _, _, _ => none
  | n + 1, M, v2, v3, v4, v5, v6, v7, v8, v9, v10, v12, v13, v14, v16, v17 => (if v12 ≤ v17 then (D_L_law_355 N S k126 N M v2 v3 v4 v5 v6 v7 v8 v9 v10 v12 v14 v16 (0 : Int32)) else ((F_Y8_performance N S v17 (2 : Int32)).bind (fun r94 => (if r94 = v14 then ((F_Y8_performance N S v17 (1 : Int32)).bind (fun r95 => (if r95 = v13 then none else ((F_Y8_performance N S v17 (0 : Int32)).bind (fun r96 => ((F_Y8_performance N S v12 (0 : Int32)).bind (fun r97 => (if r96 = r97 then none else (D_L_law_296 N S k126 n M v2 v3 v4 v5 v6 v7 v8 v9 v10 v12 v13 v14 v16 (v17 + 1)))))))))) else (D_L_law_296 N S k126 n M v2 v3 v4 v5 v6 v7 v8 v9 v10 v12 v13 v14 v16 (v17 + 1))))))
set_option maxHeartbeats 4000000 in
set_option maxRecDepth 100000 in
theorem B_L_law_296 {p : Program} {l : Launch} {e : Env} {s : State} {m : MethodId} {args : Array Value} {below : List Frame} {meth : Method} {c : Code} {D : va_G} {G : Nat → ClassId} {A : Nat → Prop} {Q : State → Prop} {ret : Option FieldType} (C : Cx p s m args meth c cL_law 20 RL ret D G) (hA : ∀ q : Nat, s.heap.size ≤ q → A q) (N : Nat) (S : CS) (B : Nat → Nat → Nat) (tA : Nat → Nat) (r : Int32) (hend : ∀ (H : Heap) (locs : List Loc) (ls : Array Slot), va_S A s.heap H locs → W p l e room_1 s m args below meth c H locs 470 3491 Q (F0 m 1127 ls [.int 1])) (k126 : (Nat → Nat → Int32) → Int32 → Int32 → Int32 → Int32 → Int32 → Int32 → Int32 → Int32 → Int32 → Int32 → Option Int32) (hk126 : (∀ (M : Nat → Nat → Int32) (v2 : Int32) (v3 : Int32) (v4 : Int32) (v5 : Int32) (v6 : Int32) (v7 : Int32) (v8 : Int32) (v9 : Int32) (v10 : Int32) (v12 : Int32) (ls : Array Slot) (H : Heap) (locs : List Loc), va_P D vwCl (wLw B G tA S M) H → va_D A (wLw B G tA S M) → va_S A s.heap H locs → lv_has ls 20 [(1, .ref (B 9 0)), (2, .int v2), (3, .int v3), (4, .int v4), (5, .int v5), (6, .int v6), (7, .int v7), (8, .int v8), (9, .int v9), (10, .int v10), (11, .ref (tA 0)), (12, .int v12)] → k126 M v2 v3 v4 v5 v6 v7 v8 v9 v10 v12 = some r → W p l e room_1 s m args below meth c H locs 470 3491 Q (F0 m 126 ls []))) : (∀ (n : Nat) (M : Nat → Nat → Int32) (v2 : Int32) (v3 : Int32) (v4 : Int32) (v5 : Int32) (v6 : Int32) (v7 : Int32) (v8 : Int32) (v9 : Int32) (v10 : Int32) (v12 : Int32) (v13 : Int32) (v14 : Int32) (v16 : Int32) (v17 : Int32) (ls : Array Slot) (H : Heap) (locs : List Loc), va_P D vwCl (wLw B G tA S M) H → va_D A (wLw B G tA S M) → va_S A s.heap H locs → lv_has ls 20 [(1, .ref (B 9 0)), (2, .int v2), (3, .int v3), (4, .int v4), (5, .int v5), (6, .int v6), (7, .int v7), (8, .int v8), (9, .int v9), (10, .int v10), (11, .ref (tA 0)), (12, .int v12), (13, .int v13), (14, .int v14), (16, .int v16), (17, .int v17)] → D_L_law_296 N S k126 n M v2 v3 v4 v5 v6 v7 v8 v9 v10 v12 v13 v14 v16 v17 = some r → W p l e room_1 s m args below meth c H locs 470 3491 Q (F0 m 296 ls [])) := by
  have C := C
  obtain ⟨hx, hb, hr, hml, hts, hown, hlocks, hK0⟩ := id C
  have hK := hK0.1
  intro n
  induction n with
  | zero =>
    intro M v2 v3 v4 v5 v6 v7 v8 v9 v10 v12 v13 v14 v16 v17 ls H locs hP hD hS hl hV
    rw [D_L_law_296] at hV
    cases hV
  | succ n ih =>
    intro M v2 v3 v4 v5 v6 v7 v8 v9 v10 v12 v13 v14 v16 v17 ls H locs hP hD hS hl hV
    rw [D_L_law_296] at hV
    refine lv_iload hx hb dL_law_296 (lv_at hl 15 rfl) ?_
    refine lv_iload hx hb dL_law_298 (lv_at hl 11 rfl) ?_
    refine lv_icmp_ge (tgt := 352) hx hb dL_law_300 (by decide) (fun c101 => ?_) (fun c101 => ?_)
    · have hV := jT1 hV c101
      refine lv_iconst (v := 0) hx hb dL_law_352 (by decide) ?_
      refine lv_istore (lv' := [(17, .int (0 : Int32)), (1, .ref (B 9 0)), (2, .int v2), (3, .int v3), (4, .int v4), (5, .int v5), (6, .int v6), (7, .int v7), (8, .int v8), (9, .int v9), (10, .int v10), (11, .ref (tA 0)), (12, .int v12), (13, .int v13), (14, .int v14), (16, .int v16)]) hx hb dL_law_353 hl (by decide) rfl (fun ls hl => ?_)
      exact B_L_law_355 C hA N S B tA r hend k126 hk126 N M v2 v3 v4 v5 v6 v7 v8 v9 v10 v12 v14 v16 (0 : Int32) _ _ _ hP hD hS (lv_sub hl [1, 2, 3, 4, 5, 6, 7, 8, 9, 10, 11, 12, 14, 15, 0] rfl) hV
    · have hV := jF1 hV c101
      refine lv_aload_n hx hb dL_law_303 rfl (lv_at hl 0 rfl) ?_
      refine lv_iload hx hb dL_law_304 (lv_at hl 15 rfl) ?_
      refine lv_iconst (v := 2) hx hb dL_law_306 (by decide) ?_
      obtain ⟨r94, hr94, hV⟩ := jBind hV
      refine jVpI C dL_law_307 (k_Y8_performance l D G B N S v17 (2 : Int32) r94 hr94) jy_X8_performance jq_18_14 jq_18_15 jq_18_16 ⟨rfl, rfl, Nat.le_of_ble_eq_true rfl, Nat.le_of_ble_eq_true rfl⟩ ⟨Nat.le_of_ble_eq_true rfl, Nat.le_of_ble_eq_true rfl⟩ (jLeft hP) (ci := 10) (iw := 0) rfl rfl rfl hl (As := [.int v17, .int (2 : Int32)]) (rest := []) rfl (Nat.le_of_ble_eq_true rfl) ?_
      refine lv_iload hx hb dL_law_310 (lv_at hl 13 rfl) ?_
      refine lv_icmp_ne (tgt := 346) hx hb dL_law_312 (by decide) (fun c100 => ?_) (fun c100 => ?_)
      · have hV := jF1 hV c100
        refine lv_iinc (v := (v17 + 1)) (lv' := [(17, .int (v17 + 1)), (1, .ref (B 9 0)), (2, .int v2), (3, .int v3), (4, .int v4), (5, .int v5), (6, .int v6), (7, .int v7), (8, .int v8), (9, .int v9), (10, .int v10), (11, .ref (tA 0)), (12, .int v12), (13, .int v13), (14, .int v14), (16, .int v16)]) hx hb dL_law_346 hl (k := 15) rfl rfl (by decide) rfl (fun ls hl => ?_)
        refine lv_goto (tgt := 296) hx hb dL_law_349 (by decide) ?_
        exact ih M v2 v3 v4 v5 v6 v7 v8 v9 v10 v12 v13 v14 v16 (v17 + 1) _ _ _ hP hD hS (lv_sub hl [1, 2, 3, 4, 5, 6, 7, 8, 9, 10, 11, 12, 13, 14, 15, 0] rfl) hV
      · have hV := jT1 hV c100
        refine lv_aload_n hx hb dL_law_315 rfl (lv_at hl 0 rfl) ?_
        refine lv_iload hx hb dL_law_316 (lv_at hl 15 rfl) ?_
        refine lv_iconst (v := 1) hx hb dL_law_318 (by decide) ?_
        obtain ⟨r95, hr95, hV⟩ := jBind hV
        refine jVpI C dL_law_319 (k_Y8_performance l D G B N S v17 (1 : Int32) r95 hr95) jy_X8_performance jq_18_14 jq_18_15 jq_18_16 ⟨rfl, rfl, Nat.le_of_ble_eq_true rfl, Nat.le_of_ble_eq_true rfl⟩ ⟨Nat.le_of_ble_eq_true rfl, Nat.le_of_ble_eq_true rfl⟩ (jLeft hP) (ci := 10) (iw := 0) rfl rfl rfl hl (As := [.int v17, .int (1 : Int32)]) (rest := []) rfl (Nat.le_of_ble_eq_true rfl) ?_
        refine lv_iload hx hb dL_law_322 (lv_at hl 12 rfl) ?_
        refine lv_icmp_eq (tgt := 344) hx hb dL_law_324 (by decide) (fun c99 => ?_) (fun c99 => ?_)
        · have hV := jT1 hV c99
          refine lv_iconst (v := 0) hx hb dL_law_344 (by decide) ?_
          cases hV
        · have hV := jF1 hV c99
          refine lv_aload_n hx hb dL_law_327 rfl (lv_at hl 0 rfl) ?_
          refine lv_iload hx hb dL_law_328 (lv_at hl 15 rfl) ?_
          refine lv_iconst (v := 0) hx hb dL_law_330 (by decide) ?_
          obtain ⟨r96, hr96, hV⟩ := jBind hV
          refine jVpI C dL_law_331 (k_Y8_performance l D G B N S v17 (0 : Int32) r96 hr96) jy_X8_performance jq_18_14 jq_18_15 jq_18_16 ⟨rfl, rfl, Nat.le_of_ble_eq_true rfl, Nat.le_of_ble_eq_true rfl⟩ ⟨Nat.le_of_ble_eq_true rfl, Nat.le_of_ble_eq_true rfl⟩ (jLeft hP) (ci := 10) (iw := 0) rfl rfl rfl hl (As := [.int v17, .int (0 : Int32)]) (rest := []) rfl (Nat.le_of_ble_eq_true rfl) ?_
          refine lv_aload_n hx hb dL_law_334 rfl (lv_at hl 0 rfl) ?_
          refine lv_iload hx hb dL_law_335 (lv_at hl 11 rfl) ?_
          refine lv_iconst (v := 0) hx hb dL_law_337 (by decide) ?_
          obtain ⟨r97, hr97, hV⟩ := jBind hV
          refine jVpI C dL_law_338 (k_Y8_performance l D G B N S v12 (0 : Int32) r97 hr97) jy_X8_performance jq_18_14 jq_18_15 jq_18_16 ⟨rfl, rfl, Nat.le_of_ble_eq_true rfl, Nat.le_of_ble_eq_true rfl⟩ ⟨Nat.le_of_ble_eq_true rfl, Nat.le_of_ble_eq_true rfl⟩ (jLeft hP) (ci := 10) (iw := 0) rfl rfl rfl hl (As := [.int v12, .int (0 : Int32)]) (rest := [.int r96]) rfl (Nat.le_of_ble_eq_true rfl) ?_
          refine lv_icmp_ne (tgt := 346) hx hb dL_law_341 (by decide) (fun c98 => ?_) (fun c98 => ?_)
          · have hV := jF1 hV c98
            refine lv_iinc (v := (v17 + 1)) (lv' := [(17, .int (v17 + 1)), (1, .ref (B 9 0)), (2, .int v2), (3, .int v3), (4, .int v4), (5, .int v5), (6, .int v6), (7, .int v7), (8, .int v8), (9, .int v9), (10, .int v10), (11, .ref (tA 0)), (12, .int v12), (13, .int v13), (14, .int v14), (16, .int v16)]) hx hb dL_law_346 hl (k := 15) rfl rfl (by decide) rfl (fun ls hl => ?_)
            refine lv_goto (tgt := 296) hx hb dL_law_349 (by decide) ?_
            exact ih M v2 v3 v4 v5 v6 v7 v8 v9 v10 v12 v13 v14 v16 (v17 + 1) _ _ _ hP hD hS (lv_sub hl [1, 2, 3, 4, 5, 6, 7, 8, 9, 10, 11, 12, 13, 14, 15, 0] rfl) hV
          · have hV := jT1 hV c98
            refine lv_iconst (v := 0) hx hb dL_law_344 (by decide) ?_
            cases hV
def D_L_law_166 (N : Nat) (S : CS) (k126 : (Nat → Nat → Int32) → Int32 → Int32 → Int32 → Int32 → Int32 → Int32 → Int32 → Int32 → Int32 → Int32 → Option Int32) : Nat → (Nat → Nat → Int32) → Int32 → Int32 → Int32 → Int32 → Int32 → Int32 → Int32 → Int32 → Int32 → Int32 → Int32 → Int32 → Int32 → Int32 → Int32 → Option Int32
  | 0, _, _, _, _, _, _, _, _, _, _, _, _, _, _, _, _ => none
  | n + 1, M, v2, v3, v4, v5, v6, v7, v8, v9, v10, v12, v13, v14, v15, v16, v17 => (if v4 ≤ v17 then ((F_Y8_performance N S v12 (4 : Int32)).bind (fun r102 => (if r102 = v16 then ((F_Y8_performance N S v12 (3 : Int32)).bind (fun r103 => ((F_Y8_performance N S v12 (5 : Int32)).bind (fun r104 => ((F_Y8_account N S ((10 : Int32) + v13)).bind (fun r105 => (if ((r103 + v16) + r104) = r105 then ((F_Y8_performance N S v12 (5 : Int32)).bind (fun r106 => (if r106 < 0 then none else ((F_Y8_on N S v13 v14).bind (fun r107 => (if r107 = v12 then (D_L_law_296 N S k126 N M v2 v3 v4 v5 v6 v7 v8 v9 v10 v12 v13 v14 v16 (0 : Int32)) else none)))))) else none))))))) else none))) else ((F_Y8_subscription N S v17 (3 : Int32)).bind (fun r112 => (if ((v15 >>> (v17 &&& 31)) &&& (1 : Int32)) = ((r112 >>> (v12 &&& 31)) &&& (1 : Int32)) then (if ((v15 >>> (v17 &&& 31)) &&& (1 : Int32)) = (1 : Int32) then ((F_Y8_subscription N S v17 (0 : Int32)).bind (fun r113 => (D_L_law_166 N S k126 n M v2 v3 v4 v5 v6 v7 v8 v9 v10 v12 v13 v14 v15 (v16 + r113) (v17 + 1)))) else (D_L_law_166 N S k126 n M v2 v3 v4 v5 v6 v7 v8 v9 v10 v12 v13 v14 v15 v16 (v17 + 1))) else none))))
set_option maxHeartbeats 4000000 in
set_option maxRecDepth 100000 in
theorem B_L_law_166 {p : Program} {l : Launch} {e : Env} {s : State} {m : MethodId} {args : Array Value} {below : List Frame} {meth : Method} {c : Code} {D : va_G} {G : Nat → ClassId} {A : Nat → Prop} {Q : State → Prop} {ret : Option FieldType} (C : Cx p s m args meth c cL_law 20 RL ret D G) (hA : ∀ q : Nat, s.heap.size ≤ q → A q) (N : Nat) (S : CS) (B : Nat → Nat → Nat) (tA : Nat → Nat) (r : Int32) (hend : ∀ (H : Heap) (locs : List Loc) (ls : Array Slot), va_S A s.heap H locs → W p l e room_1 s m args below meth c H locs 470 3491 Q (F0 m 1127 ls [.int 1])) (k126 : (Nat → Nat → Int32) → Int32 → Int32 → Int32 → Int32 → Int32 → Int32 → Int32 → Int32 → Int32 → Int32 → Option Int32) (hk126 : (∀ (M : Nat → Nat → Int32) (v2 : Int32) (v3 : Int32) (v4 : Int32) (v5 : Int32) (v6 : Int32) (v7 : Int32) (v8 : Int32) (v9 : Int32) (v10 : Int32) (v12 : Int32) (ls : Array Slot) (H : Heap) (locs : List Loc), va_P D vwCl (wLw B G tA S M) H → va_D A (wLw B G tA S M) → va_S A s.heap H locs → lv_has ls 20 [(1, .ref (B 9 0)), (2, .int v2), (3, .int v3), (4, .int v4), (5, .int v5), (6, .int v6), (7, .int v7), (8, .int v8), (9, .int v9), (10, .int v10), (11, .ref (tA 0)), (12, .int v12)] → k126 M v2 v3 v4 v5 v6 v7 v8 v9 v10 v12 = some r → W p l e room_1 s m args below meth c H locs 470 3491 Q (F0 m 126 ls []))) : (∀ (n : Nat) (M : Nat → Nat → Int32) (v2 : Int32) (v3 : Int32) (v4 : Int32) (v5 : Int32) (v6 : Int32) (v7 : Int32) (v8 : Int32) (v9 : Int32) (v10 : Int32) (v12 : Int32) (v13 : Int32) (v14 : Int32) (v15 : Int32) (v16 : Int32) (v17 : Int32) (ls : Array Slot) (H : Heap) (locs : List Loc), va_P D vwCl (wLw B G tA S M) H → va_D A (wLw B G tA S M) → va_S A s.heap H locs → lv_has ls 20 [(1, .ref (B 9 0)), (2, .int v2), (3, .int v3), (4, .int v4), (5, .int v5), (6, .int v6), (7, .int v7), (8, .int v8), (9, .int v9), (10, .int v10), (11, .ref (tA 0)), (12, .int v12), (13, .int v13), (14, .int v14), (15, .int v15), (16, .int v16), (17, .int v17)] → D_L_law_166 N S k126 n M v2 v3 v4 v5 v6 v7 v8 v9 v10 v12 v13 v14 v15 v16 v17 = some r → W p l e room_1 s m args below meth c H locs 470 3491 Q (F0 m 166 ls [])) := by
  have C := C
  obtain ⟨hx, hb, hr, hml, hts, hown, hlocks, hK0⟩ := id C
  have hK := hK0.1
  intro n
  induction n with
  | zero =>
    intro M v2 v3 v4 v5 v6 v7 v8 v9 v10 v12 v13 v14 v15 v16 v17 ls H locs hP hD hS hl hV
    rw [D_L_law_166] at hV
    cases hV
  | succ n ih =>
    intro M v2 v3 v4 v5 v6 v7 v8 v9 v10 v12 v13 v14 v15 v16 v17 ls H locs hP hD hS hl hV
    rw [D_L_law_166] at hV
    refine lv_iload hx hb dL_law_166 (lv_at hl 16 rfl) ?_
    refine lv_iload hx hb dL_law_168 (lv_at hl 3 rfl) ?_
    refine lv_icmp_ge (tgt := 226) hx hb dL_law_170 (by decide) (fun c116 => ?_) (fun c116 => ?_)
    · have hV := jT1 hV c116
      refine lv_aload_n hx hb dL_law_226 rfl (lv_at hl 0 rfl) ?_
      refine lv_iload hx hb dL_law_227 (lv_at hl 11 rfl) ?_
      refine lv_iconst (v := 4) hx hb dL_law_229 (by decide) ?_
      obtain ⟨r102, hr102, hV⟩ := jBind hV
      refine jVpI C dL_law_230 (k_Y8_performance l D G B N S v12 (4 : Int32) r102 hr102) jy_X8_performance jq_18_14 jq_18_15 jq_18_16 ⟨rfl, rfl, Nat.le_of_ble_eq_true rfl, Nat.le_of_ble_eq_true rfl⟩ ⟨Nat.le_of_ble_eq_true rfl, Nat.le_of_ble_eq_true rfl⟩ (jLeft hP) (ci := 10) (iw := 0) rfl rfl rfl hl (As := [.int v12, .int (4 : Int32)]) (rest := []) rfl (Nat.le_of_ble_eq_true rfl) ?_
      refine lv_iload hx hb dL_law_233 (lv_at hl 15 rfl) ?_
      refine lv_icmp_ne (tgt := 291) hx hb dL_law_235 (by decide) (fun c111 => ?_) (fun c111 => ?_)
      · have hV := jF1 hV c111
        refine lv_iconst (v := 0) hx hb dL_law_291 (by decide) ?_
        cases hV
      · have hV := jT1 hV c111
        refine lv_aload_n hx hb dL_law_238 rfl (lv_at hl 0 rfl) ?_
        refine lv_iload hx hb dL_law_239 (lv_at hl 11 rfl) ?_
        refine lv_iconst (v := 3) hx hb dL_law_241 (by decide) ?_
        obtain ⟨r103, hr103, hV⟩ := jBind hV
        refine jVpI C dL_law_242 (k_Y8_performance l D G B N S v12 (3 : Int32) r103 hr103) jy_X8_performance jq_18_14 jq_18_15 jq_18_16 ⟨rfl, rfl, Nat.le_of_ble_eq_true rfl, Nat.le_of_ble_eq_true rfl⟩ ⟨Nat.le_of_ble_eq_true rfl, Nat.le_of_ble_eq_true rfl⟩ (jLeft hP) (ci := 10) (iw := 0) rfl rfl rfl hl (As := [.int v12, .int (3 : Int32)]) (rest := []) rfl (Nat.le_of_ble_eq_true rfl) ?_
        refine lv_iload hx hb dL_law_245 (lv_at hl 15 rfl) ?_
        refine lv_iadd hx hb dL_law_247 ?_
        refine lv_aload_n hx hb dL_law_248 rfl (lv_at hl 0 rfl) ?_
        refine lv_iload hx hb dL_law_249 (lv_at hl 11 rfl) ?_
        refine lv_iconst (v := 5) hx hb dL_law_251 (by decide) ?_
        obtain ⟨r104, hr104, hV⟩ := jBind hV
        refine jVpI C dL_law_252 (k_Y8_performance l D G B N S v12 (5 : Int32) r104 hr104) jy_X8_performance jq_18_14 jq_18_15 jq_18_16 ⟨rfl, rfl, Nat.le_of_ble_eq_true rfl, Nat.le_of_ble_eq_true rfl⟩ ⟨Nat.le_of_ble_eq_true rfl, Nat.le_of_ble_eq_true rfl⟩ (jLeft hP) (ci := 10) (iw := 0) rfl rfl rfl hl (As := [.int v12, .int (5 : Int32)]) (rest := [.int (r103 + v16)]) rfl (Nat.le_of_ble_eq_true rfl) ?_
        refine lv_iadd hx hb dL_law_255 ?_
        refine lv_aload_n hx hb dL_law_256 rfl (lv_at hl 0 rfl) ?_
        refine lv_bipush (v := 10) hx hb dL_law_257 (by decide) ?_
        refine lv_iload hx hb dL_law_259 (lv_at hl 12 rfl) ?_
        refine lv_iadd hx hb dL_law_261 ?_
        obtain ⟨r105, hr105, hV⟩ := jBind hV
        refine jVpI C dL_law_262 (k_Y8_account l D G B N S ((10 : Int32) + v13) r105 hr105) jy_X8_account jq_5_22 jq_5_23 jq_6_0 ⟨rfl, rfl, Nat.le_of_ble_eq_true rfl, Nat.le_of_ble_eq_true rfl⟩ ⟨Nat.le_of_ble_eq_true rfl, Nat.le_of_ble_eq_true rfl⟩ (jLeft hP) (ci := 10) (iw := 0) rfl rfl rfl hl (As := [.int ((10 : Int32) + v13)]) (rest := [.int ((r103 + v16) + r104)]) rfl (Nat.le_of_ble_eq_true rfl) ?_
        refine lv_icmp_ne (tgt := 291) hx hb dL_law_265 (by decide) (fun c110 => ?_) (fun c110 => ?_)
        · have hV := jF1 hV c110
          refine lv_iconst (v := 0) hx hb dL_law_291 (by decide) ?_
          cases hV
        · have hV := jT1 hV c110
          refine lv_aload_n hx hb dL_law_268 rfl (lv_at hl 0 rfl) ?_
          refine lv_iload hx hb dL_law_269 (lv_at hl 11 rfl) ?_
          refine lv_iconst (v := 5) hx hb dL_law_271 (by decide) ?_
          obtain ⟨r106, hr106, hV⟩ := jBind hV
          refine jVpI C dL_law_272 (k_Y8_performance l D G B N S v12 (5 : Int32) r106 hr106) jy_X8_performance jq_18_14 jq_18_15 jq_18_16 ⟨rfl, rfl, Nat.le_of_ble_eq_true rfl, Nat.le_of_ble_eq_true rfl⟩ ⟨Nat.le_of_ble_eq_true rfl, Nat.le_of_ble_eq_true rfl⟩ (jLeft hP) (ci := 10) (iw := 0) rfl rfl rfl hl (As := [.int v12, .int (5 : Int32)]) (rest := []) rfl (Nat.le_of_ble_eq_true rfl) ?_
          refine lv_if_lt (tgt := 291) hx hb dL_law_275 (by decide) (fun c109 => ?_) (fun c109 => ?_)
          · have hV := jT1 hV c109
            refine lv_iconst (v := 0) hx hb dL_law_291 (by decide) ?_
            cases hV
          · have hV := jF1 hV c109
            refine lv_aload_n hx hb dL_law_278 rfl (lv_at hl 0 rfl) ?_
            refine lv_iload hx hb dL_law_279 (lv_at hl 12 rfl) ?_
            refine lv_iload hx hb dL_law_281 (lv_at hl 13 rfl) ?_
            obtain ⟨r107, hr107, hV⟩ := jBind hV
            refine jVpI C dL_law_283 (k_Y8_on l D G B N S v13 v14 r107 hr107) jy_X8_on jq_19_7 jq_19_8 jq_19_9 ⟨rfl, rfl, Nat.le_of_ble_eq_true rfl, Nat.le_of_ble_eq_true rfl⟩ ⟨Nat.le_of_ble_eq_true rfl, Nat.le_of_ble_eq_true rfl⟩ (jLeft hP) (ci := 10) (iw := 0) rfl rfl rfl hl (As := [.int v13, .int v14]) (rest := []) rfl (Nat.le_of_ble_eq_true rfl) ?_
            refine lv_iload hx hb dL_law_286 (lv_at hl 11 rfl) ?_
            refine lv_icmp_eq (tgt := 293) hx hb dL_law_288 (by decide) (fun c108 => ?_) (fun c108 => ?_)
            · have hV := jT1 hV c108
              refine lv_iconst (v := 0) hx hb dL_law_293 (by decide) ?_
              refine lv_istore (lv' := [(17, .int (0 : Int32)), (1, .ref (B 9 0)), (2, .int v2), (3, .int v3), (4, .int v4), (5, .int v5), (6, .int v6), (7, .int v7), (8, .int v8), (9, .int v9), (10, .int v10), (11, .ref (tA 0)), (12, .int v12), (13, .int v13), (14, .int v14), (15, .int v15), (16, .int v16)]) hx hb dL_law_294 hl (by decide) rfl (fun ls hl => ?_)
              exact B_L_law_296 C hA N S B tA r hend k126 hk126 N M v2 v3 v4 v5 v6 v7 v8 v9 v10 v12 v13 v14 v16 (0 : Int32) _ _ _ hP hD hS (lv_sub hl [1, 2, 3, 4, 5, 6, 7, 8, 9, 10, 11, 12, 13, 14, 16, 0] rfl) hV
            · have hV := jF1 hV c108
              refine lv_iconst (v := 0) hx hb dL_law_291 (by decide) ?_
              cases hV
    · have hV := jF1 hV c116
      refine lv_iload hx hb dL_law_173 (lv_at hl 14 rfl) ?_
      refine lv_iload hx hb dL_law_175 (lv_at hl 16 rfl) ?_
      refine lv_ishr hx hb dL_law_177 ?_
      refine lv_iconst (v := 1) hx hb dL_law_178 (by decide) ?_
      refine lv_iand hx hb dL_law_179 ?_
      refine lv_aload_n hx hb dL_law_180 rfl (lv_at hl 0 rfl) ?_
      refine lv_iload hx hb dL_law_181 (lv_at hl 16 rfl) ?_
      refine lv_iconst (v := 3) hx hb dL_law_183 (by decide) ?_
      obtain ⟨r112, hr112, hV⟩ := jBind hV
      refine jVpI C dL_law_184 (k_Y8_subscription l D G B N S v17 (3 : Int32) r112 hr112) jy_X8_subscription jq_19_0 jq_19_1 jq_19_2 ⟨rfl, rfl, Nat.le_of_ble_eq_true rfl, Nat.le_of_ble_eq_true rfl⟩ ⟨Nat.le_of_ble_eq_true rfl, Nat.le_of_ble_eq_true rfl⟩ (jLeft hP) (ci := 10) (iw := 0) rfl rfl rfl hl (As := [.int v17, .int (3 : Int32)]) (rest := [.int ((v15 >>> (v17 &&& 31)) &&& (1 : Int32))]) rfl (Nat.le_of_ble_eq_true rfl) ?_
      refine lv_iload hx hb dL_law_187 (lv_at hl 11 rfl) ?_
      refine lv_ishr hx hb dL_law_189 ?_
      refine lv_iconst (v := 1) hx hb dL_law_190 (by decide) ?_
      refine lv_iand hx hb dL_law_191 ?_
      refine lv_icmp_eq (tgt := 197) hx hb dL_law_192 (by decide) (fun c115 => ?_) (fun c115 => ?_)
      · have hV := jT1 hV c115
        refine lv_iload hx hb dL_law_197 (lv_at hl 14 rfl) ?_
        refine lv_iload hx hb dL_law_199 (lv_at hl 16 rfl) ?_
        refine lv_ishr hx hb dL_law_201 ?_
        refine lv_iconst (v := 1) hx hb dL_law_202 (by decide) ?_
        refine lv_iand hx hb dL_law_203 ?_
        refine lv_iconst (v := 1) hx hb dL_law_204 (by decide) ?_
        refine lv_icmp_ne (tgt := 220) hx hb dL_law_205 (by decide) (fun c114 => ?_) (fun c114 => ?_)
        · have hV := jF1 hV c114
          refine lv_iinc (v := (v17 + 1)) (lv' := [(17, .int (v17 + 1)), (1, .ref (B 9 0)), (2, .int v2), (3, .int v3), (4, .int v4), (5, .int v5), (6, .int v6), (7, .int v7), (8, .int v8), (9, .int v9), (10, .int v10), (11, .ref (tA 0)), (12, .int v12), (13, .int v13), (14, .int v14), (15, .int v15), (16, .int v16)]) hx hb dL_law_220 hl (k := 16) rfl rfl (by decide) rfl (fun ls hl => ?_)
          refine lv_goto (tgt := 166) hx hb dL_law_223 (by decide) ?_
          exact ih M v2 v3 v4 v5 v6 v7 v8 v9 v10 v12 v13 v14 v15 v16 (v17 + 1) _ _ _ hP hD hS (lv_sub hl [1, 2, 3, 4, 5, 6, 7, 8, 9, 10, 11, 12, 13, 14, 15, 16, 0] rfl) hV
        · have hV := jT1 hV c114
          refine lv_iload hx hb dL_law_208 (lv_at hl 15 rfl) ?_
          refine lv_aload_n hx hb dL_law_210 rfl (lv_at hl 0 rfl) ?_
          refine lv_iload hx hb dL_law_211 (lv_at hl 16 rfl) ?_
          refine lv_iconst (v := 0) hx hb dL_law_213 (by decide) ?_
          obtain ⟨r113, hr113, hV⟩ := jBind hV
          refine jVpI C dL_law_214 (k_Y8_subscription l D G B N S v17 (0 : Int32) r113 hr113) jy_X8_subscription jq_19_0 jq_19_1 jq_19_2 ⟨rfl, rfl, Nat.le_of_ble_eq_true rfl, Nat.le_of_ble_eq_true rfl⟩ ⟨Nat.le_of_ble_eq_true rfl, Nat.le_of_ble_eq_true rfl⟩ (jLeft hP) (ci := 10) (iw := 0) rfl rfl rfl hl (As := [.int v17, .int (0 : Int32)]) (rest := [.int v16]) rfl (Nat.le_of_ble_eq_true rfl) ?_
          refine lv_iadd hx hb dL_law_217 ?_
          refine lv_istore (lv' := [(16, .int (v16 + r113)), (1, .ref (B 9 0)), (2, .int v2), (3, .int v3), (4, .int v4), (5, .int v5), (6, .int v6), (7, .int v7), (8, .int v8), (9, .int v9), (10, .int v10), (11, .ref (tA 0)), (12, .int v12), (13, .int v13), (14, .int v14), (15, .int v15), (17, .int v17)]) hx hb dL_law_218 hl (by decide) rfl (fun ls hl => ?_)
          refine lv_iinc (v := (v17 + 1)) (lv' := [(17, .int (v17 + 1)), (16, .int (v16 + r113)), (1, .ref (B 9 0)), (2, .int v2), (3, .int v3), (4, .int v4), (5, .int v5), (6, .int v6), (7, .int v7), (8, .int v8), (9, .int v9), (10, .int v10), (11, .ref (tA 0)), (12, .int v12), (13, .int v13), (14, .int v14), (15, .int v15)]) hx hb dL_law_220 hl (k := 16) rfl rfl (by decide) rfl (fun ls hl => ?_)
          refine lv_goto (tgt := 166) hx hb dL_law_223 (by decide) ?_
          exact ih M v2 v3 v4 v5 v6 v7 v8 v9 v10 v12 v13 v14 v15 (v16 + r113) (v17 + 1) _ _ _ hP hD hS (lv_sub hl [2, 3, 4, 5, 6, 7, 8, 9, 10, 11, 12, 13, 14, 15, 16, 1, 0] rfl) hV
      · have hV := jF1 hV c115
        refine lv_iconst (v := 0) hx hb dL_law_195 (by decide) ?_
        cases hV
