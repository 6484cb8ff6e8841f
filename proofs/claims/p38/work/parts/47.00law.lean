def D_L_law_1015 (N : Nat) (S : CS) : Nat → (Nat → Nat → Int32) → Int32 → Int32 → Int32 → Int32 → Int32 → Int32 → Int32 → Int32 → Option Int32
  | 0, _, _, _, _, _, _, _, _, _ => none
  | n + 1, M, v4, v5, v6, v7, v8, v9, v10, v12 => (if v4 ≤ v12 then ((F_X8_peak N S ).bind (fun r1 => (if r1 = v9 then ((F_Y8_account N S (3 : Int32)).bind (fun r2 => (if r2 = v10 then ((F_Y8_account N S (4 : Int32)).bind (fun r3 => (if r3 = v5 then ((F_Y8_account N S (5 : Int32)).bind (fun r4 => (if r4 = v6 then ((F_Y8_account N S (6 : Int32)).bind (fun r5 => (if r5 = v7 then ((F_Y8_account N S (9 : Int32)).bind (fun r6 => (if r6 = v8 then (some 1) else none))) else none))) else none))) else none))) else none))) else none))) else ((F_Y8_subscription N S v12 (1 : Int32)).bind (fun r13 => ((F_Y8_subscription N S v12 (3 : Int32)).bind (fun r14 => (if r13 = (bcnt r14) then ((F_Y8_subscription N S v12 (2 : Int32)).bind (fun r16 => (if r16 ≤ (2 : Int32) then (D_L_law_1015 N S  n M v4 v5 v6 v7 v8 v9 v10 (v12 + 1)) else none))) else none))))))
set_option maxHeartbeats 4000000 in
set_option maxRecDepth 100000 in
theorem B_L_law_1015 {p : Program} {l : Launch} {e : Env} {s : State} {m : MethodId} {args : Array Value} {below : List Frame} {meth : Method} {c : Code} {D : va_G} {G : Nat → ClassId} {A : Nat → Prop} {Q : State → Prop} {ret : Option FieldType} (C : Cx p s m args meth c cL_law 20 RL ret D G) (hA : ∀ q : Nat, s.heap.size ≤ q → A q) (N : Nat) (S : CS) (B : Nat → Nat → Nat) (tA : Nat → Nat) (r : Int32) (hend : ∀ (H : Heap) (locs : List Loc) (ls : Array Slot), va_S A s.heap H locs → W p l e room_1 s m args below meth c H locs 470 3491 Q (F0 m 1127 ls [.int 1])) : (∀ (n : Nat) (M : Nat → Nat → Int32) (v4 : Int32) (v5 : Int32) (v6 : Int32) (v7 : Int32) (v8 : Int32) (v9 : Int32) (v10 : Int32) (v12 : Int32) (ls : Array Slot) (H : Heap) (locs : List Loc), va_P D vwCl (wLw B G tA S M) H → va_D A (wLw B G tA S M) → va_S A s.heap H locs → lv_has ls 20 [(1, .ref (B 9 0)), (4, .int v4), (5, .int v5), (6, .int v6), (7, .int v7), (8, .int v8), (9, .int v9), (10, .int v10), (12, .int v12)] → D_L_law_1015 N S  n M v4 v5 v6 v7 v8 v9 v10 v12 = some r → W p l e room_1 s m args below meth c H locs 470 3491 Q (F0 m 1015 ls [])) := by
  have C := C
  obtain ⟨hx, hb, hr, hml, hts, hown, hlocks, hK0⟩ := id C
  have hK := hK0.1
  intro n
  induction n with
  | zero =>
    intro M v4 v5 v6 v7 v8 v9 v10 v12 ls H locs hP hD hS hl hV
    rw [D_L_law_1015] at hV
    cases hV
  | succ n ih =>
    intro M v4 v5 v6 v7 v8 v9 v10 v12 ls H locs hP hD hS hl hV
    rw [D_L_law_1015] at hV
    refine lv_iload hx hb dL_law_1015 (lv_at hl 8 rfl) ?_
    refine lv_iload hx hb dL_law_1017 (lv_at hl 1 rfl) ?_
    refine lv_icmp_ge (tgt := 1061) hx hb dL_law_1019 (by decide) (fun c19 => ?_) (fun c19 => ?_)
    · have hV := jT1 hV c19
      refine lv_aload_n hx hb dL_law_1061 rfl (lv_at hl 0 rfl) ?_
      obtain ⟨r1, hr1, hV⟩ := jBind hV
      refine jVpI C dL_law_1062 (k_X8_peak l D G B N S  r1 hr1) jy_X8_peak jq_7_6 jq_7_7 jq_7_8 ⟨rfl, rfl, Nat.le_of_ble_eq_true rfl, Nat.le_of_ble_eq_true rfl⟩ ⟨Nat.le_of_ble_eq_true rfl, Nat.le_of_ble_eq_true rfl⟩ (jLeft hP) (ci := 10) (iw := 0) rfl rfl rfl hl (As := []) (rest := []) rfl (Nat.le_of_ble_eq_true rfl) ?_
      refine lv_iload hx hb dL_law_1065 (lv_at hl 6 rfl) ?_
      refine lv_icmp_ne (tgt := 1126) hx hb dL_law_1067 (by decide) (fun c12 => ?_) (fun c12 => ?_)
      · have hV := jF1 hV c12
        refine lv_iconst (v := 0) hx hb dL_law_1126 (by decide) ?_
        cases hV
      · have hV := jT1 hV c12
        refine lv_aload_n hx hb dL_law_1070 rfl (lv_at hl 0 rfl) ?_
        refine lv_iconst (v := 3) hx hb dL_law_1071 (by decide) ?_
        obtain ⟨r2, hr2, hV⟩ := jBind hV
        refine jVpI C dL_law_1072 (k_Y8_account l D G B N S (3 : Int32) r2 hr2) jy_X8_account jq_5_22 jq_5_23 jq_6_0 ⟨rfl, rfl, Nat.le_of_ble_eq_true rfl, Nat.le_of_ble_eq_true rfl⟩ ⟨Nat.le_of_ble_eq_true rfl, Nat.le_of_ble_eq_true rfl⟩ (jLeft hP) (ci := 10) (iw := 0) rfl rfl rfl hl (As := [.int (3 : Int32)]) (rest := []) rfl (Nat.le_of_ble_eq_true rfl) ?_
        refine lv_iload hx hb dL_law_1075 (lv_at hl 7 rfl) ?_
        refine lv_icmp_ne (tgt := 1126) hx hb dL_law_1077 (by decide) (fun c11 => ?_) (fun c11 => ?_)
        · have hV := jF1 hV c11
          refine lv_iconst (v := 0) hx hb dL_law_1126 (by decide) ?_
          cases hV
        · have hV := jT1 hV c11
          refine lv_aload_n hx hb dL_law_1080 rfl (lv_at hl 0 rfl) ?_
          refine lv_iconst (v := 4) hx hb dL_law_1081 (by decide) ?_
          obtain ⟨r3, hr3, hV⟩ := jBind hV
          refine jVpI C dL_law_1082 (k_Y8_account l D G B N S (4 : Int32) r3 hr3) jy_X8_account jq_5_22 jq_5_23 jq_6_0 ⟨rfl, rfl, Nat.le_of_ble_eq_true rfl, Nat.le_of_ble_eq_true rfl⟩ ⟨Nat.le_of_ble_eq_true rfl, Nat.le_of_ble_eq_true rfl⟩ (jLeft hP) (ci := 10) (iw := 0) rfl rfl rfl hl (As := [.int (4 : Int32)]) (rest := []) rfl (Nat.le_of_ble_eq_true rfl) ?_
          refine lv_iload hx hb dL_law_1085 (lv_at hl 2 rfl) ?_
          refine lv_icmp_ne (tgt := 1126) hx hb dL_law_1087 (by decide) (fun c10 => ?_) (fun c10 => ?_)
          · have hV := jF1 hV c10
            refine lv_iconst (v := 0) hx hb dL_law_1126 (by decide) ?_
            cases hV
          · have hV := jT1 hV c10
            refine lv_aload_n hx hb dL_law_1090 rfl (lv_at hl 0 rfl) ?_
            refine lv_iconst (v := 5) hx hb dL_law_1091 (by decide) ?_
            obtain ⟨r4, hr4, hV⟩ := jBind hV
            refine jVpI C dL_law_1092 (k_Y8_account l D G B N S (5 : Int32) r4 hr4) jy_X8_account jq_5_22 jq_5_23 jq_6_0 ⟨rfl, rfl, Nat.le_of_ble_eq_true rfl, Nat.le_of_ble_eq_true rfl⟩ ⟨Nat.le_of_ble_eq_true rfl, Nat.le_of_ble_eq_true rfl⟩ (jLeft hP) (ci := 10) (iw := 0) rfl rfl rfl hl (As := [.int (5 : Int32)]) (rest := []) rfl (Nat.le_of_ble_eq_true rfl) ?_
            refine lv_iload hx hb dL_law_1095 (lv_at hl 3 rfl) ?_
            refine lv_icmp_ne (tgt := 1126) hx hb dL_law_1097 (by decide) (fun c9 => ?_) (fun c9 => ?_)
            · have hV := jF1 hV c9
              refine lv_iconst (v := 0) hx hb dL_law_1126 (by decide) ?_
              cases hV
            · have hV := jT1 hV c9
              refine lv_aload_n hx hb dL_law_1100 rfl (lv_at hl 0 rfl) ?_
              refine lv_bipush (v := 6) hx hb dL_law_1101 (by decide) ?_
              obtain ⟨r5, hr5, hV⟩ := jBind hV
              refine jVpI C dL_law_1103 (k_Y8_account l D G B N S (6 : Int32) r5 hr5) jy_X8_account jq_5_22 jq_5_23 jq_6_0 ⟨rfl, rfl, Nat.le_of_ble_eq_true rfl, Nat.le_of_ble_eq_true rfl⟩ ⟨Nat.le_of_ble_eq_true rfl, Nat.le_of_ble_eq_true rfl⟩ (jLeft hP) (ci := 10) (iw := 0) rfl rfl rfl hl (As := [.int (6 : Int32)]) (rest := []) rfl (Nat.le_of_ble_eq_true rfl) ?_
              refine lv_iload hx hb dL_law_1106 (lv_at hl 4 rfl) ?_
              refine lv_icmp_ne (tgt := 1126) hx hb dL_law_1108 (by decide) (fun c8 => ?_) (fun c8 => ?_)
              · have hV := jF1 hV c8
                refine lv_iconst (v := 0) hx hb dL_law_1126 (by decide) ?_
                cases hV
              · have hV := jT1 hV c8
                refine lv_aload_n hx hb dL_law_1111 rfl (lv_at hl 0 rfl) ?_
                refine lv_bipush (v := 9) hx hb dL_law_1112 (by decide) ?_
                obtain ⟨r6, hr6, hV⟩ := jBind hV
                refine jVpI C dL_law_1114 (k_Y8_account l D G B N S (9 : Int32) r6 hr6) jy_X8_account jq_5_22 jq_5_23 jq_6_0 ⟨rfl, rfl, Nat.le_of_ble_eq_true rfl, Nat.le_of_ble_eq_true rfl⟩ ⟨Nat.le_of_ble_eq_true rfl, Nat.le_of_ble_eq_true rfl⟩ (jLeft hP) (ci := 10) (iw := 0) rfl rfl rfl hl (As := [.int (9 : Int32)]) (rest := []) rfl (Nat.le_of_ble_eq_true rfl) ?_
                refine lv_iload hx hb dL_law_1117 (lv_at hl 5 rfl) ?_
                refine lv_icmp_ne (tgt := 1126) hx hb dL_law_1119 (by decide) (fun c7 => ?_) (fun c7 => ?_)
                · have hV := jF1 hV c7
                  refine lv_iconst (v := 0) hx hb dL_law_1126 (by decide) ?_
                  cases hV
                · have hV := jT1 hV c7
                  refine lv_iconst (v := 1) hx hb dL_law_1122 (by decide) ?_
                  refine lv_goto (tgt := 1127) hx hb dL_law_1123 (by decide) ?_
                  exact hend _ _ _ hS
    · have hV := jF1 hV c19
      refine lv_aload_n hx hb dL_law_1022 rfl (lv_at hl 0 rfl) ?_
      refine lv_iload hx hb dL_law_1023 (lv_at hl 8 rfl) ?_
      refine lv_iconst (v := 1) hx hb dL_law_1025 (by decide) ?_
      obtain ⟨r13, hr13, hV⟩ := jBind hV
      refine jVpI C dL_law_1026 (k_Y8_subscription l D G B N S v12 (1 : Int32) r13 hr13) jy_X8_subscription jq_19_0 jq_19_1 jq_19_2 ⟨rfl, rfl, Nat.le_of_ble_eq_true rfl, Nat.le_of_ble_eq_true rfl⟩ ⟨Nat.le_of_ble_eq_true rfl, Nat.le_of_ble_eq_true rfl⟩ (jLeft hP) (ci := 10) (iw := 0) rfl rfl rfl hl (As := [.int v12, .int (1 : Int32)]) (rest := []) rfl (Nat.le_of_ble_eq_true rfl) ?_
      refine lv_aload_n hx hb dL_law_1029 rfl (lv_at hl 0 rfl) ?_
      refine lv_iload hx hb dL_law_1030 (lv_at hl 8 rfl) ?_
      refine lv_iconst (v := 3) hx hb dL_law_1032 (by decide) ?_
      obtain ⟨r14, hr14, hV⟩ := jBind hV
      refine jVpI C dL_law_1033 (k_Y8_subscription l D G B N S v12 (3 : Int32) r14 hr14) jy_X8_subscription jq_19_0 jq_19_1 jq_19_2 ⟨rfl, rfl, Nat.le_of_ble_eq_true rfl, Nat.le_of_ble_eq_true rfl⟩ ⟨Nat.le_of_ble_eq_true rfl, Nat.le_of_ble_eq_true rfl⟩ (jLeft hP) (ci := 10) (iw := 0) rfl rfl rfl hl (As := [.int v12, .int (3 : Int32)]) (rest := [.int r13]) rfl (Nat.le_of_ble_eq_true rfl) ?_
      refine jSpI C dL_law_1036 (kt_bitCount l D G r14) jy_J6_bitCount_0f7a4 jq_22_2 jq_17_0 ⟨rfl, rfl, Nat.le_of_ble_eq_true rfl, Nat.le_of_ble_eq_true rfl⟩ ⟨Nat.le_of_ble_eq_true rfl, Nat.le_of_ble_eq_true rfl⟩ jE hl (rest := [.int r13]) rfl (Nat.le_of_ble_eq_true rfl) ?_
      refine lv_icmp_ne (tgt := 1053) hx hb dL_law_1039 (by decide) (fun c18 => ?_) (fun c18 => ?_)
      · have hV := jF1 hV c18
        refine lv_iconst (v := 0) hx hb dL_law_1053 (by decide) ?_
        cases hV
      · have hV := jT1 hV c18
        refine lv_aload_n hx hb dL_law_1042 rfl (lv_at hl 0 rfl) ?_
        refine lv_iload hx hb dL_law_1043 (lv_at hl 8 rfl) ?_
        refine lv_iconst (v := 2) hx hb dL_law_1045 (by decide) ?_
        obtain ⟨r16, hr16, hV⟩ := jBind hV
        refine jVpI C dL_law_1046 (k_Y8_subscription l D G B N S v12 (2 : Int32) r16 hr16) jy_X8_subscription jq_19_0 jq_19_1 jq_19_2 ⟨rfl, rfl, Nat.le_of_ble_eq_true rfl, Nat.le_of_ble_eq_true rfl⟩ ⟨Nat.le_of_ble_eq_true rfl, Nat.le_of_ble_eq_true rfl⟩ (jLeft hP) (ci := 10) (iw := 0) rfl rfl rfl hl (As := [.int v12, .int (2 : Int32)]) (rest := []) rfl (Nat.le_of_ble_eq_true rfl) ?_
        refine lv_iconst (v := 2) hx hb dL_law_1049 (by decide) ?_
        refine lv_icmp_le (tgt := 1055) hx hb dL_law_1050 (by decide) (fun c17 => ?_) (fun c17 => ?_)
        · have hV := jT1 hV c17
          refine lv_iinc (v := (v12 + 1)) (lv' := [(12, .int (v12 + 1)), (1, .ref (B 9 0)), (4, .int v4), (5, .int v5), (6, .int v6), (7, .int v7), (8, .int v8), (9, .int v9), (10, .int v10)]) hx hb dL_law_1055 hl (k := 8) rfl rfl (by decide) rfl (fun ls hl => ?_)
          refine lv_goto (tgt := 1015) hx hb dL_law_1058 (by decide) ?_
          exact ih M v4 v5 v6 v7 v8 v9 v10 (v12 + 1) _ _ _ hP hD hS (lv_sub hl [1, 2, 3, 4, 5, 6, 7, 8, 0] rfl) hV
        · have hV := jF1 hV c17
          refine lv_iconst (v := 0) hx hb dL_law_1053 (by decide) ?_
          cases hV
def D_L_law_826 (N : Nat) (S : CS) (k796 : (Nat → Nat → Int32) → Int32 → Int32 → Int32 → Int32 → Int32 → Int32 → Int32 → Int32 → Int32 → Int32 → Option Int32) : Nat → (Nat → Nat → Int32) → Int32 → Int32 → Int32 → Int32 → Int32 → Int32 → Int32 → Int32 → Int32 → Int32 → Int32 → Int32 → Int32 → Int32 → Int32 → Int32 → Option Int32
  | 0, _, _, _, _, _, _, _, _, _, _, _, _, _, _, _, _, _ => none
  | n + 1, M, v2, v3, v4, v5, v6, v7, v8, v9, v10, v12, v13, v14, v15, v16, v17, v18 => (if v3 ≤ v18 then ((F_Y8_production N S v12 (4 : Int32)).bind (fun r20 => (if r20 = v14 then ((F_Y8_production N S v12 (7 : Int32)).bind (fun r21 => (if r21 = v13 then ((F_Y8_partner N S v12).bind (fun r22 => ((F_Y8_production N S v12 (3 : Int32)).bind (fun r23 => (if r22 = (FP.fdiv (FP.fmul (FP.i2f v13) (FP.i2f r23)) (1120403456 : UInt32)) then (if v14 ≤ 0 then (k796 M v2 v3 v4 v5 v6 v7 (v8 + v13) v9 v10 (v12 + 1)) else ((F_Y8_fullness N S v12).bind (fun r25 => (if decide (v16 ≠ 0) = true then (if r25 = (FP.ddiv (FP.i2d v15) (FP.i2d v16)) then (k796 M v2 v3 v4 v5 v6 v7 (v8 + v13) v9 v10 (v12 + 1)) else none) else none)))) else none))))) else none))) else none))) else ((F_Y8_performance N S v18 (0 : Int32)).bind (fun r31 => (if r31 = v12 then ((F_Y8_performance N S v18 (3 : Int32)).bind (fun r32 => ((F_Y8_performance N S v18 (4 : Int32)).bind (fun r33 => ((F_Y8_performance N S v18 (3 : Int32)).bind (fun r34 => ((F_Y8_performance N S v18 (4 : Int32)).bind (fun r35 => ((F_Y8_performance N S v18 (1 : Int32)).bind (fun r36 => ((F_Y8_account N S ((10 : Int32) + r36)).bind (fun r37 => (D_L_law_826 N S k796 n M v2 v3 v4 v5 v6 v7 v8 v9 v10 v12 (v13 + ((v17 * r32) + ((((4 : Int32) * v17) / (5 : Int32)) * r33))) (v14 + 1) (v15 + (r34 + r35)) (v16 + r37) v17 (v18 + 1)))))))))))))) else (D_L_law_826 N S k796 n M v2 v3 v4 v5 v6 v7 v8 v9 v10 v12 v13 v14 v15 v16 v17 (v18 + 1))))))
set_option maxHeartbeats 4000000 in
set_option maxRecDepth 100000 in
theorem B_L_law_826 {p : Program} {l : Launch} {e : Env} {s : State} {m : MethodId} {args : Array Value} {below : List Frame} {meth : Method} {c : Code} {D : va_G} {G : Nat → ClassId} {A : Nat → Prop} {Q : State → Prop} {ret : Option FieldType} (C : Cx p s m args meth c cL_law 20 RL ret D G) (hA : ∀ q : Nat, s.heap.size ≤ q → A q) (N : Nat) (S : CS) (B : Nat → Nat → Nat) (tA : Nat → Nat) (r : Int32) (hend : ∀ (H : Heap) (locs : List Loc) (ls : Array Slot), va_S A s.heap H locs → W p l e room_1 s m args below meth c H locs 470 3491 Q (F0 m 1127 ls [.int 1])) (k796 : (Nat → Nat → Int32) → Int32 → Int32 → Int32 → Int32 → Int32 → Int32 → Int32 → Int32 → Int32 → Int32 → Option Int32) (hk796 : (∀ (M : Nat → Nat → Int32) (v2 : Int32) (v3 : Int32) (v4 : Int32) (v5 : Int32) (v6 : Int32) (v7 : Int32) (v8 : Int32) (v9 : Int32) (v10 : Int32) (v12 : Int32) (ls : Array Slot) (H : Heap) (locs : List Loc), va_P D vwCl (wLw B G tA S M) H → va_D A (wLw B G tA S M) → va_S A s.heap H locs → lv_has ls 20 [(1, .ref (B 9 0)), (2, .int v2), (3, .int v3), (4, .int v4), (5, .int v5), (6, .int v6), (7, .int v7), (8, .int v8), (9, .int v9), (10, .int v10), (12, .int v12)] → k796 M v2 v3 v4 v5 v6 v7 v8 v9 v10 v12 = some r → W p l e room_1 s m args below meth c H locs 470 3491 Q (F0 m 796 ls []))) : (∀ (n : Nat) (M : Nat → Nat → Int32) (v2 : Int32) (v3 : Int32) (v4 : Int32) (v5 : Int32) (v6 : Int32) (v7 : Int32) (v8 : Int32) (v9 : Int32) (v10 : Int32) (v12 : Int32) (v13 : Int32) (v14 : Int32) (v15 : Int32) (v16 : Int32) (v17 : Int32) (v18 : Int32) (ls : Array Slot) (H : Heap) (locs : List Loc), va_P D vwCl (wLw B G tA S M) H → va_D A (wLw B G tA S M) → va_S A s.heap H locs → lv_has ls 20 [(1, .ref (B 9 0)), (2, .int v2), (3, .int v3), (4, .int v4), (5, .int v5), (6, .int v6), (7, .int v7), (8, .int v8), (9, .int v9), (10, .int v10), (12, .int v12), (13, .int v13), (14, .int v14), (15, .int v15), (16, .int v16), (17, .int v17), (18, .int v18)] → D_L_law_826 N S k796 n M v2 v3 v4 v5 v6 v7 v8 v9 v10 v12 v13 v14 v15 v16 v17 v18 = some r → W p l e room_1 s m args below meth c H locs 470 3491 Q (F0 m 826 ls [])) := by
  have C := C
  obtain ⟨hx, hb, hr, hml, hts, hown, hlocks, hK0⟩ := id C
  have hK := hK0.1
  intro n
  induction n with
  | zero =>
    intro M v2 v3 v4 v5 v6 v7 v8 v9 v10 v12 v13 v14 v15 v16 v17 v18 ls H locs hP hD hS hl hV
    rw [D_L_law_826] at hV
    cases hV
  | succ n ih =>
    intro M v2 v3 v4 v5 v6 v7 v8 v9 v10 v12 v13 v14 v15 v16 v17 v18 ls H locs hP hD hS hl hV
    rw [D_L_law_826] at hV
    refine lv_iload hx hb dL_law_826 (lv_at hl 16 rfl) ?_
    refine lv_iload_n hx hb dL_law_828 rfl (lv_at hl 2 rfl) ?_
    refine lv_icmp_ge (tgt := 925) hx hb dL_law_829 (by decide) (fun c39 => ?_) (fun c39 => ?_)
    · have hV := jT1 hV c39
      refine lv_aload_n hx hb dL_law_925 rfl (lv_at hl 0 rfl) ?_
      refine lv_iload hx hb dL_law_926 (lv_at hl 10 rfl) ?_
      refine lv_iconst (v := 4) hx hb dL_law_928 (by decide) ?_
      obtain ⟨r20, hr20, hV⟩ := jBind hV
      refine jVpI C dL_law_929 (k_Y8_production l D G B N S v12 (4 : Int32) r20 hr20) jy_X8_production jq_20_1 jq_20_2 jq_20_3 ⟨rfl, rfl, Nat.le_of_ble_eq_true rfl, Nat.le_of_ble_eq_true rfl⟩ ⟨Nat.le_of_ble_eq_true rfl, Nat.le_of_ble_eq_true rfl⟩ (jLeft hP) (ci := 10) (iw := 0) rfl rfl rfl hl (As := [.int v12, .int (4 : Int32)]) (rest := []) rfl (Nat.le_of_ble_eq_true rfl) ?_
      refine lv_iload hx hb dL_law_932 (lv_at hl 12 rfl) ?_
      refine lv_icmp_ne (tgt := 997) hx hb dL_law_934 (by decide) (fun c30 => ?_) (fun c30 => ?_)
      · have hV := jF1 hV c30
        refine lv_iconst (v := 0) hx hb dL_law_997 (by decide) ?_
        cases hV
      · have hV := jT1 hV c30
        refine lv_aload_n hx hb dL_law_937 rfl (lv_at hl 0 rfl) ?_
        refine lv_iload hx hb dL_law_938 (lv_at hl 10 rfl) ?_
        refine lv_bipush (v := 7) hx hb dL_law_940 (by decide) ?_
        obtain ⟨r21, hr21, hV⟩ := jBind hV
        refine jVpI C dL_law_942 (k_Y8_production l D G B N S v12 (7 : Int32) r21 hr21) jy_X8_production jq_20_1 jq_20_2 jq_20_3 ⟨rfl, rfl, Nat.le_of_ble_eq_true rfl, Nat.le_of_ble_eq_true rfl⟩ ⟨Nat.le_of_ble_eq_true rfl, Nat.le_of_ble_eq_true rfl⟩ (jLeft hP) (ci := 10) (iw := 0) rfl rfl rfl hl (As := [.int v12, .int (7 : Int32)]) (rest := []) rfl (Nat.le_of_ble_eq_true rfl) ?_
        refine lv_iload hx hb dL_law_945 (lv_at hl 11 rfl) ?_
        refine lv_icmp_ne (tgt := 997) hx hb dL_law_947 (by decide) (fun c29 => ?_) (fun c29 => ?_)
        · have hV := jF1 hV c29
          refine lv_iconst (v := 0) hx hb dL_law_997 (by decide) ?_
          cases hV
        · have hV := jT1 hV c29
          refine lv_aload_n hx hb dL_law_950 rfl (lv_at hl 0 rfl) ?_
          refine lv_iload hx hb dL_law_951 (lv_at hl 10 rfl) ?_
          obtain ⟨r22, hr22, hV⟩ := jBind hV
          refine jVp C dL_law_953 (k_Y8_partner l D G B N S v12 r22 hr22) jy_X8_partner jq_21_11 jq_21_12 jq_21_13 ⟨rfl, rfl, Nat.le_of_ble_eq_true rfl, Nat.le_of_ble_eq_true rfl⟩ ⟨Nat.le_of_ble_eq_true rfl, Nat.le_of_ble_eq_true rfl⟩ (jLeft hP) (ci := 10) (iw := 0) rfl rfl rfl hl (As := [.int v12]) (rest := []) rfl (Nat.le_of_ble_eq_true rfl) ?_
          refine W.eq (g2 := F0 m 956 ls [.float r22]) rfl ?_
          refine lv_iload hx hb dL_law_956 (lv_at hl 11 rfl) ?_
          refine lv_i2f hx hb dL_law_958 ?_
          refine lv_aload_n hx hb dL_law_959 rfl (lv_at hl 0 rfl) ?_
          refine lv_iload hx hb dL_law_960 (lv_at hl 10 rfl) ?_
          refine lv_iconst (v := 3) hx hb dL_law_962 (by decide) ?_
          obtain ⟨r23, hr23, hV⟩ := jBind hV
          refine jVpI C dL_law_963 (k_Y8_production l D G B N S v12 (3 : Int32) r23 hr23) jy_X8_production jq_20_1 jq_20_2 jq_20_3 ⟨rfl, rfl, Nat.le_of_ble_eq_true rfl, Nat.le_of_ble_eq_true rfl⟩ ⟨Nat.le_of_ble_eq_true rfl, Nat.le_of_ble_eq_true rfl⟩ (jLeft hP) (ci := 10) (iw := 0) rfl rfl rfl hl (As := [.int v12, .int (3 : Int32)]) (rest := [.float (FP.i2f v13), .float r22]) rfl (Nat.le_of_ble_eq_true rfl) ?_
          refine lv_i2f hx hb dL_law_966 ?_
          refine lv_fmul hx hb dL_law_967 (fp_mul _ _) ?_
          refine lv_ldcf hx hb hown (hts _ jq_1_9) dL_law_968 ?_
          refine lv_fdiv hx hb dL_law_970 (fp_div _ _) ?_
          obtain ⟨g24, hV⟩ := jIfP hV
          refine lv_fcmp hx hb dL_law_971 ?_
          refine W.eq (g2 := F0 m 972 ls [.int 0]) (by rw [g24, fp_cmpf (fp_div _ _)]) ?_
          refine lv_if_ne (tgt := 997) hx hb dL_law_972 (by decide) (fun h => absurd h (by decide)) (fun _ => ?_)
          refine lv_iload hx hb dL_law_975 (lv_at hl 12 rfl) ?_
          refine lv_if_le (tgt := 999) hx hb dL_law_977 (by decide) (fun c28 => ?_) (fun c28 => ?_)
          · have hV := jT1 hV c28
            refine lv_iload hx hb dL_law_999 (lv_at hl 7 rfl) ?_
            refine lv_iload hx hb dL_law_1001 (lv_at hl 11 rfl) ?_
            refine lv_iadd hx hb dL_law_1003 ?_
            refine lv_istore (lv' := [(8, .int (v8 + v13)), (1, .ref (B 9 0)), (2, .int v2), (3, .int v3), (4, .int v4), (5, .int v5), (6, .int v6), (7, .int v7), (9, .int v9), (10, .int v10), (12, .int v12), (13, .int v13), (14, .int v14), (15, .int v15), (16, .int v16), (17, .int v17), (18, .int v18)]) hx hb dL_law_1004 hl (by decide) rfl (fun ls hl => ?_)
            refine lv_iinc (v := (v12 + 1)) (lv' := [(12, .int (v12 + 1)), (8, .int (v8 + v13)), (1, .ref (B 9 0)), (2, .int v2), (3, .int v3), (4, .int v4), (5, .int v5), (6, .int v6), (7, .int v7), (9, .int v9), (10, .int v10), (13, .int v13), (14, .int v14), (15, .int v15), (16, .int v16), (17, .int v17), (18, .int v18)]) hx hb dL_law_1006 hl (k := 10) rfl rfl (by decide) rfl (fun ls hl => ?_)
            refine lv_goto (tgt := 796) hx hb dL_law_1009 (by decide) ?_
            exact hk796 M v2 v3 v4 v5 v6 v7 (v8 + v13) v9 v10 (v12 + 1) _ _ _ hP hD hS (lv_sub hl [2, 3, 4, 5, 6, 7, 8, 1, 9, 10, 0] rfl) hV
          · have hV := jF1 hV c28
            refine lv_aload_n hx hb dL_law_980 rfl (lv_at hl 0 rfl) ?_
            refine lv_iload hx hb dL_law_981 (lv_at hl 10 rfl) ?_
            obtain ⟨r25, hr25, hV⟩ := jBind hV
            refine jVp C dL_law_983 (k_Y8_fullness l D G B N S v12 r25 hr25) jy_X8_fullness jq_21_16 jq_21_17 jq_21_18 ⟨rfl, rfl, Nat.le_of_ble_eq_true rfl, Nat.le_of_ble_eq_true rfl⟩ ⟨Nat.le_of_ble_eq_true rfl, Nat.le_of_ble_eq_true rfl⟩ (jLeft hP) (ci := 10) (iw := 0) rfl rfl rfl hl (As := [.int v12]) (rest := []) rfl (Nat.le_of_ble_eq_true rfl) ?_
            refine W.eq (g2 := F0 m 986 ls [.double r25]) rfl ?_
            refine lv_iload hx hb dL_law_986 (lv_at hl 13 rfl) ?_
            refine lv_i2d hx hb dL_law_988 ?_
            refine lv_iload hx hb dL_law_989 (lv_at hl 14 rfl) ?_
            refine lv_i2d hx hb dL_law_991 ?_
            obtain ⟨g26, hV⟩ := jIf hV
            refine lv_ddiv hx hb dL_law_992 (fp_ddiv _ (of_decide_eq_true g26)) ?_
            obtain ⟨g27, hV⟩ := jIfP hV
            refine lv_dcmp hx hb dL_law_993 ?_
            refine W.eq (g2 := F0 m 994 ls [.int 0]) (by rw [g27, fp_cmp (fp_ddiv _ (of_decide_eq_true g26))]) ?_
            refine lv_if_eq (tgt := 999) hx hb dL_law_994 (by decide) (fun _ => ?_) (fun h => absurd (by decide) h)
            refine lv_iload hx hb dL_law_999 (lv_at hl 7 rfl) ?_
            refine lv_iload hx hb dL_law_1001 (lv_at hl 11 rfl) ?_
            refine lv_iadd hx hb dL_law_1003 ?_
            refine lv_istore (lv' := [(8, .int (v8 + v13)), (1, .ref (B 9 0)), (2, .int v2), (3, .int v3), (4, .int v4), (5, .int v5), (6, .int v6), (7, .int v7), (9, .int v9), (10, .int v10), (12, .int v12), (13, .int v13), (14, .int v14), (15, .int v15), (16, .int v16), (17, .int v17), (18, .int v18)]) hx hb dL_law_1004 hl (by decide) rfl (fun ls hl => ?_)
            refine lv_iinc (v := (v12 + 1)) (lv' := [(12, .int (v12 + 1)), (8, .int (v8 + v13)), (1, .ref (B 9 0)), (2, .int v2), (3, .int v3), (4, .int v4), (5, .int v5), (6, .int v6), (7, .int v7), (9, .int v9), (10, .int v10), (13, .int v13), (14, .int v14), (15, .int v15), (16, .int v16), (17, .int v17), (18, .int v18)]) hx hb dL_law_1006 hl (k := 10) rfl rfl (by decide) rfl (fun ls hl => ?_)
            refine lv_goto (tgt := 796) hx hb dL_law_1009 (by decide) ?_
            exact hk796 M v2 v3 v4 v5 v6 v7 (v8 + v13) v9 v10 (v12 + 1) _ _ _ hP hD hS (lv_sub hl [2, 3, 4, 5, 6, 7, 8, 1, 9, 10, 0] rfl) hV
    · have hV := jF1 hV c39
      refine lv_aload_n hx hb dL_law_832 rfl (lv_at hl 0 rfl) ?_
      refine lv_iload hx hb dL_law_833 (lv_at hl 16 rfl) ?_
      refine lv_iconst (v := 0) hx hb dL_law_835 (by decide) ?_
      obtain ⟨r31, hr31, hV⟩ := jBind hV
      refine jVpI C dL_law_836 (k_Y8_performance l D G B N S v18 (0 : Int32) r31 hr31) jy_X8_performance jq_18_14 jq_18_15 jq_18_16 ⟨rfl, rfl, Nat.le_of_ble_eq_true rfl, Nat.le_of_ble_eq_true rfl⟩ ⟨Nat.le_of_ble_eq_true rfl, Nat.le_of_ble_eq_true rfl⟩ (jLeft hP) (ci := 10) (iw := 0) rfl rfl rfl hl (As := [.int v18, .int (0 : Int32)]) (rest := []) rfl (Nat.le_of_ble_eq_true rfl) ?_
      refine lv_iload hx hb dL_law_839 (lv_at hl 10 rfl) ?_
      refine lv_icmp_eq (tgt := 847) hx hb dL_law_841 (by decide) (fun c38 => ?_) (fun c38 => ?_)
      · have hV := jT1 hV c38
        refine lv_iinc (v := (v14 + 1)) (lv' := [(14, .int (v14 + 1)), (1, .ref (B 9 0)), (2, .int v2), (3, .int v3), (4, .int v4), (5, .int v5), (6, .int v6), (7, .int v7), (8, .int v8), (9, .int v9), (10, .int v10), (12, .int v12), (13, .int v13), (15, .int v15), (16, .int v16), (17, .int v17), (18, .int v18)]) hx hb dL_law_847 hl (k := 12) rfl rfl (by decide) rfl (fun ls hl => ?_)
        refine lv_iload hx hb dL_law_850 (lv_at hl 12 rfl) ?_
        refine lv_iload hx hb dL_law_852 (lv_at hl 15 rfl) ?_
        refine lv_aload_n hx hb dL_law_854 rfl (lv_at hl 1 rfl) ?_
        refine lv_iload hx hb dL_law_855 (lv_at hl 16 rfl) ?_
        refine lv_iconst (v := 3) hx hb dL_law_857 (by decide) ?_
        obtain ⟨r32, hr32, hV⟩ := jBind hV
        refine jVpI C dL_law_858 (k_Y8_performance l D G B N S v18 (3 : Int32) r32 hr32) jy_X8_performance jq_18_14 jq_18_15 jq_18_16 ⟨rfl, rfl, Nat.le_of_ble_eq_true rfl, Nat.le_of_ble_eq_true rfl⟩ ⟨Nat.le_of_ble_eq_true rfl, Nat.le_of_ble_eq_true rfl⟩ (jLeft hP) (ci := 10) (iw := 0) rfl rfl rfl hl (As := [.int v18, .int (3 : Int32)]) (rest := [.int v17, .int v13]) rfl (Nat.le_of_ble_eq_true rfl) ?_
        refine lv_imul hx hb dL_law_861 ?_
        refine lv_iconst (v := 4) hx hb dL_law_862 (by decide) ?_
        refine lv_iload hx hb dL_law_863 (lv_at hl 15 rfl) ?_
        refine lv_imul hx hb dL_law_865 ?_
        refine lv_iconst (v := 5) hx hb dL_law_866 (by decide) ?_
        refine lv_idiv hx hb dL_law_867 (by decide) ?_
        refine lv_aload_n hx hb dL_law_868 rfl (lv_at hl 1 rfl) ?_
        refine lv_iload hx hb dL_law_869 (lv_at hl 16 rfl) ?_
        refine lv_iconst (v := 4) hx hb dL_law_871 (by decide) ?_
        obtain ⟨r33, hr33, hV⟩ := jBind hV
        refine jVpI C dL_law_872 (k_Y8_performance l D G B N S v18 (4 : Int32) r33 hr33) jy_X8_performance jq_18_14 jq_18_15 jq_18_16 ⟨rfl, rfl, Nat.le_of_ble_eq_true rfl, Nat.le_of_ble_eq_true rfl⟩ ⟨Nat.le_of_ble_eq_true rfl, Nat.le_of_ble_eq_true rfl⟩ (jLeft hP) (ci := 10) (iw := 0) rfl rfl rfl hl (As := [.int v18, .int (4 : Int32)]) (rest := [.int (((4 : Int32) * v17) / (5 : Int32)), .int (v17 * r32), .int v13]) rfl (Nat.le_of_ble_eq_true rfl) ?_
        refine lv_imul hx hb dL_law_875 ?_
        refine lv_iadd hx hb dL_law_876 ?_
        refine lv_iadd hx hb dL_law_877 ?_
        refine lv_istore (lv' := [(13, .int (v13 + ((v17 * r32) + ((((4 : Int32) * v17) / (5 : Int32)) * r33)))), (14, .int (v14 + 1)), (1, .ref (B 9 0)), (2, .int v2), (3, .int v3), (4, .int v4), (5, .int v5), (6, .int v6), (7, .int v7), (8, .int v8), (9, .int v9), (10, .int v10), (12, .int v12), (15, .int v15), (16, .int v16), (17, .int v17), (18, .int v18)]) hx hb dL_law_878 hl (by decide) rfl (fun ls hl => ?_)
        refine lv_iload hx hb dL_law_880 (lv_at hl 13 rfl) ?_
        refine lv_aload_n hx hb dL_law_882 rfl (lv_at hl 2 rfl) ?_
        refine lv_iload hx hb dL_law_883 (lv_at hl 16 rfl) ?_
        refine lv_iconst (v := 3) hx hb dL_law_885 (by decide) ?_
        obtain ⟨r34, hr34, hV⟩ := jBind hV
        refine jVpI C dL_law_886 (k_Y8_performance l D G B N S v18 (3 : Int32) r34 hr34) jy_X8_performance jq_18_14 jq_18_15 jq_18_16 ⟨rfl, rfl, Nat.le_of_ble_eq_true rfl, Nat.le_of_ble_eq_true rfl⟩ ⟨Nat.le_of_ble_eq_true rfl, Nat.le_of_ble_eq_true rfl⟩ (jLeft hP) (ci := 10) (iw := 0) rfl rfl rfl hl (As := [.int v18, .int (3 : Int32)]) (rest := [.int v15]) rfl (Nat.le_of_ble_eq_true rfl) ?_
        refine lv_aload_n hx hb dL_law_889 rfl (lv_at hl 2 rfl) ?_
        refine lv_iload hx hb dL_law_890 (lv_at hl 16 rfl) ?_
        refine lv_iconst (v := 4) hx hb dL_law_892 (by decide) ?_
        obtain ⟨r35, hr35, hV⟩ := jBind hV
        refine jVpI C dL_law_893 (k_Y8_performance l D G B N S v18 (4 : Int32) r35 hr35) jy_X8_performance jq_18_14 jq_18_15 jq_18_16 ⟨rfl, rfl, Nat.le_of_ble_eq_true rfl, Nat.le_of_ble_eq_true rfl⟩ ⟨Nat.le_of_ble_eq_true rfl, Nat.le_of_ble_eq_true rfl⟩ (jLeft hP) (ci := 10) (iw := 0) rfl rfl rfl hl (As := [.int v18, .int (4 : Int32)]) (rest := [.int r34, .int v15]) rfl (Nat.le_of_ble_eq_true rfl) ?_
        refine lv_iadd hx hb dL_law_896 ?_
        refine lv_iadd hx hb dL_law_897 ?_
        refine lv_istore (lv' := [(15, .int (v15 + (r34 + r35))), (13, .int (v13 + ((v17 * r32) + ((((4 : Int32) * v17) / (5 : Int32)) * r33)))), (14, .int (v14 + 1)), (1, .ref (B 9 0)), (2, .int v2), (3, .int v3), (4, .int v4), (5, .int v5), (6, .int v6), (7, .int v7), (8, .int v8), (9, .int v9), (10, .int v10), (12, .int v12), (16, .int v16), (17, .int v17), (18, .int v18)]) hx hb dL_law_898 hl (by decide) rfl (fun ls hl => ?_)
        refine lv_iload hx hb dL_law_900 (lv_at hl 14 rfl) ?_
        refine lv_aload_n hx hb dL_law_902 rfl (lv_at hl 3 rfl) ?_
        refine lv_bipush (v := 10) hx hb dL_law_903 (by decide) ?_
        refine lv_aload_n hx hb dL_law_905 rfl (lv_at hl 3 rfl) ?_
        refine lv_iload hx hb dL_law_906 (lv_at hl 16 rfl) ?_
        refine lv_iconst (v := 1) hx hb dL_law_908 (by decide) ?_
        obtain ⟨r36, hr36, hV⟩ := jBind hV
        refine jVpI C dL_law_909 (k_Y8_performance l D G B N S v18 (1 : Int32) r36 hr36) jy_X8_performance jq_18_14 jq_18_15 jq_18_16 ⟨rfl, rfl, Nat.le_of_ble_eq_true rfl, Nat.le_of_ble_eq_true rfl⟩ ⟨Nat.le_of_ble_eq_true rfl, Nat.le_of_ble_eq_true rfl⟩ (jLeft hP) (ci := 10) (iw := 0) rfl rfl rfl hl (As := [.int v18, .int (1 : Int32)]) (rest := [.int (10 : Int32), .ref (B 9 0), .int v16]) rfl (Nat.le_of_ble_eq_true rfl) ?_
        refine lv_iadd hx hb dL_law_912 ?_
        obtain ⟨r37, hr37, hV⟩ := jBind hV
        refine jVpI C dL_law_913 (k_Y8_account l D G B N S ((10 : Int32) + r36) r37 hr37) jy_X8_account jq_5_22 jq_5_23 jq_6_0 ⟨rfl, rfl, Nat.le_of_ble_eq_true rfl, Nat.le_of_ble_eq_true rfl⟩ ⟨Nat.le_of_ble_eq_true rfl, Nat.le_of_ble_eq_true rfl⟩ (jLeft hP) (ci := 10) (iw := 0) rfl rfl rfl hl (As := [.int ((10 : Int32) + r36)]) (rest := [.int v16]) rfl (Nat.le_of_ble_eq_true rfl) ?_
        refine lv_iadd hx hb dL_law_916 ?_
        refine lv_istore (lv' := [(16, .int (v16 + r37)), (15, .int (v15 + (r34 + r35))), (13, .int (v13 + ((v17 * r32) + ((((4 : Int32) * v17) / (5 : Int32)) * r33)))), (14, .int (v14 + 1)), (1, .ref (B 9 0)), (2, .int v2), (3, .int v3), (4, .int v4), (5, .int v5), (6, .int v6), (7, .int v7), (8, .int v8), (9, .int v9), (10, .int v10), (12, .int v12), (17, .int v17), (18, .int v18)]) hx hb dL_law_917 hl (by decide) rfl (fun ls hl => ?_)
        refine lv_iinc (v := (v18 + 1)) (lv' := [(18, .int (v18 + 1)), (16, .int (v16 + r37)), (15, .int (v15 + (r34 + r35))), (13, .int (v13 + ((v17 * r32) + ((((4 : Int32) * v17) / (5 : Int32)) * r33)))), (14, .int (v14 + 1)), (1, .ref (B 9 0)), (2, .int v2), (3, .int v3), (4, .int v4), (5, .int v5), (6, .int v6), (7, .int v7), (8, .int v8), (9, .int v9), (10, .int v10), (12, .int v12), (17, .int v17)]) hx hb dL_law_919 hl (k := 16) rfl rfl (by decide) rfl (fun ls hl => ?_)
        refine lv_goto (tgt := 826) hx hb dL_law_922 (by decide) ?_
        exact ih M v2 v3 v4 v5 v6 v7 v8 v9 v10 v12 (v13 + ((v17 * r32) + ((((4 : Int32) * v17) / (5 : Int32)) * r33))) (v14 + 1) (v15 + (r34 + r35)) (v16 + r37) v17 (v18 + 1) _ _ _ hP hD hS (lv_sub hl [5, 6, 7, 8, 9, 10, 11, 12, 13, 14, 15, 3, 4, 2, 1, 16, 0] rfl) hV
      · have hV := jF1 hV c38
        refine lv_goto (tgt := 919) hx hb dL_law_844 (by decide) ?_
        refine lv_iinc (v := (v18 + 1)) (lv' := [(18, .int (v18 + 1)), (1, .ref (B 9 0)), (2, .int v2), (3, .int v3), (4, .int v4), (5, .int v5), (6, .int v6), (7, .int v7), (8, .int v8), (9, .int v9), (10, .int v10), (12, .int v12), (13, .int v13), (14, .int v14), (15, .int v15), (16, .int v16), (17, .int v17)]) hx hb dL_law_919 hl (k := 16) rfl rfl (by decide) rfl (fun ls hl => ?_)
        refine lv_goto (tgt := 826) hx hb dL_law_922 (by decide) ?_
        exact ih M v2 v3 v4 v5 v6 v7 v8 v9 v10 v12 v13 v14 v15 v16 v17 (v18 + 1) _ _ _ hP hD hS (lv_sub hl [1, 2, 3, 4, 5, 6, 7, 8, 9, 10, 11, 12, 13, 14, 15, 16, 0] rfl) hV
def D_L_law_796 (N : Nat) (S : CS) : Nat → (Nat → Nat → Int32) → Int32 → Int32 → Int32 → Int32 → Int32 → Int32 → Int32 → Int32 → Int32 → Int32 → Option Int32
  | 0, _, _, _, _, _, _, _, _, _, _, _ => none
  | n + 1, M, v2, v3, v4, v5, v6, v7, v8, v9, v10, v12 => (if v2 ≤ v12 then (D_L_law_1015 N S  N M v4 v5 v6 v7 v8 v9 v10 (0 : Int32)) else ((F_Y8_production N S v12 (2 : Int32)).bind (fun r40 => (D_L_law_826 N S (D_L_law_796 N S  n) N M v2 v3 v4 v5 v6 v7 v8 v9 v10 v12 (0 : Int32) (0 : Int32) (0 : Int32) (0 : Int32) r40 (0 : Int32)))))
set_option maxHeartbeats 4000000 in
set_option maxRecDepth 100000 in
theorem B_L_law_796 {p : Program} {l : Launch} {e : Env} {s : State} {m : MethodId} {args : Array Value} {below : List Frame} {meth : Method} {c : Code} {D : va_G} {G : Nat → ClassId} {A : Nat → Prop} {Q : State → Prop} {ret : Option FieldType} (C : Cx p s m args meth c cL_law 20 RL ret D G) (hA : ∀ q : Nat, s.heap.size ≤ q → A q) (N : Nat) (S : CS) (B : Nat → Nat → Nat) (tA : Nat → Nat) (r : Int32) (hend : ∀ (H : Heap) (locs : List Loc) (ls : Array Slot), va_S A s.heap H locs → W p l e room_1 s m args below meth c H locs 470 3491 Q (F0 m 1127 ls [.int 1])) : (∀ (n : Nat) (M : Nat → Nat → Int32) (v2 : Int32) (v3 : Int32) (v4 : Int32) (v5 : Int32) (v6 : Int32) (v7 : Int32) (v8 : Int32) (v9 : Int32) (v10 : Int32) (v12 : Int32) (ls : Array Slot) (H : Heap) (locs : List Loc), va_P D vwCl (wLw B G tA S M) H → va_D A (wLw B G tA S M) → va_S A s.heap H locs → lv_has ls 20 [(1, .ref (B 9 0)), (2, .int v2), (3, .int v3), (4, .int v4), (5, .int v5), (6, .int v6), (7, .int v7), (8, .int v8), (9, .int v9), (10, .int v10), (12, .int v12)] → D_L_law_796 N S  n M v2 v3 v4 v5 v6 v7 v8 v9 v10 v12 = some r → W p l e room_1 s m args below meth c H locs 470 3491 Q (F0 m 796 ls [])) := by
  have C := C
  obtain ⟨hx, hb, hr, hml, hts, hown, hlocks, hK0⟩ := id C
  have hK := hK0.1
  intro n
  induction n with
  | zero =>
    intro M v2 v3 v4 v5 v6 v7 v8 v9 v10 v12 ls H locs hP hD hS hl hV
    rw [D_L_law_796] at hV
    cases hV
  | succ n ih =>
    intro M v2 v3 v4 v5 v6 v7 v8 v9 v10 v12 ls H locs hP hD hS hl hV
    rw [D_L_law_796] at hV
    refine lv_iload hx hb dL_law_796 (lv_at hl 10 rfl) ?_
    refine lv_iload_n hx hb dL_law_798 rfl (lv_at hl 1 rfl) ?_
    refine lv_icmp_ge (tgt := 1012) hx hb dL_law_799 (by decide) (fun c41 => ?_) (fun c41 => ?_)
    · have hV := jT1 hV c41
      refine lv_iconst (v := 0) hx hb dL_law_1012 (by decide) ?_
      refine lv_istore (lv' := [(12, .int (0 : Int32)), (1, .ref (B 9 0)), (2, .int v2), (3, .int v3), (4, .int v4), (5, .int v5), (6, .int v6), (7, .int v7), (8, .int v8), (9, .int v9), (10, .int v10)]) hx hb dL_law_1013 hl (by decide) rfl (fun ls hl => ?_)
      exact B_L_law_1015 C hA N S B tA r hend   N M v4 v5 v6 v7 v8 v9 v10 (0 : Int32) _ _ _ hP hD hS (lv_sub hl [1, 4, 5, 6, 7, 8, 9, 10, 0] rfl) hV
    · have hV := jF1 hV c41
      refine lv_iconst (v := 0) hx hb dL_law_802 (by decide) ?_
      refine lv_istore (lv' := [(13, .int (0 : Int32)), (1, .ref (B 9 0)), (2, .int v2), (3, .int v3), (4, .int v4), (5, .int v5), (6, .int v6), (7, .int v7), (8, .int v8), (9, .int v9), (10, .int v10), (12, .int v12)]) hx hb dL_law_803 hl (by decide) rfl (fun ls hl => ?_)
      refine lv_iconst (v := 0) hx hb dL_law_805 (by decide) ?_
      refine lv_istore (lv' := [(14, .int (0 : Int32)), (13, .int (0 : Int32)), (1, .ref (B 9 0)), (2, .int v2), (3, .int v3), (4, .int v4), (5, .int v5), (6, .int v6), (7, .int v7), (8, .int v8), (9, .int v9), (10, .int v10), (12, .int v12)]) hx hb dL_law_806 hl (by decide) rfl (fun ls hl => ?_)
      refine lv_iconst (v := 0) hx hb dL_law_808 (by decide) ?_
      refine lv_istore (lv' := [(15, .int (0 : Int32)), (14, .int (0 : Int32)), (13, .int (0 : Int32)), (1, .ref (B 9 0)), (2, .int v2), (3, .int v3), (4, .int v4), (5, .int v5), (6, .int v6), (7, .int v7), (8, .int v8), (9, .int v9), (10, .int v10), (12, .int v12)]) hx hb dL_law_809 hl (by decide) rfl (fun ls hl => ?_)
      refine lv_iconst (v := 0) hx hb dL_law_811 (by decide) ?_
      refine lv_istore (lv' := [(16, .int (0 : Int32)), (15, .int (0 : Int32)), (14, .int (0 : Int32)), (13, .int (0 : Int32)), (1, .ref (B 9 0)), (2, .int v2), (3, .int v3), (4, .int v4), (5, .int v5), (6, .int v6), (7, .int v7), (8, .int v8), (9, .int v9), (10, .int v10), (12, .int v12)]) hx hb dL_law_812 hl (by decide) rfl (fun ls hl => ?_)
      refine lv_aload_n hx hb dL_law_814 rfl (lv_at hl 4 rfl) ?_
      refine lv_iload hx hb dL_law_815 (lv_at hl 14 rfl) ?_
      refine lv_iconst (v := 2) hx hb dL_law_817 (by decide) ?_
      obtain ⟨r40, hr40, hV⟩ := jBind hV
      refine jVpI C dL_law_818 (k_Y8_production l D G B N S v12 (2 : Int32) r40 hr40) jy_X8_production jq_20_1 jq_20_2 jq_20_3 ⟨rfl, rfl, Nat.le_of_ble_eq_true rfl, Nat.le_of_ble_eq_true rfl⟩ ⟨Nat.le_of_ble_eq_true rfl, Nat.le_of_ble_eq_true rfl⟩ (jLeft hP) (ci := 10) (iw := 0) rfl rfl rfl hl (As := [.int v12, .int (2 : Int32)]) (rest := []) rfl (Nat.le_of_ble_eq_true rfl) ?_
      refine lv_istore (lv' := [(17, .int r40), (16, .int (0 : Int32)), (15, .int (0 : Int32)), (14, .int (0 : Int32)), (13, .int (0 : Int32)), (1, .ref (B 9 0)), (2, .int v2), (3, .int v3), (4, .int v4), (5, .int v5), (6, .int v6), (7, .int v7), (8, .int v8), (9, .int v9), (10, .int v10), (12, .int v12)]) hx hb dL_law_821 hl (by decide) rfl (fun ls hl => ?_)
      refine lv_iconst (v := 0) hx hb dL_law_823 (by decide) ?_
      refine lv_istore (lv' := [(18, .int (0 : Int32)), (17, .int r40), (16, .int (0 : Int32)), (15, .int (0 : Int32)), (14, .int (0 : Int32)), (13, .int (0 : Int32)), (1, .ref (B 9 0)), (2, .int v2), (3, .int v3), (4, .int v4), (5, .int v5), (6, .int v6), (7, .int v7), (8, .int v8), (9, .int v9), (10, .int v10), (12, .int v12)]) hx hb dL_law_824 hl (by decide) rfl (fun ls hl => ?_)
      exact B_L_law_826 C hA N S B tA r hend (D_L_law_796 N S  n) ih N M v2 v3 v4 v5 v6 v7 v8 v9 v10 v12 (0 : Int32) (0 : Int32) (0 : Int32) (0 : Int32) r40 (0 : Int32) _ _ _ hP hD hS (lv_sub hl [6, 7, 8, 9, 10, 11, 12, 13, 14, 15, 16, 5, 4, 3, 2, 1, 0] rfl) hV
def D_L_law_735 (N : Nat) (S : CS) (k488 : (Nat → Nat → Int32) → Int32 → Int32 → Int32 → Int32 → Int32 → Int32 → Int32 → Int32 → Int32 → Int32 → Option Int32) : Nat → (Nat → Nat → Int32) → Int32 → Int32 → Int32 → Int32 → Int32 → Int32 → Int32 → Int32 → Int32 → Int32 → Int32 → Option Int32
  | 0, _, _, _, _, _, _, _, _, _, _, _, _ => none
  | n + 1, M, v2, v3, v4, v5, v6, v7, v8, v9, v10, v12, v15 => (if (3 : Int32) ≤ v15 then (k488 M v2 v3 v4 v5 v6 v7 v8 v9 v10 (v12 + 1)) else ((F_Y8_seats N S v12 v15).bind (fun r42 => (if inb v12 30 = true then (if inb v15 3 = true then (if r42 = (M v12.toNatClampNeg v15.toNatClampNeg) then ((F_Y8_seatsAgain N S v12 v15).bind (fun r45 => (if inb v12 30 = true then (if inb v15 3 = true then (if r45 = (M v12.toNatClampNeg v15.toNatClampNeg) then (D_L_law_735 N S k488 n M v2 v3 v4 v5 v6 v7 v8 v9 v10 v12 (v15 + 1)) else none) else none) else none))) else none) else none) else none))))
set_option maxHeartbeats 4000000 in
set_option maxRecDepth 100000 in
theorem B_L_law_735 {p : Program} {l : Launch} {e : Env} {s : State} {m : MethodId} {args : Array Value} {below : List Frame} {meth : Method} {c : Code} {D : va_G} {G : Nat → ClassId} {A : Nat → Prop} {Q : State → Prop} {ret : Option FieldType} (C : Cx p s m args meth c cL_law 20 RL ret D G) (hA : ∀ q : Nat, s.heap.size ≤ q → A q) (N : Nat) (S : CS) (B : Nat → Nat → Nat) (tA : Nat → Nat) (r : Int32) (hend : ∀ (H : Heap) (locs : List Loc) (ls : Array Slot), va_S A s.heap H locs → W p l e room_1 s m args below meth c H locs 470 3491 Q (F0 m 1127 ls [.int 1])) (k488 : (Nat → Nat → Int32) → Int32 → Int32 → Int32 → Int32 → Int32 → Int32 → Int32 → Int32 → Int32 → Int32 → Option Int32) (hk488 : (∀ (M : Nat → Nat → Int32) (v2 : Int32) (v3 : Int32) (v4 : Int32) (v5 : Int32) (v6 : Int32) (v7 : Int32) (v8 : Int32) (v9 : Int32) (v10 : Int32) (v12 : Int32) (ls : Array Slot) (H : Heap) (locs : List Loc), va_P D vwCl (wLw B G tA S M) H → va_D A (wLw B G tA S M) → va_S A s.heap H locs → lv_has ls 20 [(1, .ref (B 9 0)), (2, .int v2), (3, .int v3), (4, .int v4), (5, .int v5), (6, .int v6), (7, .int v7), (8, .int v8), (9, .int v9), (10, .int v10), (11, .ref (tA 0)), (12, .int v12)] → k488 M v2 v3 v4 v5 v6 v7 v8 v9 v10 v12 = some r → W p l e room_1 s m args below meth c H locs 470 3491 Q (F0 m 488 ls []))) : (∀ (n : Nat) (M : Nat → Nat → Int32) (v2 : Int32) (v3 : Int32) (v4 : Int32) (v5 : Int32) (v6 : Int32) (v7 : Int32) (v8 : Int32) (v9 : Int32) (v10 : Int32) (v12 : Int32) (v15 : Int32) (ls : Array Slot) (H : Heap) (locs : List Loc), va_P D vwCl (wLw B G tA S M) H → va_D A (wLw B G tA S M) → va_S A s.heap H locs → lv_has ls 20 [(1, .ref (B 9 0)), (2, .int v2), (3, .int v3), (4, .int v4), (5, .int v5), (6, .int v6), (7, .int v7), (8, .int v8), (9, .int v9), (10, .int v10), (11, .ref (tA 0)), (12, .int v12), (15, .int v15)] → D_L_law_735 N S k488 n M v2 v3 v4 v5 v6 v7 v8 v9 v10 v12 v15 = some r → W p l e room_1 s m args below meth c H locs 470 3491 Q (F0 m 735 ls [])) := by
  have C := C
  obtain ⟨hx, hb, hr, hml, hts, hown, hlocks, hK0⟩ := id C
  have hK := hK0.1
  intro n
  induction n with
  | zero =>
    intro M v2 v3 v4 v5 v6 v7 v8 v9 v10 v12 v15 ls H locs hP hD hS hl hV
    rw [D_L_law_735] at hV
    cases hV
  | succ n ih =>
    intro M v2 v3 v4 v5 v6 v7 v8 v9 v10 v12 v15 ls H locs hP hD hS hl hV
    rw [D_L_law_735] at hV
    refine lv_iload hx hb dL_law_735 (lv_at hl 12 rfl) ?_
    refine lv_iconst (v := 3) hx hb dL_law_737 (by decide) ?_
    refine lv_icmp_ge (tgt := 787) hx hb dL_law_738 (by decide) (fun c50 => ?_) (fun c50 => ?_)
    · have hV := jT1 hV c50
      refine lv_iinc (v := (v12 + 1)) (lv' := [(12, .int (v12 + 1)), (1, .ref (B 9 0)), (2, .int v2), (3, .int v3), (4, .int v4), (5, .int v5), (6, .int v6), (7, .int v7), (8, .int v8), (9, .int v9), (10, .int v10), (11, .ref (tA 0)), (15, .int v15)]) hx hb dL_law_787 hl (k := 11) rfl rfl (by decide) rfl (fun ls hl => ?_)
      refine lv_goto (tgt := 488) hx hb dL_law_790 (by decide) ?_
      exact hk488 M v2 v3 v4 v5 v6 v7 v8 v9 v10 (v12 + 1) _ _ _ hP hD hS (lv_sub hl [1, 2, 3, 4, 5, 6, 7, 8, 9, 10, 11, 0] rfl) hV
    · have hV := jF1 hV c50
      refine lv_aload_n hx hb dL_law_741 rfl (lv_at hl 0 rfl) ?_
      refine lv_iload hx hb dL_law_742 (lv_at hl 11 rfl) ?_
      refine lv_iload hx hb dL_law_744 (lv_at hl 12 rfl) ?_
      obtain ⟨r42, hr42, hV⟩ := jBind hV
      refine jVpI C dL_law_746 (k_Y8_seats l D G B N S v12 v15 r42 hr42) jy_X8_seats jq_20_19 jq_20_20 jq_20_21 ⟨rfl, rfl, Nat.le_of_ble_eq_true rfl, Nat.le_of_ble_eq_true rfl⟩ ⟨Nat.le_of_ble_eq_true rfl, Nat.le_of_ble_eq_true rfl⟩ (jLeft hP) (ci := 10) (iw := 0) rfl rfl rfl hl (As := [.int v12, .int v15]) (rest := []) rfl (Nat.le_of_ble_eq_true rfl) ?_
      refine lv_aload hx hb dL_law_749 (lv_at hl 10 rfl) ?_
      refine lv_iload hx hb dL_law_751 (lv_at hl 11 rfl) ?_
      obtain ⟨g43, hV⟩ := jIf hV
      refine tAald hx hb hK hP g43 dL_law_753 ?_
      refine lv_iload hx hb dL_law_754 (lv_at hl 12 rfl) ?_
      obtain ⟨g44, hV⟩ := jIf hV
      refine tIald hx hb hK hP g43 g44 dL_law_756 ?_
      refine lv_icmp_ne (tgt := 779) hx hb dL_law_757 (by decide) (fun c49 => ?_) (fun c49 => ?_)
      · have hV := jF1 hV c49
        refine lv_iconst (v := 0) hx hb dL_law_779 (by decide) ?_
        cases hV
      · have hV := jT1 hV c49
        refine lv_aload_n hx hb dL_law_760 rfl (lv_at hl 0 rfl) ?_
        refine lv_iload hx hb dL_law_761 (lv_at hl 11 rfl) ?_
        refine lv_iload hx hb dL_law_763 (lv_at hl 12 rfl) ?_
        obtain ⟨r45, hr45, hV⟩ := jBind hV
        refine jVpI C dL_law_765 (k_Y8_seatsAgain l D G B N S v12 v15 r45 hr45) jy_X8_seatsAgain jq_21_2 jq_21_3 jq_21_4 ⟨rfl, rfl, Nat.le_of_ble_eq_true rfl, Nat.le_of_ble_eq_true rfl⟩ ⟨Nat.le_of_ble_eq_true rfl, Nat.le_of_ble_eq_true rfl⟩ (jLeft hP) (ci := 10) (iw := 0) rfl rfl rfl hl (As := [.int v12, .int v15]) (rest := []) rfl (Nat.le_of_ble_eq_true rfl) ?_
        refine lv_aload hx hb dL_law_768 (lv_at hl 10 rfl) ?_
        refine lv_iload hx hb dL_law_770 (lv_at hl 11 rfl) ?_
        obtain ⟨g46, hV⟩ := jIf hV
        refine tAald hx hb hK hP g46 dL_law_772 ?_
        refine lv_iload hx hb dL_law_773 (lv_at hl 12 rfl) ?_
        obtain ⟨g47, hV⟩ := jIf hV
        refine tIald hx hb hK hP g46 g47 dL_law_775 ?_
        refine lv_icmp_eq (tgt := 781) hx hb dL_law_776 (by decide) (fun c48 => ?_) (fun c48 => ?_)
        · have hV := jT1 hV c48
          refine lv_iinc (v := (v15 + 1)) (lv' := [(15, .int (v15 + 1)), (1, .ref (B 9 0)), (2, .int v2), (3, .int v3), (4, .int v4), (5, .int v5), (6, .int v6), (7, .int v7), (8, .int v8), (9, .int v9), (10, .int v10), (11, .ref (tA 0)), (12, .int v12)]) hx hb dL_law_781 hl (k := 12) rfl rfl (by decide) rfl (fun ls hl => ?_)
          refine lv_goto (tgt := 735) hx hb dL_law_784 (by decide) ?_
          exact ih M v2 v3 v4 v5 v6 v7 v8 v9 v10 v12 (v15 + 1) _ _ _ hP hD hS (lv_sub hl [1, 2, 3, 4, 5, 6, 7, 8, 9, 10, 11, 12, 0] rfl) hV
        · have hV := jF1 hV c48
          refine lv_iconst (v := 0) hx hb dL_law_779 (by decide) ?_
          cases hV
def D_L_law_646 (N : Nat) (S : CS) (k488 : (Nat → Nat → Int32) → Int32 → Int32 → Int32 → Int32 → Int32 → Int32 → Int32 → Int32 → Int32 → Int32 → Option Int32) (k548 : (Nat → Nat → Int32) → Int32 → Int32 → Int32 → Int32 → Int32 → Int32 → Int32 → Int32 → Int32 → Int32 → Int32 → Int32 → Int32 → Option Int32) (M : Nat → Nat → Int32) (v2 : Int32) (v3 : Int32) (v4 : Int32) (v5 : Int32) (v6 : Int32) (v7 : Int32) (v8 : Int32) (v9 : Int32) (v10 : Int32) (v12 : Int32) (v13 : Int32) (v14 : Int32) (v15 : Int32) (v16 : Int32) (v17 : Int32) (v18 : Int32) : Option Int32 := (if v16 < 0 then (k548 M v2 v3 v4 v5 v6 v7 v8 v9 v10 v12 v13 v14 (v15 + 1)) else (if v12 < v16 then (k548 M v2 v3 v4 v5 v6 v7 v8 v9 v10 v12 v13 v14 (v15 + 1)) else (if v17 < v12 then (k548 M v2 v3 v4 v5 v6 v7 v8 v9 v10 v12 v13 v14 (v15 + 1)) else (if v18 = 0 then ((F_Y8_production N S v15 (0 : Int32)).bind (fun r51 => (k548 M v2 v3 v4 v5 v6 v7 v8 v9 v10 v12 v13 (v14 + r51) (v15 + 1)))) else (k548 M v2 v3 v4 v5 v6 v7 v8 v9 v10 v12 v13 v14 (v15 + 1))))))
set_option maxHeartbeats 4000000 in
set_option maxRecDepth 100000 in
theorem B_L_law_646 {p : Program} {l : Launch} {e : Env} {s : State} {m : MethodId} {args : Array Value} {below : List Frame} {meth : Method} {c : Code} {D : va_G} {G : Nat → ClassId} {A : Nat → Prop} {Q : State → Prop} {ret : Option FieldType} (C : Cx p s m args meth c cL_law 20 RL ret D G) (hA : ∀ q : Nat, s.heap.size ≤ q → A q) (N : Nat) (S : CS) (B : Nat → Nat → Nat) (tA : Nat → Nat) (r : Int32) (hend : ∀ (H : Heap) (locs : List Loc) (ls : Array Slot), va_S A s.heap H locs → W p l e room_1 s m args below meth c H locs 470 3491 Q (F0 m 1127 ls [.int 1])) (k488 : (Nat → Nat → Int32) → Int32 → Int32 → Int32 → Int32 → Int32 → Int32 → Int32 → Int32 → Int32 → Int32 → Option Int32) (k548 : (Nat → Nat → Int32) → Int32 → Int32 → Int32 → Int32 → Int32 → Int32 → Int32 → Int32 → Int32 → Int32 → Int32 → Int32 → Int32 → Option Int32) (hk488 : (∀ (M : Nat → Nat → Int32) (v2 : Int32) (v3 : Int32) (v4 : Int32) (v5 : Int32) (v6 : Int32) (v7 : Int32) (v8 : Int32) (v9 : Int32) (v10 : Int32) (v12 : Int32) (ls : Array Slot) (H : Heap) (locs : List Loc), va_P D vwCl (wLw B G tA S M) H → va_D A (wLw B G tA S M) → va_S A s.heap H locs → lv_has ls 20 [(1, .ref (B 9 0)), (2, .int v2), (3, .int v3), (4, .int v4), (5, .int v5), (6, .int v6), (7, .int v7), (8, .int v8), (9, .int v9), (10, .int v10), (11, .ref (tA 0)), (12, .int v12)] → k488 M v2 v3 v4 v5 v6 v7 v8 v9 v10 v12 = some r → W p l e room_1 s m args below meth c H locs 470 3491 Q (F0 m 488 ls []))) (hk548 : (∀ (M : Nat → Nat → Int32) (v2 : Int32) (v3 : Int32) (v4 : Int32) (v5 : Int32) (v6 : Int32) (v7 : Int32) (v8 : Int32) (v9 : Int32) (v10 : Int32) (v12 : Int32) (v13 : Int32) (v14 : Int32) (v15 : Int32) (ls : Array Slot) (H : Heap) (locs : List Loc), va_P D vwCl (wLw B G tA S M) H → va_D A (wLw B G tA S M) → va_S A s.heap H locs → lv_has ls 20 [(1, .ref (B 9 0)), (2, .int v2), (3, .int v3), (4, .int v4), (5, .int v5), (6, .int v6), (7, .int v7), (8, .int v8), (9, .int v9), (10, .int v10), (11, .ref (tA 0)), (12, .int v12), (13, .int v13), (14, .int v14), (15, .int v15)] → k548 M v2 v3 v4 v5 v6 v7 v8 v9 v10 v12 v13 v14 v15 = some r → W p l e room_1 s m args below meth c H locs 470 3491 Q (F0 m 548 ls []))) : (∀ (M : Nat → Nat → Int32) (v2 : Int32) (v3 : Int32) (v4 : Int32) (v5 : Int32) (v6 : Int32) (v7 : Int32) (v8 : Int32) (v9 : Int32) (v10 : Int32) (v12 : Int32) (v13 : Int32) (v14 : Int32) (v15 : Int32) (v16 : Int32) (v17 : Int32) (v18 : Int32) (ls : Array Slot) (H : Heap) (locs : List Loc), va_P D vwCl (wLw B G tA S M) H → va_D A (wLw B G tA S M) → va_S A s.heap H locs → lv_has ls 20 [(1, .ref (B 9 0)), (2, .int v2), (3, .int v3), (4, .int v4), (5, .int v5), (6, .int v6), (7, .int v7), (8, .int v8), (9, .int v9), (10, .int v10), (11, .ref (tA 0)), (12, .int v12), (13, .int v13), (14, .int v14), (15, .int v15), (16, .int v16), (17, .int v17), (18, .int v18)] → D_L_law_646 N S k488 k548 M v2 v3 v4 v5 v6 v7 v8 v9 v10 v12 v13 v14 v15 v16 v17 v18 = some r → W p l e room_1 s m args below meth c H locs 470 3491 Q (F0 m 646 ls [])) := by
  have C := C
  obtain ⟨hx, hb, hr, hml, hts, hown, hlocks, hK0⟩ := id C
  have hK := hK0.1
  intro M v2 v3 v4 v5 v6 v7 v8 v9 v10 v12 v13 v14 v15 v16 v17 v18 ls H locs hP hD hS hl hV
  rw [D_L_law_646] at hV
  refine lv_iload hx hb dL_law_646 (lv_at hl 15 rfl) ?_
  refine lv_if_lt (tgt := 682) hx hb dL_law_648 (by decide) (fun c55 => ?_) (fun c55 => ?_)
  · have hV := jT1 hV c55
    refine lv_iinc (v := (v15 + 1)) (lv' := [(15, .int (v15 + 1)), (1, .ref (B 9 0)), (2, .int v2), (3, .int v3), (4, .int v4), (5, .int v5), (6, .int v6), (7, .int v7), (8, .int v8), (9, .int v9), (10, .int v10), (11, .ref (tA 0)), (12, .int v12), (13, .int v13), (14, .int v14), (16, .int v16), (17, .int v17), (18, .int v18)]) hx hb dL_law_682 hl (k := 14) rfl rfl (by decide) rfl (fun ls hl => ?_)
    refine lv_goto (tgt := 548) hx hb dL_law_685 (by decide) ?_
    exact hk548 M v2 v3 v4 v5 v6 v7 v8 v9 v10 v12 v13 v14 (v15 + 1) _ _ _ hP hD hS (lv_sub hl [1, 2, 3, 4, 5, 6, 7, 8, 9, 10, 11, 12, 13, 14, 0] rfl) hV
  · have hV := jF1 hV c55
    refine lv_iload hx hb dL_law_651 (lv_at hl 11 rfl) ?_
    refine lv_iload hx hb dL_law_653 (lv_at hl 15 rfl) ?_
    refine lv_icmp_lt (tgt := 682) hx hb dL_law_655 (by decide) (fun c54 => ?_) (fun c54 => ?_)
    · have hV := jT1 hV c54
      refine lv_iinc (v := (v15 + 1)) (lv' := [(15, .int (v15 + 1)), (1, .ref (B 9 0)), (2, .int v2), (3, .int v3), (4, .int v4), (5, .int v5), (6, .int v6), (7, .int v7), (8, .int v8), (9, .int v9), (10, .int v10), (11, .ref (tA 0)), (12, .int v12), (13, .int v13), (14, .int v14), (16, .int v16), (17, .int v17), (18, .int v18)]) hx hb dL_law_682 hl (k := 14) rfl rfl (by decide) rfl (fun ls hl => ?_)
      refine lv_goto (tgt := 548) hx hb dL_law_685 (by decide) ?_
      exact hk548 M v2 v3 v4 v5 v6 v7 v8 v9 v10 v12 v13 v14 (v15 + 1) _ _ _ hP hD hS (lv_sub hl [1, 2, 3, 4, 5, 6, 7, 8, 9, 10, 11, 12, 13, 14, 0] rfl) hV
    · have hV := jF1 hV c54
      refine lv_iload hx hb dL_law_658 (lv_at hl 11 rfl) ?_
      refine lv_iload hx hb dL_law_660 (lv_at hl 16 rfl) ?_
      refine lv_icmp_gt (tgt := 682) hx hb dL_law_662 (by decide) (fun c53 => ?_) (fun c53 => ?_)
      · have hV := jT1 hV c53
        refine lv_iinc (v := (v15 + 1)) (lv' := [(15, .int (v15 + 1)), (1, .ref (B 9 0)), (2, .int v2), (3, .int v3), (4, .int v4), (5, .int v5), (6, .int v6), (7, .int v7), (8, .int v8), (9, .int v9), (10, .int v10), (11, .ref (tA 0)), (12, .int v12), (13, .int v13), (14, .int v14), (16, .int v16), (17, .int v17), (18, .int v18)]) hx hb dL_law_682 hl (k := 14) rfl rfl (by decide) rfl (fun ls hl => ?_)
        refine lv_goto (tgt := 548) hx hb dL_law_685 (by decide) ?_
        exact hk548 M v2 v3 v4 v5 v6 v7 v8 v9 v10 v12 v13 v14 (v15 + 1) _ _ _ hP hD hS (lv_sub hl [1, 2, 3, 4, 5, 6, 7, 8, 9, 10, 11, 12, 13, 14, 0] rfl) hV
      · have hV := jF1 hV c53
        refine lv_iload hx hb dL_law_665 (lv_at hl 17 rfl) ?_
        refine lv_if_ne (tgt := 682) hx hb dL_law_667 (by decide) (fun c52 => ?_) (fun c52 => ?_)
        · have hV := jF1 hV c52
          refine lv_iinc (v := (v15 + 1)) (lv' := [(15, .int (v15 + 1)), (1, .ref (B 9 0)), (2, .int v2), (3, .int v3), (4, .int v4), (5, .int v5), (6, .int v6), (7, .int v7), (8, .int v8), (9, .int v9), (10, .int v10), (11, .ref (tA 0)), (12, .int v12), (13, .int v13), (14, .int v14), (16, .int v16), (17, .int v17), (18, .int v18)]) hx hb dL_law_682 hl (k := 14) rfl rfl (by decide) rfl (fun ls hl => ?_)
          refine lv_goto (tgt := 548) hx hb dL_law_685 (by decide) ?_
          exact hk548 M v2 v3 v4 v5 v6 v7 v8 v9 v10 v12 v13 v14 (v15 + 1) _ _ _ hP hD hS (lv_sub hl [1, 2, 3, 4, 5, 6, 7, 8, 9, 10, 11, 12, 13, 14, 0] rfl) hV
        · have hV := jT1 hV c52
          refine lv_iload hx hb dL_law_670 (lv_at hl 13 rfl) ?_
          refine lv_aload_n hx hb dL_law_672 rfl (lv_at hl 0 rfl) ?_
          refine lv_iload hx hb dL_law_673 (lv_at hl 14 rfl) ?_
          refine lv_iconst (v := 0) hx hb dL_law_675 (by decide) ?_
          obtain ⟨r51, hr51, hV⟩ := jBind hV
          refine jVpI C dL_law_676 (k_Y8_production l D G B N S v15 (0 : Int32) r51 hr51) jy_X8_production jq_20_1 jq_20_2 jq_20_3 ⟨rfl, rfl, Nat.le_of_ble_eq_true rfl, Nat.le_of_ble_eq_true rfl⟩ ⟨Nat.le_of_ble_eq_true rfl, Nat.le_of_ble_eq_true rfl⟩ (jLeft hP) (ci := 10) (iw := 0) rfl rfl rfl hl (As := [.int v15, .int (0 : Int32)]) (rest := [.int v14]) rfl (Nat.le_of_ble_eq_true rfl) ?_
          refine lv_iadd hx hb dL_law_679 ?_
          refine lv_istore (lv' := [(14, .int (v14 + r51)), (1, .ref (B 9 0)), (2, .int v2), (3, .int v3), (4, .int v4), (5, .int v5), (6, .int v6), (7, .int v7), (8, .int v8), (9, .int v9), (10, .int v10), (11, .ref (tA 0)), (12, .int v12), (13, .int v13), (15, .int v15), (16, .int v16), (17, .int v17), (18, .int v18)]) hx hb dL_law_680 hl (by decide) rfl (fun ls hl => ?_)
          refine lv_iinc (v := (v15 + 1)) (lv' := [(15, .int (v15 + 1)), (14, .int (v14 + r51)), (1, .ref (B 9 0)), (2, .int v2), (3, .int v3), (4, .int v4), (5, .int v5), (6, .int v6), (7, .int v7), (8, .int v8), (9, .int v9), (10, .int v10), (11, .ref (tA 0)), (12, .int v12), (13, .int v13), (16, .int v16), (17, .int v17), (18, .int v18)]) hx hb dL_law_682 hl (k := 14) rfl rfl (by decide) rfl (fun ls hl => ?_)
          refine lv_goto (tgt := 548) hx hb dL_law_685 (by decide) ?_
          exact hk548 M v2 v3 v4 v5 v6 v7 v8 v9 v10 v12 v13 (v14 + r51) (v15 + 1) _ _ _ hP hD hS (lv_sub hl [2, 3, 4, 5, 6, 7, 8, 9, 10, 11, 12, 13, 14, 1, 0] rfl) hV
def D_L_law_579 (N : Nat) (S : CS) (k488 : (Nat → Nat → Int32) → Int32 → Int32 → Int32 → Int32 → Int32 → Int32 → Int32 → Int32 → Int32 → Int32 → Option Int32) (k548 : (Nat → Nat → Int32) → Int32 → Int32 → Int32 → Int32 → Int32 → Int32 → Int32 → Int32 → Int32 → Int32 → Int32 → Int32 → Int32 → Option Int32) : Nat → (Nat → Nat → Int32) → Int32 → Int32 → Int32 → Int32 → Int32 → Int32 → Int32 → Int32 → Int32 → Int32 → Int32 → Int32 → Int32 → Int32 → Int32 → Int32 → Int32 → Option Int32
  | 0, _, _, _, _, _, _, _, _, _, _, _, _, _, _, _, _, _, _ => none
  | n + 1, M, v2, v3, v4, v5, v6, v7, v8, v9, v10, v12, v13, v14, v15, v16, v17, v18, v19 => (if v3 ≤ v19 then (if v18 = 0 then (D_L_law_646 N S k488 k548 M v2 v3 v4 v5 v6 v7 v8 v9 v10 v12 v13 v14 v15 v16 v17 v18) else (if v12 < v16 then none else (if v12 ≤ v17 then (D_L_law_646 N S k488 k548 M v2 v3 v4 v5 v6 v7 v8 v9 v10 v12 v13 v14 v15 v16 v17 v18) else none))) else ((F_Y8_performance N S v19 (0 : Int32)).bind (fun r59 => (if r59 = v15 then ((F_Y8_performance N S v19 (2 : Int32)).bind (fun r60 => (if r60 = v12 then (D_L_law_579 N S k488 k548 n M v2 v3 v4 v5 v6 v7 v8 v9 v10 v12 v13 v14 v15 v16 v17 (v18 ||| (1 : Int32)) (v19 + 1)) else (D_L_law_579 N S k488 k548 n M v2 v3 v4 v5 v6 v7 v8 v9 v10 v12 v13 v14 v15 v16 v17 (v18 ||| (0 : Int32)) (v19 + 1))))) else (D_L_law_579 N S k488 k548 n M v2 v3 v4 v5 v6 v7 v8 v9 v10 v12 v13 v14 v15 v16 v17 (v18 ||| (0 : Int32)) (v19 + 1))))))
set_option maxHeartbeats 4000000 in
set_option maxRecDepth 100000 in
theorem B_L_law_579 {p : Program} {l : Launch} {e : Env} {s : State} {m : MethodId} {args : Array Value} {below : List Frame} {meth : Method} {c : Code} {D : va_G} {G : Nat → ClassId} {A : Nat → Prop} {Q : State → Prop} {ret : Option FieldType} (C : Cx p s m args meth c cL_law 20 RL ret D G) (hA : ∀ q : Nat, s.heap.size ≤ q → A q) (N : Nat) (S : CS) (B : Nat → Nat → Nat) (tA : Nat → Nat) (r : Int32) (hend : ∀ (H : Heap) (locs : List Loc) (ls : Array Slot), va_S A s.heap H locs → W p l e room_1 s m args below meth c H locs 470 3491 Q (F0 m 1127 ls [.int 1])) (k488 : (Nat → Nat → Int32) → Int32 → Int32 → Int32 → Int32 → Int32 → Int32 → Int32 → Int32 → Int32 → Int32 → Option Int32) (k548 : (Nat → Nat → Int32) → Int32 → Int32 → Int32 → Int32 → Int32 → Int32 → Int32 → Int32 → Int32 → Int32 → Int32 → Int32 → Int32 → Option Int32) (hk488 : (∀ (M : Nat → Nat → Int32) (v2 : Int32) (v3 : Int32) (v4 : Int32) (v5 : Int32) (v6 : Int32) (v7 : Int32) (v8 : Int32) (v9 : Int32) (v10 : Int32) (v12 : Int32) (ls : Array Slot) (H : Heap) (locs : List Loc), va_P D vwCl (wLw B G tA S M) H → va_D A (wLw B G tA S M) → va_S A s.heap H locs → lv_has ls 20 [(1, .ref (B 9 0)), (2, .int v2), (3, .int v3), (4, .int v4), (5, .int v5), (6, .int v6), (7, .int v7), (8, .int v8), (9, .int v9), (10, .int v10), (11, .ref (tA 0)), (12, .int v12)] → k488 M v2 v3 v4 v5 v6 v7 v8 v9 v10 v12 = some r → W p l e room_1 s m args below meth c H locs 470 3491 Q (F0 m 488 ls []))) (hk548 : (∀ (M : Nat → Nat → Int32) (v2 : Int32) (v3 : Int32) (v4 : Int32) (v5 : Int32) (v6 : Int32) (v7 : Int32) (v8 : Int32) (v9 : Int32) (v10 : Int32) (v12 : Int32) (v13 : Int32) (v14 : Int32) (v15 : Int32) (ls : Array Slot) (H : Heap) (locs : List Loc), va_P D vwCl (wLw B G tA S M) H → va_D A (wLw B G tA S M) → va_S A s.heap H locs → lv_has ls 20 [(1, .ref (B 9 0)), (2, .int v2), (3, .int v3), (4, .int v4), (5, .int v5), (6, .int v6), (7, .int v7), (8, .int v8), (9, .int v9), (10, .int v10), (11, .ref (tA 0)), (12, .int v12), (13, .int v13), (14, .int v14), (15, .int v15)] → k548 M v2 v3 v4 v5 v6 v7 v8 v9 v10 v12 v13 v14 v15 = some r → W p l e room_1 s m args below meth c H locs 470 3491 Q (F0 m 548 ls []))) : (∀ (n : Nat) (M : Nat → Nat → Int32) (v2 : Int32) (v3 : Int32) (v4 : Int32) (v5 : Int32) (v6 : Int32) (v7 : Int32) (v8 : Int32) (v9 : Int32) (v10 : Int32) (v12 : Int32) (v13 : Int32) (v14 : Int32) (v15 : Int32) (v16 : Int32) (v17 : Int32) (v18 : Int32) (v19 : Int32) (ls : Array Slot) (H : Heap) (locs : List Loc), va_P D vwCl (wLw B G tA S M) H → va_D A (wLw B G tA S M) → va_S A s.heap H locs → lv_has ls 20 [(1, .ref (B 9 0)), (2, .int v2), (3, .int v3), (4, .int v4), (5, .int v5), (6, .int v6), (7, .int v7), (8, .int v8), (9, .int v9), (10, .int v10), (11, .ref (tA 0)), (12, .int v12), (13, .int v13), (14, .int v14), (15, .int v15), (16, .int v16), (17, .int v17), (18, .int v18), (19, .int v19)] → D_L_law_579 N S k488 k548 n M v2 v3 v4 v5 v6 v7 v8 v9 v10 v12 v13 v14 v15 v16 v17 v18 v19 = some r → W p l e room_1 s m args below meth c H locs 470 3491 Q (F0 m 579 ls [])) := by
  have C := C
  obtain ⟨hx, hb, hr, hml, hts, hown, hlocks, hK0⟩ := id C
  have hK := hK0.1
  intro n
  induction n with
  | zero =>
    intro M v2 v3 v4 v5 v6 v7 v8 v9 v10 v12 v13 v14 v15 v16 v17 v18 v19 ls H locs hP hD hS hl hV
    rw [D_L_law_579] at hV
    cases hV
  | succ n ih =>
    intro M v2 v3 v4 v5 v6 v7 v8 v9 v10 v12 v13 v14 v15 v16 v17 v18 v19 ls H locs hP hD hS hl hV
    rw [D_L_law_579] at hV
    refine lv_iload hx hb dL_law_579 (lv_at hl 18 rfl) ?_
    refine lv_iload_n hx hb dL_law_581 rfl (lv_at hl 2 rfl) ?_
    refine lv_icmp_ge (tgt := 625) hx hb dL_law_582 (by decide) (fun c63 => ?_) (fun c63 => ?_)
    · have hV := jT1 hV c63
      refine lv_iload hx hb dL_law_625 (lv_at hl 17 rfl) ?_
      refine lv_if_eq (tgt := 646) hx hb dL_law_627 (by decide) (fun c58 => ?_) (fun c58 => ?_)
      · have hV := jT1 hV c58
        exact B_L_law_646 C hA N S B tA r hend k488 k548 hk488 hk548 M v2 v3 v4 v5 v6 v7 v8 v9 v10 v12 v13 v14 v15 v16 v17 v18 _ _ _ hP hD hS (lv_sub hl [0, 1, 2, 3, 4, 5, 6, 7, 8, 9, 10, 11, 12, 13, 14, 15, 16, 17] rfl) hV
      · have hV := jF1 hV c58
        refine lv_iload hx hb dL_law_630 (lv_at hl 11 rfl) ?_
        refine lv_iload hx hb dL_law_632 (lv_at hl 15 rfl) ?_
        refine lv_icmp_lt (tgt := 644) hx hb dL_law_634 (by decide) (fun c57 => ?_) (fun c57 => ?_)
        · have hV := jT1 hV c57
          refine lv_iconst (v := 0) hx hb dL_law_644 (by decide) ?_
          cases hV
        · have hV := jF1 hV c57
          refine lv_iload hx hb dL_law_637 (lv_at hl 11 rfl) ?_
          refine lv_iload hx hb dL_law_639 (lv_at hl 16 rfl) ?_
          refine lv_icmp_le (tgt := 646) hx hb dL_law_641 (by decide) (fun c56 => ?_) (fun c56 => ?_)
          · have hV := jT1 hV c56
            exact B_L_law_646 C hA N S B tA r hend k488 k548 hk488 hk548 M v2 v3 v4 v5 v6 v7 v8 v9 v10 v12 v13 v14 v15 v16 v17 v18 _ _ _ hP hD hS (lv_sub hl [0, 1, 2, 3, 4, 5, 6, 7, 8, 9, 10, 11, 12, 13, 14, 15, 16, 17] rfl) hV
          · have hV := jF1 hV c56
            refine lv_iconst (v := 0) hx hb dL_law_644 (by decide) ?_
            cases hV
    · have hV := jF1 hV c63
      refine lv_iload hx hb dL_law_585 (lv_at hl 17 rfl) ?_
      refine lv_aload_n hx hb dL_law_587 rfl (lv_at hl 0 rfl) ?_
      refine lv_iload hx hb dL_law_588 (lv_at hl 18 rfl) ?_
      refine lv_iconst (v := 0) hx hb dL_law_590 (by decide) ?_
      obtain ⟨r59, hr59, hV⟩ := jBind hV
      refine jVpI C dL_law_591 (k_Y8_performance l D G B N S v19 (0 : Int32) r59 hr59) jy_X8_performance jq_18_14 jq_18_15 jq_18_16 ⟨rfl, rfl, Nat.le_of_ble_eq_true rfl, Nat.le_of_ble_eq_true rfl⟩ ⟨Nat.le_of_ble_eq_true rfl, Nat.le_of_ble_eq_true rfl⟩ (jLeft hP) (ci := 10) (iw := 0) rfl rfl rfl hl (As := [.int v19, .int (0 : Int32)]) (rest := [.int v18]) rfl (Nat.le_of_ble_eq_true rfl) ?_
      refine lv_iload hx hb dL_law_594 (lv_at hl 14 rfl) ?_
      refine lv_icmp_ne (tgt := 615) hx hb dL_law_596 (by decide) (fun c62 => ?_) (fun c62 => ?_)
      · have hV := jF1 hV c62
        refine lv_iconst (v := 0) hx hb dL_law_615 (by decide) ?_
        refine lv_ior hx hb dL_law_616 ?_
        refine lv_istore (lv' := [(18, .int (v18 ||| (0 : Int32))), (1, .ref (B 9 0)), (2, .int v2), (3, .int v3), (4, .int v4), (5, .int v5), (6, .int v6), (7, .int v7), (8, .int v8), (9, .int v9), (10, .int v10), (11, .ref (tA 0)), (12, .int v12), (13, .int v13), (14, .int v14), (15, .int v15), (16, .int v16), (17, .int v17), (19, .int v19)]) hx hb dL_law_617 hl (by decide) rfl (fun ls hl => ?_)
        refine lv_iinc (v := (v19 + 1)) (lv' := [(19, .int (v19 + 1)), (18, .int (v18 ||| (0 : Int32))), (1, .ref (B 9 0)), (2, .int v2), (3, .int v3), (4, .int v4), (5, .int v5), (6, .int v6), (7, .int v7), (8, .int v8), (9, .int v9), (10, .int v10), (11, .ref (tA 0)), (12, .int v12), (13, .int v13), (14, .int v14), (15, .int v15), (16, .int v16), (17, .int v17)]) hx hb dL_law_619 hl (k := 18) rfl rfl (by decide) rfl (fun ls hl => ?_)
        refine lv_goto (tgt := 579) hx hb dL_law_622 (by decide) ?_
        exact ih M v2 v3 v4 v5 v6 v7 v8 v9 v10 v12 v13 v14 v15 v16 v17 (v18 ||| (0 : Int32)) (v19 + 1) _ _ _ hP hD hS (lv_sub hl [2, 3, 4, 5, 6, 7, 8, 9, 10, 11, 12, 13, 14, 15, 16, 17, 18, 1, 0] rfl) hV
      · have hV := jT1 hV c62
        refine lv_aload_n hx hb dL_law_599 rfl (lv_at hl 0 rfl) ?_
        refine lv_iload hx hb dL_law_600 (lv_at hl 18 rfl) ?_
        refine lv_iconst (v := 2) hx hb dL_law_602 (by decide) ?_
        obtain ⟨r60, hr60, hV⟩ := jBind hV
        refine jVpI C dL_law_603 (k_Y8_performance l D G B N S v19 (2 : Int32) r60 hr60) jy_X8_performance jq_18_14 jq_18_15 jq_18_16 ⟨rfl, rfl, Nat.le_of_ble_eq_true rfl, Nat.le_of_ble_eq_true rfl⟩ ⟨Nat.le_of_ble_eq_true rfl, Nat.le_of_ble_eq_true rfl⟩ (jLeft hP) (ci := 10) (iw := 0) rfl rfl rfl hl (As := [.int v19, .int (2 : Int32)]) (rest := [.int v18]) rfl (Nat.le_of_ble_eq_true rfl) ?_
        refine lv_iload hx hb dL_law_606 (lv_at hl 11 rfl) ?_
        refine lv_icmp_ne (tgt := 615) hx hb dL_law_608 (by decide) (fun c61 => ?_) (fun c61 => ?_)
        · have hV := jF1 hV c61
          refine lv_iconst (v := 0) hx hb dL_law_615 (by decide) ?_
          refine lv_ior hx hb dL_law_616 ?_
          refine lv_istore (lv' := [(18, .int (v18 ||| (0 : Int32))), (1, .ref (B 9 0)), (2, .int v2), (3, .int v3), (4, .int v4), (5, .int v5), (6, .int v6), (7, .int v7), (8, .int v8), (9, .int v9), (10, .int v10), (11, .ref (tA 0)), (12, .int v12), (13, .int v13), (14, .int v14), (15, .int v15), (16, .int v16), (17, .int v17), (19, .int v19)]) hx hb dL_law_617 hl (by decide) rfl (fun ls hl => ?_)
          refine lv_iinc (v := (v19 + 1)) (lv' := [(19, .int (v19 + 1)), (18, .int (v18 ||| (0 : Int32))), (1, .ref (B 9 0)), (2, .int v2), (3, .int v3), (4, .int v4), (5, .int v5), (6, .int v6), (7, .int v7), (8, .int v8), (9, .int v9), (10, .int v10), (11, .ref (tA 0)), (12, .int v12), (13, .int v13), (14, .int v14), (15, .int v15), (16, .int v16), (17, .int v17)]) hx hb dL_law_619 hl (k := 18) rfl rfl (by decide) rfl (fun ls hl => ?_)
          refine lv_goto (tgt := 579) hx hb dL_law_622 (by decide) ?_
          exact ih M v2 v3 v4 v5 v6 v7 v8 v9 v10 v12 v13 v14 v15 v16 v17 (v18 ||| (0 : Int32)) (v19 + 1) _ _ _ hP hD hS (lv_sub hl [2, 3, 4, 5, 6, 7, 8, 9, 10, 11, 12, 13, 14, 15, 16, 17, 18, 1, 0] rfl) hV
        · have hV := jT1 hV c61
          refine lv_iconst (v := 1) hx hb dL_law_611 (by decide) ?_
          refine lv_goto (tgt := 616) hx hb dL_law_612 (by decide) ?_
          refine lv_ior hx hb dL_law_616 ?_
          refine lv_istore (lv' := [(18, .int (v18 ||| (1 : Int32))), (1, .ref (B 9 0)), (2, .int v2), (3, .int v3), (4, .int v4), (5, .int v5), (6, .int v6), (7, .int v7), (8, .int v8), (9, .int v9), (10, .int v10), (11, .ref (tA 0)), (12, .int v12), (13, .int v13), (14, .int v14), (15, .int v15), (16, .int v16), (17, .int v17), (19, .int v19)]) hx hb dL_law_617 hl (by decide) rfl (fun ls hl => ?_)
          refine lv_iinc (v := (v19 + 1)) (lv' := [(19, .int (v19 + 1)), (18, .int (v18 ||| (1 : Int32))), (1, .ref (B 9 0)), (2, .int v2), (3, .int v3), (4, .int v4), (5, .int v5), (6, .int v6), (7, .int v7), (8, .int v8), (9, .int v9), (10, .int v10), (11, .ref (tA 0)), (12, .int v12), (13, .int v13), (14, .int v14), (15, .int v15), (16, .int v16), (17, .int v17)]) hx hb dL_law_619 hl (k := 18) rfl rfl (by decide) rfl (fun ls hl => ?_)
          refine lv_goto (tgt := 579) hx hb dL_law_622 (by decide) ?_
          exact ih M v2 v3 v4 v5 v6 v7 v8 v9 v10 v12 v13 v14 v15 v16 v17 (v18 ||| (1 : Int32)) (v19 + 1) _ _ _ hP hD hS (lv_sub hl [2, 3, 4, 5, 6, 7, 8, 9, 10, 11, 12, 13, 14, 15, 16, 17, 18, 1, 0] rfl) hV
