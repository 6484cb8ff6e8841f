def D_L_law_126 (N : Nat) (S : CS) : Nat → (Nat → Nat → Int32) → Int32 → Int32 → Int32 → Int32 → Int32 → Int32 → Int32 → Int32 → Int32 → Int32 → Option Int32
  | 0, _, _, _, _, _, _, _, _, _, _, _ => none
  | n + 1, M, v2, v3, v4, v5, v6, v7, v8, v9, v10, v12 => (if v3 ≤ v12 then (D_L_law_488 N S  N M v2 v3 v4 v5 v6 v7 v8 v9 v10 (0 : Int32)) else ((F_Y8_performance N S v12 (1 : Int32)).bind (fun r117 => ((F_Y8_performance N S v12 (2 : Int32)).bind (fun r118 => ((F_Y8_performance N S v12 (7 : Int32)).bind (fun r119 => (D_L_law_166 N S (D_L_law_126 N S  n) N M v2 v3 v4 v5 v6 v7 v8 v9 v10 v12 r117 r118 r119 (0 : Int32) (0 : Int32)))))))))
set_option maxHeartbeats 4000000 in
set_option maxRecDepth 100000 in
theorem B_L_law_126 {p : Program} {l : Launch} {e : Env} {s : State} {m : MethodId} {args : Array Value} {below : List Frame} {meth : Method} {c : Code} {D : va_G} {G : Nat → ClassId} {A : Nat → Prop} {Q : State → Prop} {ret : Option FieldType} (C : Cx p s m args meth c cL_law 20 RL ret D G) (hA : ∀ q : Nat, s.heap.size ≤ q → A q) (N : Nat) (S : CS) (B : Nat → Nat → Nat) (tA : Nat → Nat) (r : Int32) (hend : ∀ (H : Heap) (locs : List Loc) (ls : Array Slot), va_S A s.heap H locs → W p l e room_1 s m args below meth c H locs 470 3491 Q (F0 m 1127 ls [.int 1])) : (∀ (n : Nat) (M : Nat → Nat → Int32) (v2 : Int32) (v3 : Int32) (v4 : Int32) (v5 : Int32) (v6 : Int32) (v7 : Int32) (v8 : Int32) (v9 : Int32) (v10 : Int32) (v12 : Int32) (ls : Array Slot) (H : Heap) (locs : List Loc), va_P D vwCl (wLw B G tA S M) H → va_D A (wLw B G tA S M) → va_S A s.heap H locs → lv_has ls 20 [(1, .ref (B 9 0)), (2, .int v2), (3, .int v3), (4, .int v4), (5, .int v5), (6, .int v6), (7, .int v7), (8, .int v8), (9, .int v9), (10, .int v10), (11, .ref (tA 0)), (12, .int v12)] → D_L_law_126 N S  n M v2 v3 v4 v5 v6 v7 v8 v9 v10 v12 = some r → W p l e room_1 s m args below meth c H locs 470 3491 Q (F0 m 126 ls [])) := by
  have C := C
  obtain ⟨hx, hb, hr, hml, hts, hown, hlocks, hK0⟩ := id C
  have hK := hK0.1
  intro n
  induction n with
  | zero =>
    intro M v2 v3 v4 v5 v6 v7 v8 v9 v10 v12 ls H locs hP hD hS hl hV
    rw [D_L_law_126] at hV
    cases hV
  | succ n ih =>
    intro M v2 v3 v4 v5 v6 v7 v8 v9 v10 v12 ls H locs hP hD hS hl hV
    rw [D_L_law_126] at hV
    refine lv_iload hx hb dL_law_126 (lv_at hl 11 rfl) ?_
    refine lv_iload_n hx hb dL_law_128 rfl (lv_at hl 2 rfl) ?_
    refine lv_icmp_ge (tgt := 485) hx hb dL_law_129 (by decide) (fun c120 => ?_) (fun c120 => ?_)
    · have hV := jT1 hV c120
      refine lv_iconst (v := 0) hx hb dL_law_485 (by decide) ?_
      refine lv_istore (lv' := [(12, .int (0 : Int32)), (1, .ref (B 9 0)), (2, .int v2), (3, .int v3), (4, .int v4), (5, .int v5), (6, .int v6), (7, .int v7), (8, .int v8), (9, .int v9), (10, .int v10), (11, .ref (tA 0))]) hx hb dL_law_486 hl (by decide) rfl (fun ls hl => ?_)
      exact B_L_law_488 C hA N S B tA r hend   N M v2 v3 v4 v5 v6 v7 v8 v9 v10 (0 : Int32) _ _ _ hP hD hS (lv_sub hl [1, 2, 3, 4, 5, 6, 7, 8, 9, 10, 11, 0] rfl) hV
    · have hV := jF1 hV c120
      refine lv_aload_n hx hb dL_law_132 rfl (lv_at hl 0 rfl) ?_
      refine lv_iload hx hb dL_law_133 (lv_at hl 11 rfl) ?_
      refine lv_iconst (v := 1) hx hb dL_law_135 (by decide) ?_
      obtain ⟨r117, hr117, hV⟩ := jBind hV
      refine jVpI C dL_law_136 (k_Y8_performance l D G B N S v12 (1 : Int32) r117 hr117) jy_X8_performance jq_18_14 jq_18_15 jq_18_16 ⟨rfl, rfl, Nat.le_of_ble_eq_true rfl, Nat.le_of_ble_eq_true rfl⟩ ⟨Nat.le_of_ble_eq_true rfl, Nat.le_of_ble_eq_true rfl⟩ (jLeft hP) (ci := 10) (iw := 0) rfl rfl rfl hl (As := [.int v12, .int (1 : Int32)]) (rest := []) rfl (Nat.le_of_ble_eq_true rfl) ?_
      refine lv_istore (lv' := [(13, .int r117), (1, .ref (B 9 0)), (2, .int v2), (3, .int v3), (4, .int v4), (5, .int v5), (6, .int v6), (7, .int v7), (8, .int v8), (9, .int v9), (10, .int v10), (11, .ref (tA 0)), (12, .int v12)]) hx hb dL_law_139 hl (by decide) rfl (fun ls hl => ?_)
      refine lv_aload_n hx hb dL_law_141 rfl (lv_at hl 1 rfl) ?_
      refine lv_iload hx hb dL_law_142 (lv_at hl 12 rfl) ?_
      refine lv_iconst (v := 2) hx hb dL_law_144 (by decide) ?_
      obtain ⟨r118, hr118, hV⟩ := jBind hV
      refine jVpI C dL_law_145 (k_Y8_performance l D G B N S v12 (2 : Int32) r118 hr118) jy_X8_performance jq_18_14 jq_18_15 jq_18_16 ⟨rfl, rfl, Nat.le_of_ble_eq_true rfl, Nat.le_of_ble_eq_true rfl⟩ ⟨Nat.le_of_ble_eq_true rfl, Nat.le_of_ble_eq_true rfl⟩ (jLeft hP) (ci := 10) (iw := 0) rfl rfl rfl hl (As := [.int v12, .int (2 : Int32)]) (rest := []) rfl (Nat.le_of_ble_eq_true rfl) ?_
      refine lv_istore (lv' := [(14, .int r118), (13, .int r117), (1, .ref (B 9 0)), (2, .int v2), (3, .int v3), (4, .int v4), (5, .int v5), (6, .int v6), (7, .int v7), (8, .int v8), (9, .int v9), (10, .int v10), (11, .ref (tA 0)), (12, .int v12)]) hx hb dL_law_148 hl (by decide) rfl (fun ls hl => ?_)
      refine lv_aload_n hx hb dL_law_150 rfl (lv_at hl 2 rfl) ?_
      refine lv_iload hx hb dL_law_151 (lv_at hl 13 rfl) ?_
      refine lv_bipush (v := 7) hx hb dL_law_153 (by decide) ?_
      obtain ⟨r119, hr119, hV⟩ := jBind hV
      refine jVpI C dL_law_155 (k_Y8_performance l D G B N S v12 (7 : Int32) r119 hr119) jy_X8_performance jq_18_14 jq_18_15 jq_18_16 ⟨rfl, rfl, Nat.le_of_ble_eq_true rfl, Nat.le_of_ble_eq_true rfl⟩ ⟨Nat.le_of_ble_eq_true rfl, Nat.le_of_ble_eq_true rfl⟩ (jLeft hP) (ci := 10) (iw := 0) rfl rfl rfl hl (As := [.int v12, .int (7 : Int32)]) (rest := []) rfl (Nat.le_of_ble_eq_true rfl) ?_
      refine lv_istore (lv' := [(15, .int r119), (14, .int r118), (13, .int r117), (1, .ref (B 9 0)), (2, .int v2), (3, .int v3), (4, .int v4), (5, .int v5), (6, .int v6), (7, .int v7), (8, .int v8), (9, .int v9), (10, .int v10), (11, .ref (tA 0)), (12, .int v12)]) hx hb dL_law_158 hl (by decide) rfl (fun ls hl => ?_)
      refine lv_iconst (v := 0) hx hb dL_law_160 (by decide) ?_
      refine lv_istore (lv' := [(16, .int (0 : Int32)), (15, .int r119), (14, .int r118), (13, .int r117), (1, .ref (B 9 0)), (2, .int v2), (3, .int v3), (4, .int v4), (5, .int v5), (6, .int v6), (7, .int v7), (8, .int v8), (9, .int v9), (10, .int v10), (11, .ref (tA 0)), (12, .int v12)]) hx hb dL_law_161 hl (by decide) rfl (fun ls hl => ?_)
      refine lv_iconst (v := 0) hx hb dL_law_163 (by decide) ?_
      refine lv_istore (lv' := [(17, .int (0 : Int32)), (16, .int (0 : Int32)), (15, .int r119), (14, .int r118), (13, .int r117), (1, .ref (B 9 0)), (2, .int v2), (3, .int v3), (4, .int v4), (5, .int v5), (6, .int v6), (7, .int v7), (8, .int v8), (9, .int v9), (10, .int v10), (11, .ref (tA 0)), (12, .int v12)]) hx hb dL_law_164 hl (by decide) rfl (fun ls hl => ?_)
      exact B_L_law_166 C hA N S B tA r hend (D_L_law_126 N S  n) ih N M v2 v3 v4 v5 v6 v7 v8 v9 v10 v12 r117 r118 r119 (0 : Int32) (0 : Int32) _ _ _ hP hD hS (lv_sub hl [5, 6, 7, 8, 9, 10, 11, 12, 13, 14, 15, 16, 4, 3, 2, 1, 0] rfl) hV
def F_L_law (N : Nat) (S : CS) (M : Nat → Nat → Int32) (v2 v3 v4 : Int32) : Option Int32 := (D_L_law_126 N S  N M v2 v3 v4 (0 : Int32) (0 : Int32) (0 : Int32) (0 : Int32) (0 : Int32) (0 : Int32) (0 : Int32))
set_option maxHeartbeats 4000000 in
set_option maxRecDepth 100000 in
theorem k_L_law {p : Program} {l : Launch} {e : Env} {s : State} {m : MethodId} {args : Array Value} {below : List Frame} {meth : Method} {c : Code} {D : va_G} {G : Nat → ClassId} {A : Nat → Prop} {Q : State → Prop} {ret : Option FieldType} (C : Cx p s m args meth c cL_law 20 RL ret D G) (hA : ∀ q : Nat, s.heap.size ≤ q → A q) (N : Nat) (S : CS) (B : Nat → Nat → Nat) (tA : Nat → Nat) (r : Int32) (hend : ∀ (H : Heap) (locs : List Loc) (ls : Array Slot), va_S A s.heap H locs → W p l e room_1 s m args below meth c H locs 470 3491 Q (F0 m 1127 ls [.int 1])) : ∀ (M : Nat → Nat → Int32) (v2 v3 v4 : Int32) (ls : Array Slot) (H : Heap) (locs : List Loc), va_P D vwCl (wLw B G tA S M) H → va_D A (wLw B G tA S M) → va_S A s.heap H locs → lv_has ls 20 [(11, .ref (tA 0)), (10, .int (0 : Int32)), (9, .int (0 : Int32)), (8, .int (0 : Int32)), (7, .int (0 : Int32)), (6, .int (0 : Int32)), (5, .int (0 : Int32)), (4, .int v4), (3, .int v3), (2, .int v2), (1, .ref (B 9 0))] → F_L_law N S M v2 v3 v4 = some r → W p l e room_1 s m args below meth c H locs 470 3491 Q (F0 m 123 ls []) := by
  have C := C
  obtain ⟨hx, hb, hr, hml, hts, hown, hlocks, hK0⟩ := id C
  have hK := hK0.1
  intro M v2 v3 v4 ls H locs hP hD hS hl hV
  rw [F_L_law] at hV
  refine lv_iconst (v := 0) hx hb dL_law_123 (by decide) ?_
  refine lv_istore (lv' := [(12, .int (0 : Int32)), (11, .ref (tA 0)), (10, .int (0 : Int32)), (9, .int (0 : Int32)), (8, .int (0 : Int32)), (7, .int (0 : Int32)), (6, .int (0 : Int32)), (5, .int (0 : Int32)), (4, .int v4), (3, .int v3), (2, .int v2), (1, .ref (B 9 0))]) hx hb dL_law_124 hl (by decide) rfl (fun ls hl => ?_)
  exact B_L_law_126 C hA N S B tA r hend   N M v2 v3 v4 (0 : Int32) (0 : Int32) (0 : Int32) (0 : Int32) (0 : Int32) (0 : Int32) (0 : Int32) _ _ _ hP hD hS (lv_sub hl [11, 10, 9, 8, 7, 6, 5, 4, 3, 2, 1, 0] rfl) hV
