theorem jy_X8_request : jY yX8_request cX8_request 4 (some .int) 3 := ⟨by decide +kernel, jq_33_8, jq_1_2⟩
def F_X8_request (N : Nat)  (M : Nat → Nat → Nat → Int32) (v1 v2 v3 : Int32) : Option (Int32 × Int32 × (Nat → Nat → Nat → Int32)) := (jlet (hOpen M) (fun M2 => ((F_X6_makeRequest N (M2 0) v1 v2 v3).bind (fun r3 => (jlet (u1 M2 0 r3.2) (fun M4 => ((F_X8_closeChange N M4 r3.1).bind (fun r5 => (if r5.1 = 0 then (some ((0 : Int32), r5.2.1, r5.2.2)) else (some (r5.1, (0 : Int32), r5.2.2)))))))))))
set_option maxHeartbeats 4000000 in
set_option maxRecDepth 100000 in
theorem k_X8_request (l : Launch) (hl0 : l.stackTraces = false) (D : va_G) (G : Nat → ClassId) (B : Nat → Nat → Nat) (ks va : Nat → Nat) (N : Nat) (M : Nat → Nat → Nat → Int32) (v1 v2 v3 : Int32) (r : (Int32 × Int32 × (Nat → Nat → Nat → Int32))) (hV : F_X8_request N  M v1 v2 v3 = some r) : xM l yX8_request (jws yX8_request cX8_request 4 (some .int)) ({ frames := 9, cells := 3, slots := 18, locals := 211 } : Room) [.ref (B 9 0), .int v1, .int v2, .int v3] D G ks va (wTS B G M) (wTS B G r.2.2) r.1 (some (.int r.2.1)) := by
  refine xM_of (by decide +kernel) (Nat.le_of_ble_eq_true rfl) (fun p e s m args below meth c ls A C hno hP hD hA hZ hl => ?_)
  have C : Cx p s m args meth c cX8_request 4 RX8 (some .int) D G := C
  have hS : va_S A s.heap s.heap [] := va_S.rf
  obtain ⟨hx, hb, hr, hml, hts, hown, hlocks, hK0⟩ := id C
  have hK := hK0.1
  have hl : lv_has ls 4 [(0, .ref (B 9 0)), (1, .int v1), (2, .int v2), (3, .int v3)] := hl
  rw [F_X8_request] at hV
  refine lv_aload_n hx hb dX8_request_0 rfl (lv_at hl 0 rfl) ?_
  refine va_get (D := D) (ci := 10) (v := .ref (B 9 1)) (C := RX8) (T := TX8) (N := 8) hx hb hts ju_X8 hown hK hP 0 rfl rfl 2 (by decide) (hts _ jq_1_22) (fun _ h9 => h9) rfl dX8_request_1 ?_
  refine lv_aload_n hx hb dX8_request_4 rfl (lv_at hl 0 rfl) ?_
  refine va_get (D := D) (ci := 10) (v := .ref (B 0 0)) (C := RX8) (T := TX8) (N := 8) hx hb hts ju_X8 hown hK hP 0 rfl rfl 0 (by decide) (hts _ jq_1_17) (fun _ h9 => h9) rfl dX8_request_5 ?_
  refine jVmV C dX8_request_8 (kt_X0_open l D G B  M ) jy_X0_open jq_6_16 jq_6_17 jq_6_18 ⟨rfl, rfl, Nat.le_of_ble_eq_true rfl, Nat.le_of_ble_eq_true rfl⟩ ⟨Nat.le_of_ble_eq_true rfl, Nat.le_of_ble_eq_true rfl⟩ hP hD hA hS (ci := 2) (iw := 1) rfl rfl rfl hl (rest := []) rfl (Nat.le_of_ble_eq_true rfl) (fun H locs hQ hz hkp hS => ?_)
  obtain ⟨M2, e7, hV⟩ := jLet hV
  have hP : va_P D vwCl (wTS B G M2) H := by rw [e7]; exact jHist hP hD hkp hQ
  have hD : va_D A (wTS B G M2) := jD (w := (wTS B G M)) (dTS _ _) hD
  refine lv_aload_n hx hb dX8_request_11 rfl (lv_at hl 0 rfl) ?_
  refine lv_aload_n hx hb dX8_request_12 rfl (lv_at hl 0 rfl) ?_
  refine va_get (D := D) (ci := 10) (v := .ref (B 0 0)) (C := RX8) (T := TX8) (N := 8) hx hb hts ju_X8 hown hK hP 0 rfl rfl 0 (by decide) (hts _ jq_1_17) (fun _ h9 => h9) rfl dX8_request_13 ?_
  refine lv_iload_n hx hb dX8_request_16 rfl (lv_at hl 1 rfl) ?_
  refine lv_iload_n hx hb dX8_request_17 rfl (lv_at hl 2 rfl) ?_
  refine lv_iload_n hx hb dX8_request_18 rfl (lv_at hl 3 rfl) ?_
  obtain ⟨r3, hr3, hV⟩ := jBind hV
  refine jVmI C dX8_request_19 (k_X6_makeRequest l D G (B 0) N (M2 0) v1 v2 v3 r3 hr3) jy_X6_makeRequest jq_33_9 jq_33_10 jq_33_11 ⟨rfl, rfl, Nat.le_of_ble_eq_true rfl, Nat.le_of_ble_eq_true rfl⟩ ⟨Nat.le_of_ble_eq_true rfl, Nat.le_of_ble_eq_true rfl⟩ (sTS_0 hP) (dTS_0 hD) hA hS (ci := 8) (iw := 0) rfl rfl rfl hl (rest := [.ref (B 9 0)]) rfl (Nat.le_of_ble_eq_true rfl) (fun H locs hQ hz hkp hS => ?_)
  obtain ⟨M4, e6, hV⟩ := jLet hV
  have hP : va_P D vwCl (wTS B G M4) H := by rw [e6]; exact jTS_0 hP hD hkp hQ
  have hD : va_D A (wTS B G M4) := jD (w := (wTS B G M2)) (dTS _ _) hD
  obtain ⟨r5, hr5, hV⟩ := jBind hV
  refine jVx C dX8_request_22 (k_X8_closeChange l hl0 D G B ks va N M4 r3.1 r5 hr5) jy_X8_closeChange jq_10_23 jq_11_0 jq_11_1 ⟨Nat.le_of_ble_eq_true rfl, Nat.le_of_ble_eq_true rfl⟩ ⟨Nat.le_of_ble_eq_true rfl, Nat.le_of_ble_eq_true rfl⟩ hZ hP hD hA hS (ci := 10) (iw := 0) rfl rfl rfl hl (rest := []) rfl (Nat.le_of_ble_eq_true rfl) (fun H locs hQ hz hkp hS => ⟨fun hk => ?_, fun hk ce q hce hcv hcl => ?_⟩)
  · have hP : va_P D vwCl (wTS B G r5.2.2) H := hQ
    have hD : va_D A (wTS B G r5.2.2) := jD (w := (wTS B G M4)) (dTS _ _) hD
    have hV := jT1 hV hk
    refine W.eq (g2 := F0 m 25 ls [.int r5.2.1]) rfl ?_
    cases hV
    exact xRet C rfl dX8_request_25 rfl rfl rfl (by decide) (by decide) hP hS
  · have hP : va_P D vwCl (wTS B G r5.2.2) H := hQ
    have hD : va_D A (wTS B G r5.2.2) := jD (w := (wTS B G M4)) (dTS _ _) hD
    have hV := jF1 hV hk
    cases hV
    exact xOut C hno hk hce hcv hcl (by decide) (by decide) hP hS
theorem jy_X8_waiting : jY yX8_waiting cX8_waiting 5 (some .int) 3 := ⟨by decide +kernel, jq_34_11, jq_1_2⟩
def F_X8_waiting (N : Nat)  (M : Nat → Nat → Nat → Int32) (v1 v2 v3 : Int32) : Option (Int32 × Int32 × (Nat → Nat → Nat → Int32)) := ((F_X2_has N (M 0) v1).bind (fun r1 => (if (ckIndex r1) = 0 then ((F_X4_find N (M 0) v1 v2).bind (fun r3 => (if r3 = (-1 : Int32) then (some ((5 : Int32), (0 : Int32), M)) else (if v3 = 0 then (some ((0 : Int32), (rg 20 (M 0 16) r3), M)) else (some ((0 : Int32), (rg 20 (M 0 17) r3), M)))))) else (some ((ckIndex r1), (0 : Int32), M)))))
set_option maxHeartbeats 4000000 in
set_option maxRecDepth 100000 in
theorem k_X8_waiting (l : Launch) (hl0 : l.stackTraces = false) (D : va_G) (G : Nat → ClassId) (B : Nat → Nat → Nat) (ks va : Nat → Nat) (N : Nat) (M : Nat → Nat → Nat → Int32) (v1 v2 v3 : Int32) (r : (Int32 × Int32 × (Nat → Nat → Nat → Int32))) (hV : F_X8_waiting N  M v1 v2 v3 = some r) : xM l yX8_waiting (jws yX8_waiting cX8_waiting 5 (some .int)) ({ frames := 8, cells := 2, slots := 12, locals := 120 } : Room) [.ref (B 9 0), .int v1, .int v2, .int v3] D G ks va (wTS B G M) (wTS B G r.2.2) r.1 (some (.int r.2.1)) := by
  refine xM_of (by decide +kernel) (Nat.le_of_ble_eq_true rfl) (fun p e s m args below meth c ls A C hno hP hD hA hZ hl => ?_)
  have C : Cx p s m args meth c cX8_waiting 5 RX8 (some .int) D G := C
  have hS : va_S A s.heap s.heap [] := va_S.rf
  obtain ⟨hx, hb, hr, hml, hts, hown, hlocks, hK0⟩ := id C
  have hK := hK0.1
  have hl : lv_has ls 5 [(0, .ref (B 9 0)), (1, .int v1), (2, .int v2), (3, .int v3)] := hl
  rw [F_X8_waiting] at hV
  refine lv_aload_n hx hb dX8_waiting_0 rfl (lv_at hl 0 rfl) ?_
  refine va_get (D := D) (ci := 10) (v := .ref (B 0 0)) (C := RX8) (T := TX8) (N := 8) hx hb hts ju_X8 hown hK hP 0 rfl rfl 0 (by decide) (hts _ jq_1_17) (fun _ h9 => h9) rfl dX8_waiting_1 ?_
  refine va_getN (D := D) (ci := 8) (v := .ref (B 0 37)) (C := RX6) (T := TX6) (N := 7) (host := "TheatreSeasons") hx hb hts ju_X6 hown hK (sTS_0 hP) 0 rfl rfl 4 (by decide) (va_Nw.use rfl (hK0.2 _ jn_35)) (fun _ h9 => h9) rfl dX8_waiting_4 ?_
  refine lv_iload_n hx hb dX8_waiting_7 rfl (lv_at hl 1 rfl) ?_
  obtain ⟨r1, hr1, hV⟩ := jBind hV
  refine jVpI C dX8_waiting_8 (k_X2_has l D G (B 0) N (M 0) v1 r1 hr1) jy_X2_has jq_27_7 jq_23_16 jq_23_17 ⟨rfl, rfl, Nat.le_of_ble_eq_true rfl, Nat.le_of_ble_eq_true rfl⟩ ⟨Nat.le_of_ble_eq_true rfl, Nat.le_of_ble_eq_true rfl⟩ (sX6_X2 (sTS_0 hP))  (ci := 4) (iw := 0) rfl rfl rfl hl (rest := []) rfl (Nat.le_of_ble_eq_true rfl) ?_
  refine jSx C dX8_waiting_11 (kx_X8_checkIndex l hl0 D G ks va r1) jy_X8_checkIndex jq_11_15 jq_11_16 ⟨Nat.le_of_ble_eq_true rfl, Nat.le_of_ble_eq_true rfl⟩ ⟨Nat.le_of_ble_eq_true rfl, Nat.le_of_ble_eq_true rfl⟩ hZ jE (jDnd.mpr ⟨List.nodup_nil, fun q h => nomatch h⟩) hA hS hl (rest := []) rfl (Nat.le_of_ble_eq_true rfl) (fun H locs hQ hz hkp hS => ⟨fun hk => ?_, fun hk ce q hce hcv hcl => ?_⟩)
  · have hP : va_P D vwCl (wTS B G M) H := hP.kept (fun k q hq => hkp q.1 (hP k q hq).lt (fun h => h.elim (fun ⟨_, _, h⟩ => by simp at h) (fun h => Nat.lt_irrefl _ (Nat.lt_of_lt_of_le (hP k q hq).lt h))))
    have hV := jT1 hV hk
    refine W.eq (g2 := F0 m 14 ls []) rfl ?_
    refine lv_aload_n hx hb dX8_waiting_14 rfl (lv_at hl 0 rfl) ?_
    refine va_get (D := D) (ci := 10) (v := .ref (B 0 0)) (C := RX8) (T := TX8) (N := 8) hx hb hts ju_X8 hown hK hP 0 rfl rfl 0 (by decide) (hts _ jq_1_17) (fun _ h9 => h9) rfl dX8_waiting_15 ?_
    refine va_getN (D := D) (ci := 8) (v := .ref (B 0 39)) (C := RX6) (T := TX6) (N := 7) (host := "TheatreSeasons") hx hb hts ju_X6 hown hK (sTS_0 hP) 0 rfl rfl 6 (by decide) (va_Nw.use rfl (hK0.2 _ jn_37)) (fun _ h9 => h9) rfl dX8_waiting_18 ?_
    refine lv_iload_n hx hb dX8_waiting_21 rfl (lv_at hl 1 rfl) ?_
    refine lv_iload_n hx hb dX8_waiting_22 rfl (lv_at hl 2 rfl) ?_
    obtain ⟨r3, hr3, hV⟩ := jBind hV
    refine jVpI C dX8_waiting_23 (k_X4_find l D G (B 0) N (M 0) v1 v2 r3 hr3) jy_X4_find jq_34_12 jq_10_1 jq_10_2 ⟨rfl, rfl, Nat.le_of_ble_eq_true rfl, Nat.le_of_ble_eq_true rfl⟩ ⟨Nat.le_of_ble_eq_true rfl, Nat.le_of_ble_eq_true rfl⟩ (sX6_X4 (sTS_0 hP))  (ci := 6) (iw := 0) rfl rfl rfl hl (rest := []) rfl (Nat.le_of_ble_eq_true rfl) ?_
    refine lv_istore (lv' := [(4, .int r3), (0, .ref (B 9 0)), (1, .int v1), (2, .int v2), (3, .int v3)]) hx hb dX8_waiting_26 hl (by decide) rfl (fun ls hl => ?_)
    refine lv_iload hx hb dX8_waiting_28 (lv_at hl 0 rfl) ?_
    refine lv_iconst (v := -1) hx hb dX8_waiting_30 (by decide) ?_
    refine lv_icmp_ne (tgt := 44) hx hb dX8_waiting_31 (by decide) (fun c8 => ?_) (fun c8 => ?_)
    · have hV := jF1 hV c8
      refine lv_iload_n hx hb dX8_waiting_44 rfl (lv_at hl 4 rfl) ?_
      refine lv_if_eq (tgt := 66) hx hb dX8_waiting_45 (by decide) (fun c6 => ?_) (fun c6 => ?_)
      · have hV := jT1 hV c6
        refine lv_aload_n hx hb dX8_waiting_66 rfl (lv_at hl 1 rfl) ?_
        refine va_get (D := D) (ci := 10) (v := .ref (B 0 0)) (C := RX8) (T := TX8) (N := 8) hx hb hts ju_X8 hown hK hP 0 rfl rfl 0 (by decide) (hts _ jq_1_17) (fun _ h9 => h9) rfl dX8_waiting_67 ?_
        refine va_getN (D := D) (ci := 8) (v := .ref (B 0 39)) (C := RX6) (T := TX6) (N := 7) (host := "TheatreSeasons") hx hb hts ju_X6 hown hK (sTS_0 hP) 0 rfl rfl 6 (by decide) (va_Nw.use rfl (hK0.2 _ jn_37)) (fun _ h9 => h9) rfl dX8_waiting_70 ?_
        refine va_getN (D := D) (ci := 6) (v := .ref (B 0 32)) (C := RX4) (T := TX4) (N := 4) (host := "TheatreSeasons") hx hb hts ju_X4 hown hK (sX6_X4 (sTS_0 hP)) 0 rfl rfl 2 (by decide) (va_Nw.use rfl (hK0.2 _ jn_29)) (fun _ h9 => h9) rfl dX8_waiting_73 ?_
        refine lv_iload hx hb dX8_waiting_76 (lv_at hl 0 rfl) ?_
        refine jVpI C dX8_waiting_78 (kt_X5_get l D G (B 0 32) (B 0 33) 20 (Nat.le_of_ble_eq_true rfl) (M 0 16) r3) jy_X5_get jq_21_2 jq_9_6 jq_9_7 ⟨rfl, rfl, Nat.le_of_ble_eq_true rfl, Nat.le_of_ble_eq_true rfl⟩ ⟨Nat.le_of_ble_eq_true rfl, Nat.le_of_ble_eq_true rfl⟩ (sX4_16 (sX6_X4 (sTS_0 hP)))  (ci := 7) (iw := 0) rfl rfl rfl hl (rest := []) rfl (Nat.le_of_ble_eq_true rfl) ?_
        cases hV
        exact xRet C rfl dX8_waiting_81 rfl rfl rfl (by decide) (by decide) hP hS
      · have hV := jF1 hV c6
        refine lv_aload_n hx hb dX8_waiting_48 rfl (lv_at hl 1 rfl) ?_
        refine va_get (D := D) (ci := 10) (v := .ref (B 0 0)) (C := RX8) (T := TX8) (N := 8) hx hb hts ju_X8 hown hK hP 0 rfl rfl 0 (by decide) (hts _ jq_1_17) (fun _ h9 => h9) rfl dX8_waiting_49 ?_
        refine va_getN (D := D) (ci := 8) (v := .ref (B 0 39)) (C := RX6) (T := TX6) (N := 7) (host := "TheatreSeasons") hx hb hts ju_X6 hown hK (sTS_0 hP) 0 rfl rfl 6 (by decide) (va_Nw.use rfl (hK0.2 _ jn_37)) (fun _ h9 => h9) rfl dX8_waiting_52 ?_
        refine va_getN (D := D) (ci := 6) (v := .ref (B 0 34)) (C := RX4) (T := TX4) (N := 4) (host := "TheatreSeasons") hx hb hts ju_X4 hown hK (sX6_X4 (sTS_0 hP)) 0 rfl rfl 3 (by decide) (va_Nw.use rfl (hK0.2 _ jn_30)) (fun _ h9 => h9) rfl dX8_waiting_55 ?_
        refine lv_iload hx hb dX8_waiting_58 (lv_at hl 0 rfl) ?_
        refine jVpI C dX8_waiting_60 (kt_X5_get l D G (B 0 34) (B 0 35) 20 (Nat.le_of_ble_eq_true rfl) (M 0 17) r3) jy_X5_get jq_21_2 jq_9_6 jq_9_7 ⟨rfl, rfl, Nat.le_of_ble_eq_true rfl, Nat.le_of_ble_eq_true rfl⟩ ⟨Nat.le_of_ble_eq_true rfl, Nat.le_of_ble_eq_true rfl⟩ (sX4_17 (sX6_X4 (sTS_0 hP)))  (ci := 7) (iw := 0) rfl rfl rfl hl (rest := []) rfl (Nat.le_of_ble_eq_true rfl) ?_
        refine lv_goto (tgt := 81) hx hb dX8_waiting_63 (by decide) ?_
        cases hV
        exact xRet C rfl dX8_waiting_81 rfl rfl rfl (by decide) (by decide) hP hS
    · have hV := jT1 hV c8
      obtain ⟨sa7, hsa7⟩ := hZ.2.2.2.2.2.2 _ jms_202
      cases hV
      exact xThrowN C hno hl0 (by decide) (by decide) jqn_0 jq_28_10 hsa7 (xat_175 C) xgd_175_171 hZ hS hA hP hl dX8_waiting_34 dX8_waiting_37 dX8_waiting_38 dX8_waiting_40 dX8_waiting_43 (rest := []) (Nat.le_of_ble_eq_true rfl) (Nat.le_of_ble_eq_true rfl) (Nat.le_of_ble_eq_true rfl) (Nat.le_of_ble_eq_true rfl) (by decide) (by decide) (show (5 : Int32) ≠ 0 by decide) (show exN 5 = "java/util/NoSuchElementException" by decide)
  · have hP : va_P D vwCl (wTS B G M) H := hP.kept (fun k q hq => hkp q.1 (hP k q hq).lt (fun h => h.elim (fun ⟨_, _, h⟩ => by simp at h) (fun h => Nat.lt_irrefl _ (Nat.lt_of_lt_of_le (hP k q hq).lt h))))
    have hV := jF1 hV hk
    cases hV
    exact xOut C hno hk hce hcv hcl (by decide) (by decide) hP hS
theorem jy_X8_seats : jY yX8_seats cX8_seats 5 (some .int) 2 := ⟨by decide +kernel, jq_34_23, jq_1_2⟩
def D_X8_seats_27 (N : Nat)  : Nat → (Nat → Nat → Nat → Int32) → Int32 → Int32 → Int32 → Int32 → Option (Int32 × Int32 × (Nat → Nat → Nat → Int32))
  | 0, _, _, _, _, _ => none
  | n + 1, M, v1, v2, v3, v4 => (if ((M 0) 0 3) ≤ v4 then (some ((0 : Int32), v3, M)) else (if (rg 24 (M 0 9) v4) = v1 then ((F_X6_seatsAt N (M 0) v4 v2).bind (fun r2 => (D_X8_seats_27 N   n M v1 v2 (v3 + r2) (v4 + 1)))) else (D_X8_seats_27 N   n M v1 v2 v3 (v4 + 1))))
set_option maxHeartbeats 4000000 in
set_option maxRecDepth 100000 in
theorem B_X8_seats_27 {p : Program} {l : Launch} {e : Env} {s : State} {m : MethodId} {args : Array Value} {below : List Frame} {meth : Method} {c : Code} {D : va_G} {G : Nat → ClassId} {A : Nat → Prop} (C : Cx p s m args meth c cX8_seats 5 RX8 (some .int) D G) (hA : ∀ q : Nat, s.heap.size ≤ q → A q) (ks va : Nat → Nat) (hZ : jZ ks va A s s.heap) (hno : ∀ x ∈ c.exceptionTable.toList, False) (hl0 : l.stackTraces = false) (N : Nat) (B : Nat → Nat → Nat) (r : (Int32 × Int32 × (Nat → Nat → Nat → Int32))) : (∀ (n : Nat) (M : Nat → Nat → Nat → Int32) (v1 : Int32) (v2 : Int32) (v3 : Int32) (v4 : Int32) (ls : Array Slot) (H : Heap) (locs : List Loc), va_P D vwCl (wTS B G M) H → va_D A (wTS B G M) → va_S A s.heap H locs → lv_has ls 5 [(0, .ref (B 9 0)), (1, .int v1), (2, .int v2), (3, .int v3), (4, .int v4)] → D_X8_seats_27 N   n M v1 v2 v3 v4 = some r → W p l e ({ frames := 8, cells := 1, slots := 6, locals := 120 } : Room) s m args below meth c H locs 1 6 (vx_MQ below (xQ D (wTS B G r.2.2) r.1 (some (.int r.2.1)) A) (xX D (wTS B G r.2.2) r.1 A) args s 1 6 A) (F0 m 27 ls [])) := by
  have C := C
  obtain ⟨hx, hb, hr, hml, hts, hown, hlocks, hK0⟩ := id C
  have hK := hK0.1
  intro n
  induction n with
  | zero =>
    intro M v1 v2 v3 v4 ls H locs hP hD hS hl hV
    rw [D_X8_seats_27] at hV
    cases hV
  | succ n ih =>
    intro M v1 v2 v3 v4 ls H locs hP hD hS hl hV
    rw [D_X8_seats_27] at hV
    refine lv_iload hx hb dX8_seats_27 (lv_at hl 4 rfl) ?_
    refine lv_aload_n hx hb dX8_seats_29 rfl (lv_at hl 0 rfl) ?_
    refine va_get (D := D) (ci := 10) (v := .ref (B 0 0)) (C := RX8) (T := TX8) (N := 8) hx hb hts ju_X8 hown hK hP 0 rfl rfl 0 (by decide) (hts _ jq_1_17) (fun _ h9 => h9) rfl dX8_seats_30 ?_
    refine va_getN (D := D) (ci := 8) (v := .ref (B 0 37)) (C := RX6) (T := TX6) (N := 7) (host := "TheatreSeasons") hx hb hts ju_X6 hown hK (sTS_0 hP) 0 rfl rfl 4 (by decide) (va_Nw.use rfl (hK0.2 _ jn_35)) (fun _ h9 => h9) rfl dX8_seats_33 ?_
    refine va_getN (D := D) (ci := 4) (v := .int ((M 0) 0 3)) (C := RX2) (T := TX2) (N := 7) (host := "TheatreSeasons") hx hb hts ju_X2 hown hK (sX6_X2 (sTS_0 hP)) 0 rfl rfl 0 (by decide) (va_Nw.use rfl (hK0.2 _ jn_10)) (fun _ h9 => h9) rfl dX8_seats_36 ?_
    refine lv_icmp_ge (tgt := 80) hx hb dX8_seats_39 (by decide) (fun c4 => ?_) (fun c4 => ?_)
    · have hV := jT1 hV c4
      refine lv_iload_n hx hb dX8_seats_80 rfl (lv_at hl 3 rfl) ?_
      cases hV
      exact xRet C rfl dX8_seats_81 rfl rfl rfl (by decide) (by decide) hP hS
    · have hV := jF1 hV c4
      refine lv_aload_n hx hb dX8_seats_42 rfl (lv_at hl 0 rfl) ?_
      refine va_get (D := D) (ci := 10) (v := .ref (B 0 0)) (C := RX8) (T := TX8) (N := 8) hx hb hts ju_X8 hown hK hP 0 rfl rfl 0 (by decide) (hts _ jq_1_17) (fun _ h9 => h9) rfl dX8_seats_43 ?_
      refine va_getN (D := D) (ci := 8) (v := .ref (B 0 37)) (C := RX6) (T := TX6) (N := 7) (host := "TheatreSeasons") hx hb hts ju_X6 hown hK (sTS_0 hP) 0 rfl rfl 4 (by decide) (va_Nw.use rfl (hK0.2 _ jn_35)) (fun _ h9 => h9) rfl dX8_seats_46 ?_
      refine va_getN (D := D) (ci := 4) (v := .ref (B 0 18)) (C := RX2) (T := TX2) (N := 7) (host := "TheatreSeasons") hx hb hts ju_X2 hown hK (sX6_X2 (sTS_0 hP)) 0 rfl rfl 3 (by decide) (va_Nw.use rfl (hK0.2 _ jn_16)) (fun _ h9 => h9) rfl dX8_seats_49 ?_
      refine lv_iload hx hb dX8_seats_52 (lv_at hl 4 rfl) ?_
      refine jVpI C dX8_seats_54 (kt_X5_get l D G (B 0 18) (B 0 19) 24 (Nat.le_of_ble_eq_true rfl) (M 0 9) v4) jy_X5_get jq_21_2 jq_9_6 jq_9_7 ⟨rfl, rfl, Nat.le_of_ble_eq_true rfl, Nat.le_of_ble_eq_true rfl⟩ ⟨Nat.le_of_ble_eq_true rfl, Nat.le_of_ble_eq_true rfl⟩ (sX2_9 (sX6_X2 (sTS_0 hP)))  (ci := 7) (iw := 0) rfl rfl rfl hl (rest := []) rfl (Nat.le_of_ble_eq_true rfl) ?_
      refine lv_iload_n hx hb dX8_seats_57 rfl (lv_at hl 1 rfl) ?_
      refine lv_icmp_ne (tgt := 74) hx hb dX8_seats_58 (by decide) (fun c3 => ?_) (fun c3 => ?_)
      · have hV := jF1 hV c3
        refine lv_iinc (v := (v4 + 1)) (lv' := [(4, .int (v4 + 1)), (0, .ref (B 9 0)), (1, .int v1), (2, .int v2), (3, .int v3)]) hx hb dX8_seats_74 hl (k := 4) rfl rfl (by decide) rfl (fun ls hl => ?_)
        refine lv_goto (tgt := 27) hx hb dX8_seats_77 (by decide) ?_
        exact ih M v1 v2 v3 (v4 + 1) _ _ _ hP hD hS (lv_sub hl [1, 2, 3, 4, 0] rfl) hV
      · have hV := jT1 hV c3
        refine lv_iload_n hx hb dX8_seats_61 rfl (lv_at hl 3 rfl) ?_
        refine lv_aload_n hx hb dX8_seats_62 rfl (lv_at hl 0 rfl) ?_
        refine va_get (D := D) (ci := 10) (v := .ref (B 0 0)) (C := RX8) (T := TX8) (N := 8) hx hb hts ju_X8 hown hK hP 0 rfl rfl 0 (by decide) (hts _ jq_1_17) (fun _ h9 => h9) rfl dX8_seats_63 ?_
        refine lv_iload hx hb dX8_seats_66 (lv_at hl 4 rfl) ?_
        refine lv_iload_n hx hb dX8_seats_68 rfl (lv_at hl 2 rfl) ?_
        obtain ⟨r2, hr2, hV⟩ := jBind hV
        refine jVpI C dX8_seats_69 (k_X6_seatsAt l D G (B 0) N (M 0) v4 v2 r2 hr2) jy_X6_seatsAt jq_27_8 jq_10_6 jq_10_7 ⟨rfl, rfl, Nat.le_of_ble_eq_true rfl, Nat.le_of_ble_eq_true rfl⟩ ⟨Nat.le_of_ble_eq_true rfl, Nat.le_of_ble_eq_true rfl⟩ (sTS_0 hP)  (ci := 8) (iw := 0) rfl rfl rfl hl (rest := [.int v3]) rfl (Nat.le_of_ble_eq_true rfl) ?_
        refine lv_iadd hx hb dX8_seats_72 ?_
        refine lv_istore_n (lv' := [(3, .int (v3 + r2)), (0, .ref (B 9 0)), (1, .int v1), (2, .int v2), (4, .int v4)]) hx hb dX8_seats_73 rfl hl (by decide) rfl (fun ls hl => ?_)
        refine lv_iinc (v := (v4 + 1)) (lv' := [(4, .int (v4 + 1)), (3, .int (v3 + r2)), (0, .ref (B 9 0)), (1, .int v1), (2, .int v2)]) hx hb dX8_seats_74 hl (k := 4) rfl rfl (by decide) rfl (fun ls hl => ?_)
        refine lv_goto (tgt := 27) hx hb dX8_seats_77 (by decide) ?_
        exact ih M v1 v2 (v3 + r2) (v4 + 1) _ _ _ hP hD hS (lv_sub hl [2, 3, 4, 1, 0] rfl) hV
def F_X8_seats (N : Nat)  (M : Nat → Nat → Nat → Int32) (v1 v2 : Int32) : Option (Int32 × Int32 × (Nat → Nat → Nat → Int32)) := (if (jIn v1 0 29) = 0 then (if (ckArgument (0 : Int32)) = 0 then (D_X8_seats_27 N   N M v1 v2 (0 : Int32) (0 : Int32)) else (some ((ckArgument (0 : Int32)), (0 : Int32), M))) else (if (jIn v2 0 2) = 0 then (if (ckArgument (0 : Int32)) = 0 then (D_X8_seats_27 N   N M v1 v2 (0 : Int32) (0 : Int32)) else (some ((ckArgument (0 : Int32)), (0 : Int32), M))) else (if (ckArgument (1 : Int32)) = 0 then (D_X8_seats_27 N   N M v1 v2 (0 : Int32) (0 : Int32)) else (some ((ckArgument (1 : Int32)), (0 : Int32), M)))))
set_option maxHeartbeats 4000000 in
set_option maxRecDepth 100000 in
theorem k_X8_seats (l : Launch) (hl0 : l.stackTraces = false) (D : va_G) (G : Nat → ClassId) (B : Nat → Nat → Nat) (ks va : Nat → Nat) (N : Nat) (M : Nat → Nat → Nat → Int32) (v1 v2 : Int32) (r : (Int32 × Int32 × (Nat → Nat → Nat → Int32))) (hV : F_X8_seats N  M v1 v2 = some r) : xM l yX8_seats (jws yX8_seats cX8_seats 5 (some .int)) ({ frames := 8, cells := 1, slots := 6, locals := 120 } : Room) [.ref (B 9 0), .int v1, .int v2] D G ks va (wTS B G M) (wTS B G r.2.2) r.1 (some (.int r.2.1)) := by
  refine xM_of (by decide +kernel) (Nat.le_of_ble_eq_true rfl) (fun p e s m args below meth c ls A C hno hP hD hA hZ hl => ?_)
  have C : Cx p s m args meth c cX8_seats 5 RX8 (some .int) D G := C
  have hS : va_S A s.heap s.heap [] := va_S.rf
  obtain ⟨hx, hb, hr, hml, hts, hown, hlocks, hK0⟩ := id C
  have hK := hK0.1
  have hl : lv_has ls 5 [(0, .ref (B 9 0)), (1, .int v1), (2, .int v2)] := hl
  rw [F_X8_seats] at hV
  refine lv_iload_n hx hb dX8_seats_0 rfl (lv_at hl 1 rfl) ?_
  refine jSpI C dX8_seats_1 (kt_X8_isDate l D G    v1) jy_X8_isDate jq_28_12 jq_23_1 ⟨rfl, rfl, Nat.le_of_ble_eq_true rfl, Nat.le_of_ble_eq_true rfl⟩ ⟨Nat.le_of_ble_eq_true rfl, Nat.le_of_ble_eq_true rfl⟩ jE  hl (rest := []) rfl (Nat.le_of_ble_eq_true rfl) ?_
  refine lv_if_eq (tgt := 18) hx hb dX8_seats_4 (by decide) (fun c11 => ?_) (fun c11 => ?_)
  · have hV := jT1 hV c11
    refine lv_iconst (v := 0) hx hb dX8_seats_18 (by decide) ?_
    refine jSx C dX8_seats_19 (kx_X8_checkArgument l hl0 D G ks va (0 : Int32)) jy_X8_checkArgument jq_11_20 jq_11_21 ⟨Nat.le_of_ble_eq_true rfl, Nat.le_of_ble_eq_true rfl⟩ ⟨Nat.le_of_ble_eq_true rfl, Nat.le_of_ble_eq_true rfl⟩ hZ jE (jDnd.mpr ⟨List.nodup_nil, fun q h => nomatch h⟩) hA hS hl (rest := []) rfl (Nat.le_of_ble_eq_true rfl) (fun H locs hQ hz hkp hS => ⟨fun hk => ?_, fun hk ce q hce hcv hcl => ?_⟩)
    · have hP : va_P D vwCl (wTS B G M) H := hP.kept (fun k q hq => hkp q.1 (hP k q hq).lt (fun h => h.elim (fun ⟨_, _, h⟩ => by simp at h) (fun h => Nat.lt_irrefl _ (Nat.lt_of_lt_of_le (hP k q hq).lt h))))
      have hV := jT1 hV hk
      refine W.eq (g2 := F0 m 22 ls []) rfl ?_
      refine lv_iconst (v := 0) hx hb dX8_seats_22 (by decide) ?_
      refine lv_istore_n (lv' := [(3, .int (0 : Int32)), (0, .ref (B 9 0)), (1, .int v1), (2, .int v2)]) hx hb dX8_seats_23 rfl hl (by decide) rfl (fun ls hl => ?_)
      refine lv_iconst (v := 0) hx hb dX8_seats_24 (by decide) ?_
      refine lv_istore (lv' := [(4, .int (0 : Int32)), (3, .int (0 : Int32)), (0, .ref (B 9 0)), (1, .int v1), (2, .int v2)]) hx hb dX8_seats_25 hl (by decide) rfl (fun ls hl => ?_)
      exact B_X8_seats_27 C hA ks va hZ hno hl0 N B r   N M v1 v2 (0 : Int32) (0 : Int32) _ _ _ hP hD hS (lv_sub hl [2, 3, 4, 1, 0] rfl) hV
    · have hP : va_P D vwCl (wTS B G M) H := hP.kept (fun k q hq => hkp q.1 (hP k q hq).lt (fun h => h.elim (fun ⟨_, _, h⟩ => by simp at h) (fun h => Nat.lt_irrefl _ (Nat.lt_of_lt_of_le (hP k q hq).lt h))))
      have hV := jF1 hV hk
      cases hV
      exact xOut C hno hk hce hcv hcl (by decide) (by decide) hP hS
  · have hV := jF1 hV c11
    refine lv_iload_n hx hb dX8_seats_7 rfl (lv_at hl 2 rfl) ?_
    refine jSpI C dX8_seats_8 (kt_X8_isSeatKind l D G    v2) jy_X8_isSeatKind jq_35_0 jq_35_1 ⟨rfl, rfl, Nat.le_of_ble_eq_true rfl, Nat.le_of_ble_eq_true rfl⟩ ⟨Nat.le_of_ble_eq_true rfl, Nat.le_of_ble_eq_true rfl⟩ jE  hl (rest := []) rfl (Nat.le_of_ble_eq_true rfl) ?_
    refine lv_if_eq (tgt := 18) hx hb dX8_seats_11 (by decide) (fun c10 => ?_) (fun c10 => ?_)
    · have hV := jT1 hV c10
      refine lv_iconst (v := 0) hx hb dX8_seats_18 (by decide) ?_
      refine jSx C dX8_seats_19 (kx_X8_checkArgument l hl0 D G ks va (0 : Int32)) jy_X8_checkArgument jq_11_20 jq_11_21 ⟨Nat.le_of_ble_eq_true rfl, Nat.le_of_ble_eq_true rfl⟩ ⟨Nat.le_of_ble_eq_true rfl, Nat.le_of_ble_eq_true rfl⟩ hZ jE (jDnd.mpr ⟨List.nodup_nil, fun q h => nomatch h⟩) hA hS hl (rest := []) rfl (Nat.le_of_ble_eq_true rfl) (fun H locs hQ hz hkp hS => ⟨fun hk => ?_, fun hk ce q hce hcv hcl => ?_⟩)
      · have hP : va_P D vwCl (wTS B G M) H := hP.kept (fun k q hq => hkp q.1 (hP k q hq).lt (fun h => h.elim (fun ⟨_, _, h⟩ => by simp at h) (fun h => Nat.lt_irrefl _ (Nat.lt_of_lt_of_le (hP k q hq).lt h))))
        have hV := jT1 hV hk
        refine W.eq (g2 := F0 m 22 ls []) rfl ?_
        refine lv_iconst (v := 0) hx hb dX8_seats_22 (by decide) ?_
        refine lv_istore_n (lv' := [(3, .int (0 : Int32)), (0, .ref (B 9 0)), (1, .int v1), (2, .int v2)]) hx hb dX8_seats_23 rfl hl (by decide) rfl (fun ls hl => ?_)
        refine lv_iconst (v := 0) hx hb dX8_seats_24 (by decide) ?_
        refine lv_istore (lv' := [(4, .int (0 : Int32)), (3, .int (0 : Int32)), (0, .ref (B 9 0)), (1, .int v1), (2, .int v2)]) hx hb dX8_seats_25 hl (by decide) rfl (fun ls hl => ?_)
        exact B_X8_seats_27 C hA ks va hZ hno hl0 N B r   N M v1 v2 (0 : Int32) (0 : Int32) _ _ _ hP hD hS (lv_sub hl [2, 3, 4, 1, 0] rfl) hV
      · have hP : va_P D vwCl (wTS B G M) H := hP.kept (fun k q hq => hkp q.1 (hP k q hq).lt (fun h => h.elim (fun ⟨_, _, h⟩ => by simp at h) (fun h => Nat.lt_irrefl _ (Nat.lt_of_lt_of_le (hP k q hq).lt h))))
        have hV := jF1 hV hk
        cases hV
        exact xOut C hno hk hce hcv hcl (by decide) (by decide) hP hS
    · have hV := jF1 hV c10
      refine lv_iconst (v := 1) hx hb dX8_seats_14 (by decide) ?_
      refine lv_goto (tgt := 19) hx hb dX8_seats_15 (by decide) ?_
      refine jSx C dX8_seats_19 (kx_X8_checkArgument l hl0 D G ks va (1 : Int32)) jy_X8_checkArgument jq_11_20 jq_11_21 ⟨Nat.le_of_ble_eq_true rfl, Nat.le_of_ble_eq_true rfl⟩ ⟨Nat.le_of_ble_eq_true rfl, Nat.le_of_ble_eq_true rfl⟩ hZ jE (jDnd.mpr ⟨List.nodup_nil, fun q h => nomatch h⟩) hA hS hl (rest := []) rfl (Nat.le_of_ble_eq_true rfl) (fun H locs hQ hz hkp hS => ⟨fun hk => ?_, fun hk ce q hce hcv hcl => ?_⟩)
      · have hP : va_P D vwCl (wTS B G M) H := hP.kept (fun k q hq => hkp q.1 (hP k q hq).lt (fun h => h.elim (fun ⟨_, _, h⟩ => by simp at h) (fun h => Nat.lt_irrefl _ (Nat.lt_of_lt_of_le (hP k q hq).lt h))))
        have hV := jT1 hV hk
        refine W.eq (g2 := F0 m 22 ls []) rfl ?_
        refine lv_iconst (v := 0) hx hb dX8_seats_22 (by decide) ?_
        refine lv_istore_n (lv' := [(3, .int (0 : Int32)), (0, .ref (B 9 0)), (1, .int v1), (2, .int v2)]) hx hb dX8_seats_23 rfl hl (by decide) rfl (fun ls hl => ?_)
        refine lv_iconst (v := 0) hx hb dX8_seats_24 (by decide) ?_
        refine lv_istore (lv' := [(4, .int (0 : Int32)), (3, .int (0 : Int32)), (0, .ref (B 9 0)), (1, .int v1), (2, .int v2)]) hx hb dX8_seats_25 hl (by decide) rfl (fun ls hl => ?_)
        exact B_X8_seats_27 C hA ks va hZ hno hl0 N B r   N M v1 v2 (0 : Int32) (0 : Int32) _ _ _ hP hD hS (lv_sub hl [2, 3, 4, 1, 0] rfl) hV
      · have hP : va_P D vwCl (wTS B G M) H := hP.kept (fun k q hq => hkp q.1 (hP k q hq).lt (fun h => h.elim (fun ⟨_, _, h⟩ => by simp at h) (fun h => Nat.lt_irrefl _ (Nat.lt_of_lt_of_le (hP k q hq).lt h))))
        have hV := jF1 hV hk
        cases hV
        exact xOut C hno hk hce hcv hcl (by decide) (by decide) hP hS
theorem jy_X8_seatsAgain : jY yX8_seatsAgain cX8_seatsAgain 5 (some .int) 2 := ⟨by decide +kernel, jq_35_17, jq_1_2⟩
def D_X8_seatsAgain_27 (N : Nat)  : Nat → (Nat → Nat → Nat → Int32) → Int32 → Int32 → Int32 → Int32 → Option (Int32 × Int32 × (Nat → Nat → Nat → Int32))
  | 0, _, _, _, _, _ => none
  | n + 1, M, v1, v2, v3, v4 => (if (3 : Int32) ≤ v4 then (some ((0 : Int32), v3, M)) else ((F_X6_seatsOnStage N (M 0) v4 v1 v2).bind (fun r1 => (D_X8_seatsAgain_27 N   n M v1 v2 (v3 + r1) (v4 + 1)))))
set_option maxHeartbeats 4000000 in
set_option maxRecDepth 100000 in
theorem B_X8_seatsAgain_27 {p : Program} {l : Launch} {e : Env} {s : State} {m : MethodId} {args : Array Value} {below : List Frame} {meth : Method} {c : Code} {D : va_G} {G : Nat → ClassId} {A : Nat → Prop} (C : Cx p s m args meth c cX8_seatsAgain 5 RX8 (some .int) D G) (hA : ∀ q : Nat, s.heap.size ≤ q → A q) (ks va : Nat → Nat) (hZ : jZ ks va A s s.heap) (hno : ∀ x ∈ c.exceptionTable.toList, False) (hl0 : l.stackTraces = false) (N : Nat) (B : Nat → Nat → Nat) (r : (Int32 × Int32 × (Nat → Nat → Nat → Int32))) : (∀ (n : Nat) (M : Nat → Nat → Nat → Int32) (v1 : Int32) (v2 : Int32) (v3 : Int32) (v4 : Int32) (ls : Array Slot) (H : Heap) (locs : List Loc), va_P D vwCl (wTS B G M) H → va_D A (wTS B G M) → va_S A s.heap H locs → lv_has ls 5 [(0, .ref (B 9 0)), (1, .int v1), (2, .int v2), (3, .int v3), (4, .int v4)] → D_X8_seatsAgain_27 N   n M v1 v2 v3 v4 = some r → W p l e ({ frames := 8, cells := 1, slots := 6, locals := 120 } : Room) s m args below meth c H locs 1 6 (vx_MQ below (xQ D (wTS B G r.2.2) r.1 (some (.int r.2.1)) A) (xX D (wTS B G r.2.2) r.1 A) args s 1 6 A) (F0 m 27 ls [])) := by
  have C := C
  obtain ⟨hx, hb, hr, hml, hts, hown, hlocks, hK0⟩ := id C
  have hK := hK0.1
  intro n
  induction n with
  | zero =>
    intro M v1 v2 v3 v4 ls H locs hP hD hS hl hV
    rw [D_X8_seatsAgain_27] at hV
    cases hV
  | succ n ih =>
    intro M v1 v2 v3 v4 ls H locs hP hD hS hl hV
    rw [D_X8_seatsAgain_27] at hV
    refine lv_iload hx hb dX8_seatsAgain_27 (lv_at hl 4 rfl) ?_
    refine lv_iconst (v := 3) hx hb dX8_seatsAgain_29 (by decide) ?_
    refine lv_icmp_ge (tgt := 53) hx hb dX8_seatsAgain_30 (by decide) (fun c2 => ?_) (fun c2 => ?_)
    · have hV := jT1 hV c2
      refine lv_iload_n hx hb dX8_seatsAgain_53 rfl (lv_at hl 3 rfl) ?_
      cases hV
      exact xRet C rfl dX8_seatsAgain_54 rfl rfl rfl (by decide) (by decide) hP hS
    · have hV := jF1 hV c2
      refine lv_iload_n hx hb dX8_seatsAgain_33 rfl (lv_at hl 3 rfl) ?_
      refine lv_aload_n hx hb dX8_seatsAgain_34 rfl (lv_at hl 0 rfl) ?_
      refine va_get (D := D) (ci := 10) (v := .ref (B 0 0)) (C := RX8) (T := TX8) (N := 8) hx hb hts ju_X8 hown hK hP 0 rfl rfl 0 (by decide) (hts _ jq_1_17) (fun _ h9 => h9) rfl dX8_seatsAgain_35 ?_
      refine lv_iload hx hb dX8_seatsAgain_38 (lv_at hl 4 rfl) ?_
      refine lv_iload_n hx hb dX8_seatsAgain_40 rfl (lv_at hl 1 rfl) ?_
      refine lv_iload_n hx hb dX8_seatsAgain_41 rfl (lv_at hl 2 rfl) ?_
      obtain ⟨r1, hr1, hV⟩ := jBind hV
      refine jVpI C dX8_seatsAgain_42 (k_X6_seatsOnStage l D G (B 0) N (M 0) v4 v1 v2 r1 hr1) jy_X6_seatsOnStage jq_35_18 jq_35_19 jq_35_20 ⟨rfl, rfl, Nat.le_of_ble_eq_true rfl, Nat.le_of_ble_eq_true rfl⟩ ⟨Nat.le_of_ble_eq_true rfl, Nat.le_of_ble_eq_true rfl⟩ (sTS_0 hP)  (ci := 8) (iw := 0) rfl rfl rfl hl (rest := [.int v3]) rfl (Nat.le_of_ble_eq_true rfl) ?_
      refine lv_iadd hx hb dX8_seatsAgain_45 ?_
      refine lv_istore_n (lv' := [(3, .int (v3 + r1)), (0, .ref (B 9 0)), (1, .int v1), (2, .int v2), (4, .int v4)]) hx hb dX8_seatsAgain_46 rfl hl (by decide) rfl (fun ls hl => ?_)
      refine lv_iinc (v := (v4 + 1)) (lv' := [(4, .int (v4 + 1)), (3, .int (v3 + r1)), (0, .ref (B 9 0)), (1, .int v1), (2, .int v2)]) hx hb dX8_seatsAgain_47 hl (k := 4) rfl rfl (by decide) rfl (fun ls hl => ?_)
      refine lv_goto (tgt := 27) hx hb dX8_seatsAgain_50 (by decide) ?_
      exact ih M v1 v2 (v3 + r1) (v4 + 1) _ _ _ hP hD hS (lv_sub hl [2, 3, 4, 1, 0] rfl) hV
def F_X8_seatsAgain (N : Nat)  (M : Nat → Nat → Nat → Int32) (v1 v2 : Int32) : Option (Int32 × Int32 × (Nat → Nat → Nat → Int32)) := (if (jIn v1 0 29) = 0 then (if (ckArgument (0 : Int32)) = 0 then (D_X8_seatsAgain_27 N   N M v1 v2 (0 : Int32) (0 : Int32)) else (some ((ckArgument (0 : Int32)), (0 : Int32), M))) else (if (jIn v2 0 2) = 0 then (if (ckArgument (0 : Int32)) = 0 then (D_X8_seatsAgain_27 N   N M v1 v2 (0 : Int32) (0 : Int32)) else (some ((ckArgument (0 : Int32)), (0 : Int32), M))) else (if (ckArgument (1 : Int32)) = 0 then (D_X8_seatsAgain_27 N   N M v1 v2 (0 : Int32) (0 : Int32)) else (some ((ckArgument (1 : Int32)), (0 : Int32), M)))))
set_option maxHeartbeats 4000000 in
set_option maxRecDepth 100000 in
theorem k_X8_seatsAgain (l : Launch) (hl0 : l.stackTraces = false) (D : va_G) (G : Nat → ClassId) (B : Nat → Nat → Nat) (ks va : Nat → Nat) (N : Nat) (M : Nat → Nat → Nat → Int32) (v1 v2 : Int32) (r : (Int32 × Int32 × (Nat → Nat → Nat → Int32))) (hV : F_X8_seatsAgain N  M v1 v2 = some r) : xM l yX8_seatsAgain (jws yX8_seatsAgain cX8_seatsAgain 5 (some .int)) ({ frames := 8, cells := 1, slots := 6, locals := 120 } : Room) [.ref (B 9 0), .int v1, .int v2] D G ks va (wTS B G M) (wTS B G r.2.2) r.1 (some (.int r.2.1)) := by
  refine xM_of (by decide +kernel) (Nat.le_of_ble_eq_true rfl) (fun p e s m args below meth c ls A C hno hP hD hA hZ hl => ?_)
  have C : Cx p s m args meth c cX8_seatsAgain 5 RX8 (some .int) D G := C
  have hS : va_S A s.heap s.heap [] := va_S.rf
  obtain ⟨hx, hb, hr, hml, hts, hown, hlocks, hK0⟩ := id C
  have hK := hK0.1
  have hl : lv_has ls 5 [(0, .ref (B 9 0)), (1, .int v1), (2, .int v2)] := hl
  rw [F_X8_seatsAgain] at hV
  refine lv_iload_n hx hb dX8_seatsAgain_0 rfl (lv_at hl 1 rfl) ?_
  refine jSpI C dX8_seatsAgain_1 (kt_X8_isDate l D G    v1) jy_X8_isDate jq_28_12 jq_23_1 ⟨rfl, rfl, Nat.le_of_ble_eq_true rfl, Nat.le_of_ble_eq_true rfl⟩ ⟨Nat.le_of_ble_eq_true rfl, Nat.le_of_ble_eq_true rfl⟩ jE  hl (rest := []) rfl (Nat.le_of_ble_eq_true rfl) ?_
  refine lv_if_eq (tgt := 18) hx hb dX8_seatsAgain_4 (by decide) (fun c9 => ?_) (fun c9 => ?_)
  · have hV := jT1 hV c9
    refine lv_iconst (v := 0) hx hb dX8_seatsAgain_18 (by decide) ?_
    refine jSx C dX8_seatsAgain_19 (kx_X8_checkArgument l hl0 D G ks va (0 : Int32)) jy_X8_checkArgument jq_11_20 jq_11_21 ⟨Nat.le_of_ble_eq_true rfl, Nat.le_of_ble_eq_true rfl⟩ ⟨Nat.le_of_ble_eq_true rfl, Nat.le_of_ble_eq_true rfl⟩ hZ jE (jDnd.mpr ⟨List.nodup_nil, fun q h => nomatch h⟩) hA hS hl (rest := []) rfl (Nat.le_of_ble_eq_true rfl) (fun H locs hQ hz hkp hS => ⟨fun hk => ?_, fun hk ce q hce hcv hcl => ?_⟩)
    · have hP : va_P D vwCl (wTS B G M) H := hP.kept (fun k q hq => hkp q.1 (hP k q hq).lt (fun h => h.elim (fun ⟨_, _, h⟩ => by simp at h) (fun h => Nat.lt_irrefl _ (Nat.lt_of_lt_of_le (hP k q hq).lt h))))
      have hV := jT1 hV hk
      refine W.eq (g2 := F0 m 22 ls []) rfl ?_
      refine lv_iconst (v := 0) hx hb dX8_seatsAgain_22 (by decide) ?_
      refine lv_istore_n (lv' := [(3, .int (0 : Int32)), (0, .ref (B 9 0)), (1, .int v1), (2, .int v2)]) hx hb dX8_seatsAgain_23 rfl hl (by decide) rfl (fun ls hl => ?_)
      refine lv_iconst (v := 0) hx hb dX8_seatsAgain_24 (by decide) ?_
      refine lv_istore (lv' := [(4, .int (0 : Int32)), (3, .int (0 : Int32)), (0, .ref (B 9 0)), (1, .int v1), (2, .int v2)]) hx hb dX8_seatsAgain_25 hl (by decide) rfl (fun ls hl => ?_)
      exact B_X8_seatsAgain_27 C hA ks va hZ hno hl0 N B r   N M v1 v2 (0 : Int32) (0 : Int32) _ _ _ hP hD hS (lv_sub hl [2, 3, 4, 1, 0] rfl) hV
    · have hP : va_P D vwCl (wTS B G M) H := hP.kept (fun k q hq => hkp q.1 (hP k q hq).lt (fun h => h.elim (fun ⟨_, _, h⟩ => by simp at h) (fun h => Nat.lt_irrefl _ (Nat.lt_of_lt_of_le (hP k q hq).lt h))))
      have hV := jF1 hV hk
      cases hV
      exact xOut C hno hk hce hcv hcl (by decide) (by decide) hP hS
  · have hV := jF1 hV c9
    refine lv_iload_n hx hb dX8_seatsAgain_7 rfl (lv_at hl 2 rfl) ?_
    refine jSpI C dX8_seatsAgain_8 (kt_X8_isSeatKind l D G    v2) jy_X8_isSeatKind jq_35_0 jq_35_1 ⟨rfl, rfl, Nat.le_of_ble_eq_true rfl, Nat.le_of_ble_eq_true rfl⟩ ⟨Nat.le_of_ble_eq_true rfl, Nat.le_of_ble_eq_true rfl⟩ jE  hl (rest := []) rfl (Nat.le_of_ble_eq_true rfl) ?_
    refine lv_if_eq (tgt := 18) hx hb dX8_seatsAgain_11 (by decide) (fun c8 => ?_) (fun c8 => ?_)
    · have hV := jT1 hV c8
      refine lv_iconst (v := 0) hx hb dX8_seatsAgain_18 (by decide) ?_
      refine jSx C dX8_seatsAgain_19 (kx_X8_checkArgument l hl0 D G ks va (0 : Int32)) jy_X8_checkArgument jq_11_20 jq_11_21 ⟨Nat.le_of_ble_eq_true rfl, Nat.le_of_ble_eq_true rfl⟩ ⟨Nat.le_of_ble_eq_true rfl, Nat.le_of_ble_eq_true rfl⟩ hZ jE (jDnd.mpr ⟨List.nodup_nil, fun q h => nomatch h⟩) hA hS hl (rest := []) rfl (Nat.le_of_ble_eq_true rfl) (fun H locs hQ hz hkp hS => ⟨fun hk => ?_, fun hk ce q hce hcv hcl => ?_⟩)
      · have hP : va_P D vwCl (wTS B G M) H := hP.kept (fun k q hq => hkp q.1 (hP k q hq).lt (fun h => h.elim (fun ⟨_, _, h⟩ => by simp at h) (fun h => Nat.lt_irrefl _ (Nat.lt_of_lt_of_le (hP k q hq).lt h))))
        have hV := jT1 hV hk
        refine W.eq (g2 := F0 m 22 ls []) rfl ?_
        refine lv_iconst (v := 0) hx hb dX8_seatsAgain_22 (by decide) ?_
        refine lv_istore_n (lv' := [(3, .int (0 : Int32)), (0, .ref (B 9 0)), (1, .int v1), (2, .int v2)]) hx hb dX8_seatsAgain_23 rfl hl (by decide) rfl (fun ls hl => ?_)
        refine lv_iconst (v := 0) hx hb dX8_seatsAgain_24 (by decide) ?_
        refine lv_istore (lv' := [(4, .int (0 : Int32)), (3, .int (0 : Int32)), (0, .ref (B 9 0)), (1, .int v1), (2, .int v2)]) hx hb dX8_seatsAgain_25 hl (by decide) rfl (fun ls hl => ?_)
        exact B_X8_seatsAgain_27 C hA ks va hZ hno hl0 N B r   N M v1 v2 (0 : Int32) (0 : Int32) _ _ _ hP hD hS (lv_sub hl [2, 3, 4, 1, 0] rfl) hV
      · have hP : va_P D vwCl (wTS B G M) H := hP.kept (fun k q hq => hkp q.1 (hP k q hq).lt (fun h => h.elim (fun ⟨_, _, h⟩ => by simp at h) (fun h => Nat.lt_irrefl _ (Nat.lt_of_lt_of_le (hP k q hq).lt h))))
        have hV := jF1 hV hk
        cases hV
        exact xOut C hno hk hce hcv hcl (by decide) (by decide) hP hS
    · have hV := jF1 hV c8
      refine lv_iconst (v := 1) hx hb dX8_seatsAgain_14 (by decide) ?_
      refine lv_goto (tgt := 19) hx hb dX8_seatsAgain_15 (by decide) ?_
      refine jSx C dX8_seatsAgain_19 (kx_X8_checkArgument l hl0 D G ks va (1 : Int32)) jy_X8_checkArgument jq_11_20 jq_11_21 ⟨Nat.le_of_ble_eq_true rfl, Nat.le_of_ble_eq_true rfl⟩ ⟨Nat.le_of_ble_eq_true rfl, Nat.le_of_ble_eq_true rfl⟩ hZ jE (jDnd.mpr ⟨List.nodup_nil, fun q h => nomatch h⟩) hA hS hl (rest := []) rfl (Nat.le_of_ble_eq_true rfl) (fun H locs hQ hz hkp hS => ⟨fun hk => ?_, fun hk ce q hce hcv hcl => ?_⟩)
      · have hP : va_P D vwCl (wTS B G M) H := hP.kept (fun k q hq => hkp q.1 (hP k q hq).lt (fun h => h.elim (fun ⟨_, _, h⟩ => by simp at h) (fun h => Nat.lt_irrefl _ (Nat.lt_of_lt_of_le (hP k q hq).lt h))))
        have hV := jT1 hV hk
        refine W.eq (g2 := F0 m 22 ls []) rfl ?_
        refine lv_iconst (v := 0) hx hb dX8_seatsAgain_22 (by decide) ?_
        refine lv_istore_n (lv' := [(3, .int (0 : Int32)), (0, .ref (B 9 0)), (1, .int v1), (2, .int v2)]) hx hb dX8_seatsAgain_23 rfl hl (by decide) rfl (fun ls hl => ?_)
        refine lv_iconst (v := 0) hx hb dX8_seatsAgain_24 (by decide) ?_
        refine lv_istore (lv' := [(4, .int (0 : Int32)), (3, .int (0 : Int32)), (0, .ref (B 9 0)), (1, .int v1), (2, .int v2)]) hx hb dX8_seatsAgain_25 hl (by decide) rfl (fun ls hl => ?_)
        exact B_X8_seatsAgain_27 C hA ks va hZ hno hl0 N B r   N M v1 v2 (0 : Int32) (0 : Int32) _ _ _ hP hD hS (lv_sub hl [2, 3, 4, 1, 0] rfl) hV
      · have hP : va_P D vwCl (wTS B G M) H := hP.kept (fun k q hq => hkp q.1 (hP k q hq).lt (fun h => h.elim (fun ⟨_, _, h⟩ => by simp at h) (fun h => Nat.lt_irrefl _ (Nat.lt_of_lt_of_le (hP k q hq).lt h))))
        have hV := jF1 hV hk
        cases hV
        exact xOut C hno hk hce hcv hcl (by decide) (by decide) hP hS
theorem jy_X8_subscribe : jY yX8_subscribe cX8_subscribe 2 (some .int) 1 := ⟨by decide +kernel, jq_36_14, jq_1_2⟩
def F_X8_subscribe (N : Nat)  (M : Nat → Nat → Nat → Int32) (v1 : Int32) : Option (Int32 × Int32 × (Nat → Nat → Nat → Int32)) := (jlet (hOpen M) (fun M2 => ((F_X6_makeSubscription N (M2 0) v1).bind (fun r3 => (jlet (u1 M2 0 r3.2) (fun M4 => ((F_X8_closeChange N M4 r3.1).bind (fun r5 => (if r5.1 = 0 then (some ((0 : Int32), r5.2.1, r5.2.2)) else (some (r5.1, (0 : Int32), r5.2.2)))))))))))
set_option maxHeartbeats 4000000 in
set_option maxRecDepth 100000 in
theorem k_X8_subscribe (l : Launch) (hl0 : l.stackTraces = false) (D : va_G) (G : Nat → ClassId) (B : Nat → Nat → Nat) (ks va : Nat → Nat) (N : Nat) (M : Nat → Nat → Nat → Int32) (v1 : Int32) (r : (Int32 × Int32 × (Nat → Nat → Nat → Int32))) (hV : F_X8_subscribe N  M v1 = some r) : xM l yX8_subscribe (jws yX8_subscribe cX8_subscribe 2 (some .int)) ({ frames := 9, cells := 3, slots := 18, locals := 211 } : Room) [.ref (B 9 0), .int v1] D G ks va (wTS B G M) (wTS B G r.2.2) r.1 (some (.int r.2.1)) := by
  refine xM_of (by decide +kernel) (Nat.le_of_ble_eq_true rfl) (fun p e s m args below meth c ls A C hno hP hD hA hZ hl => ?_)
  have C : Cx p s m args meth c cX8_subscribe 2 RX8 (some .int) D G := C
  have hS : va_S A s.heap s.heap [] := va_S.rf
  obtain ⟨hx, hb, hr, hml, hts, hown, hlocks, hK0⟩ := id C
  have hK := hK0.1
  have hl : lv_has ls 2 [(0, .ref (B 9 0)), (1, .int v1)] := hl
  rw [F_X8_subscribe] at hV
  refine lv_aload_n hx hb dX8_subscribe_0 rfl (lv_at hl 0 rfl) ?_
  refine va_get (D := D) (ci := 10) (v := .ref (B 9 1)) (C := RX8) (T := TX8) (N := 8) hx hb hts ju_X8 hown hK hP 0 rfl rfl 2 (by decide) (hts _ jq_1_22) (fun _ h9 => h9) rfl dX8_subscribe_1 ?_
  refine lv_aload_n hx hb dX8_subscribe_4 rfl (lv_at hl 0 rfl) ?_
  refine va_get (D := D) (ci := 10) (v := .ref (B 0 0)) (C := RX8) (T := TX8) (N := 8) hx hb hts ju_X8 hown hK hP 0 rfl rfl 0 (by decide) (hts _ jq_1_17) (fun _ h9 => h9) rfl dX8_subscribe_5 ?_
  refine jVmV C dX8_subscribe_8 (kt_X0_open l D G B  M ) jy_X0_open jq_6_16 jq_6_17 jq_6_18 ⟨rfl, rfl, Nat.le_of_ble_eq_true rfl, Nat.le_of_ble_eq_true rfl⟩ ⟨Nat.le_of_ble_eq_true rfl, Nat.le_of_ble_eq_true rfl⟩ hP hD hA hS (ci := 2) (iw := 1) rfl rfl rfl hl (rest := []) rfl (Nat.le_of_ble_eq_true rfl) (fun H locs hQ hz hkp hS => ?_)
  obtain ⟨M2, e7, hV⟩ := jLet hV
  have hP : va_P D vwCl (wTS B G M2) H := by rw [e7]; exact jHist hP hD hkp hQ
  have hD : va_D A (wTS B G M2) := jD (w := (wTS B G M)) (dTS _ _) hD
  refine lv_aload_n hx hb dX8_subscribe_11 rfl (lv_at hl 0 rfl) ?_
  refine lv_aload_n hx hb dX8_subscribe_12 rfl (lv_at hl 0 rfl) ?_
  refine va_get (D := D) (ci := 10) (v := .ref (B 0 0)) (C := RX8) (T := TX8) (N := 8) hx hb hts ju_X8 hown hK hP 0 rfl rfl 0 (by decide) (hts _ jq_1_17) (fun _ h9 => h9) rfl dX8_subscribe_13 ?_
  refine lv_iload_n hx hb dX8_subscribe_16 rfl (lv_at hl 1 rfl) ?_
  obtain ⟨r3, hr3, hV⟩ := jBind hV
  refine jVmI C dX8_subscribe_17 (k_X6_makeSubscription l D G (B 0) N (M2 0) v1 r3 hr3) jy_X6_makeSubscription jq_36_15 jq_36_16 jq_36_17 ⟨rfl, rfl, Nat.le_of_ble_eq_true rfl, Nat.le_of_ble_eq_true rfl⟩ ⟨Nat.le_of_ble_eq_true rfl, Nat.le_of_ble_eq_true rfl⟩ (sTS_0 hP) (dTS_0 hD) hA hS (ci := 8) (iw := 0) rfl rfl rfl hl (rest := [.ref (B 9 0)]) rfl (Nat.le_of_ble_eq_true rfl) (fun H locs hQ hz hkp hS => ?_)
  obtain ⟨M4, e6, hV⟩ := jLet hV
  have hP : va_P D vwCl (wTS B G M4) H := by rw [e6]; exact jTS_0 hP hD hkp hQ
  have hD : va_D A (wTS B G M4) := jD (w := (wTS B G M2)) (dTS _ _) hD
  obtain ⟨r5, hr5, hV⟩ := jBind hV
  refine jVx C dX8_subscribe_20 (k_X8_closeChange l hl0 D G B ks va N M4 r3.1 r5 hr5) jy_X8_closeChange jq_10_23 jq_11_0 jq_11_1 ⟨Nat.le_of_ble_eq_true rfl, Nat.le_of_ble_eq_true rfl⟩ ⟨Nat.le_of_ble_eq_true rfl, Nat.le_of_ble_eq_true rfl⟩ hZ hP hD hA hS (ci := 10) (iw := 0) rfl rfl rfl hl (rest := []) rfl (Nat.le_of_ble_eq_true rfl) (fun H locs hQ hz hkp hS => ⟨fun hk => ?_, fun hk ce q hce hcv hcl => ?_⟩)
  · have hP : va_P D vwCl (wTS B G r5.2.2) H := hQ
    have hD : va_D A (wTS B G r5.2.2) := jD (w := (wTS B G M4)) (dTS _ _) hD
    have hV := jT1 hV hk
    refine W.eq (g2 := F0 m 23 ls [.int r5.2.1]) rfl ?_
    cases hV
    exact xRet C rfl dX8_subscribe_23 rfl rfl rfl (by decide) (by decide) hP hS
  · have hP : va_P D vwCl (wTS B G r5.2.2) H := hQ
    have hD : va_D A (wTS B G r5.2.2) := jD (w := (wTS B G M4)) (dTS _ _) hD
    have hV := jF1 hV hk
    cases hV
    exact xOut C hno hk hce hcv hcl (by decide) (by decide) hP hS
theorem jy_X8_hold : jY yX8_hold cX8_hold 3 (some .int) 2 := ⟨by decide +kernel, jq_37_14, jq_1_2⟩
def F_X8_hold (N : Nat)  (M : Nat → Nat → Nat → Int32) (v1 v2 : Int32) : Option (Int32 × Int32 × (Nat → Nat → Nat → Int32)) := (jlet (hOpen M) (fun M2 => ((F_X6_holdSeats N (M2 0) v1 v2).bind (fun r3 => (jlet (u1 M2 0 r3.2) (fun M4 => ((F_X8_closeChange N M4 r3.1).bind (fun r5 => (if r5.1 = 0 then (some ((0 : Int32), r5.2.1, r5.2.2)) else (some (r5.1, (0 : Int32), r5.2.2)))))))))))
set_option maxHeartbeats 4000000 in
set_option maxRecDepth 100000 in
theorem k_X8_hold (l : Launch) (hl0 : l.stackTraces = false) (D : va_G) (G : Nat → ClassId) (B : Nat → Nat → Nat) (ks va : Nat → Nat) (N : Nat) (M : Nat → Nat → Nat → Int32) (v1 v2 : Int32) (r : (Int32 × Int32 × (Nat → Nat → Nat → Int32))) (hV : F_X8_hold N  M v1 v2 = some r) : xM l yX8_hold (jws yX8_hold cX8_hold 3 (some .int)) ({ frames := 9, cells := 3, slots := 18, locals := 211 } : Room) [.ref (B 9 0), .int v1, .int v2] D G ks va (wTS B G M) (wTS B G r.2.2) r.1 (some (.int r.2.1)) := by
  refine xM_of (by decide +kernel) (Nat.le_of_ble_eq_true rfl) (fun p e s m args below meth c ls A C hno hP hD hA hZ hl => ?_)
  have C : Cx p s m args meth c cX8_hold 3 RX8 (some .int) D G := C
  have hS : va_S A s.heap s.heap [] := va_S.rf
  obtain ⟨hx, hb, hr, hml, hts, hown, hlocks, hK0⟩ := id C
  have hK := hK0.1
  have hl : lv_has ls 3 [(0, .ref (B 9 0)), (1, .int v1), (2, .int v2)] := hl
  rw [F_X8_hold] at hV
  refine lv_aload_n hx hb dX8_hold_0 rfl (lv_at hl 0 rfl) ?_
  refine va_get (D := D) (ci := 10) (v := .ref (B 9 1)) (C := RX8) (T := TX8) (N := 8) hx hb hts ju_X8 hown hK hP 0 rfl rfl 2 (by decide) (hts _ jq_1_22) (fun _ h9 => h9) rfl dX8_hold_1 ?_
  refine lv_aload_n hx hb dX8_hold_4 rfl (lv_at hl 0 rfl) ?_
  refine va_get (D := D) (ci := 10) (v := .ref (B 0 0)) (C := RX8) (T := TX8) (N := 8) hx hb hts ju_X8 hown hK hP 0 rfl rfl 0 (by decide) (hts _ jq_1_17) (fun _ h9 => h9) rfl dX8_hold_5 ?_
  refine jVmV C dX8_hold_8 (kt_X0_open l D G B  M ) jy_X0_open jq_6_16 jq_6_17 jq_6_18 ⟨rfl, rfl, Nat.le_of_ble_eq_true rfl, Nat.le_of_ble_eq_true rfl⟩ ⟨Nat.le_of_ble_eq_true rfl, Nat.le_of_ble_eq_true rfl⟩ hP hD hA hS (ci := 2) (iw := 1) rfl rfl rfl hl (rest := []) rfl (Nat.le_of_ble_eq_true rfl) (fun H locs hQ hz hkp hS => ?_)
  obtain ⟨M2, e7, hV⟩ := jLet hV
  have hP : va_P D vwCl (wTS B G M2) H := by rw [e7]; exact jHist hP hD hkp hQ
  have hD : va_D A (wTS B G M2) := jD (w := (wTS B G M)) (dTS _ _) hD
  refine lv_aload_n hx hb dX8_hold_11 rfl (lv_at hl 0 rfl) ?_
  refine lv_aload_n hx hb dX8_hold_12 rfl (lv_at hl 0 rfl) ?_
  refine va_get (D := D) (ci := 10) (v := .ref (B 0 0)) (C := RX8) (T := TX8) (N := 8) hx hb hts ju_X8 hown hK hP 0 rfl rfl 0 (by decide) (hts _ jq_1_17) (fun _ h9 => h9) rfl dX8_hold_13 ?_
  refine lv_iload_n hx hb dX8_hold_16 rfl (lv_at hl 1 rfl) ?_
  refine lv_iload_n hx hb dX8_hold_17 rfl (lv_at hl 2 rfl) ?_
  obtain ⟨r3, hr3, hV⟩ := jBind hV
  refine jVmI C dX8_hold_18 (k_X6_holdSeats l D G (B 0) N (M2 0) v1 v2 r3 hr3) jy_X6_holdSeats jq_37_15 jq_37_16 jq_37_17 ⟨rfl, rfl, Nat.le_of_ble_eq_true rfl, Nat.le_of_ble_eq_true rfl⟩ ⟨Nat.le_of_ble_eq_true rfl, Nat.le_of_ble_eq_true rfl⟩ (sTS_0 hP) (dTS_0 hD) hA hS (ci := 8) (iw := 0) rfl rfl rfl hl (rest := [.ref (B 9 0)]) rfl (Nat.le_of_ble_eq_true rfl) (fun H locs hQ hz hkp hS => ?_)
  obtain ⟨M4, e6, hV⟩ := jLet hV
  have hP : va_P D vwCl (wTS B G M4) H := by rw [e6]; exact jTS_0 hP hD hkp hQ
  have hD : va_D A (wTS B G M4) := jD (w := (wTS B G M2)) (dTS _ _) hD
  obtain ⟨r5, hr5, hV⟩ := jBind hV
  refine jVx C dX8_hold_21 (k_X8_closeChange l hl0 D G B ks va N M4 r3.1 r5 hr5) jy_X8_closeChange jq_10_23 jq_11_0 jq_11_1 ⟨Nat.le_of_ble_eq_true rfl, Nat.le_of_ble_eq_true rfl⟩ ⟨Nat.le_of_ble_eq_true rfl, Nat.le_of_ble_eq_true rfl⟩ hZ hP hD hA hS (ci := 10) (iw := 0) rfl rfl rfl hl (rest := []) rfl (Nat.le_of_ble_eq_true rfl) (fun H locs hQ hz hkp hS => ⟨fun hk => ?_, fun hk ce q hce hcv hcl => ?_⟩)
  · have hP : va_P D vwCl (wTS B G r5.2.2) H := hQ
    have hD : va_D A (wTS B G r5.2.2) := jD (w := (wTS B G M4)) (dTS _ _) hD
    have hV := jT1 hV hk
    refine W.eq (g2 := F0 m 24 ls [.int r5.2.1]) rfl ?_
    cases hV
    exact xRet C rfl dX8_hold_24 rfl rfl rfl (by decide) (by decide) hP hS
  · have hP : va_P D vwCl (wTS B G r5.2.2) H := hQ
    have hD : va_D A (wTS B G r5.2.2) := jD (w := (wTS B G M4)) (dTS _ _) hD
    have hV := jF1 hV hk
    cases hV
    exact xOut C hno hk hce hcv hcl (by decide) (by decide) hP hS
theorem jy_X8_release : jY yX8_release cX8_release 3 (some .int) 2 := ⟨by decide +kernel, jq_39_8, jq_1_2⟩
def F_X8_release (N : Nat)  (M : Nat → Nat → Nat → Int32) (v1 v2 : Int32) : Option (Int32 × Int32 × (Nat → Nat → Nat → Int32)) := (jlet (hOpen M) (fun M2 => ((F_X6_releaseSeats N (M2 0) v1 v2).bind (fun r3 => (jlet (u1 M2 0 r3.2) (fun M4 => ((F_X8_closeChange N M4 r3.1).bind (fun r5 => (if r5.1 = 0 then (some ((0 : Int32), r5.2.1, r5.2.2)) else (some (r5.1, (0 : Int32), r5.2.2)))))))))))
set_option maxHeartbeats 4000000 in
set_option maxRecDepth 100000 in
theorem k_X8_release (l : Launch) (hl0 : l.stackTraces = false) (D : va_G) (G : Nat → ClassId) (B : Nat → Nat → Nat) (ks va : Nat → Nat) (N : Nat) (M : Nat → Nat → Nat → Int32) (v1 v2 : Int32) (r : (Int32 × Int32 × (Nat → Nat → Nat → Int32))) (hV : F_X8_release N  M v1 v2 = some r) : xM l yX8_release (jws yX8_release cX8_release 3 (some .int)) ({ frames := 9, cells := 3, slots := 18, locals := 211 } : Room) [.ref (B 9 0), .int v1, .int v2] D G ks va (wTS B G M) (wTS B G r.2.2) r.1 (some (.int r.2.1)) := by
  refine xM_of (by decide +kernel) (Nat.le_of_ble_eq_true rfl) (fun p e s m args below meth c ls A C hno hP hD hA hZ hl => ?_)
  have C : Cx p s m args meth c cX8_release 3 RX8 (some .int) D G := C
  have hS : va_S A s.heap s.heap [] := va_S.rf
  obtain ⟨hx, hb, hr, hml, hts, hown, hlocks, hK0⟩ := id C
  have hK := hK0.1
  have hl : lv_has ls 3 [(0, .ref (B 9 0)), (1, .int v1), (2, .int v2)] := hl
  rw [F_X8_release] at hV
  refine lv_aload_n hx hb dX8_release_0 rfl (lv_at hl 0 rfl) ?_
  refine va_get (D := D) (ci := 10) (v := .ref (B 9 1)) (C := RX8) (T := TX8) (N := 8) hx hb hts ju_X8 hown hK hP 0 rfl rfl 2 (by decide) (hts _ jq_1_22) (fun _ h9 => h9) rfl dX8_release_1 ?_
  refine lv_aload_n hx hb dX8_release_4 rfl (lv_at hl 0 rfl) ?_
  refine va_get (D := D) (ci := 10) (v := .ref (B 0 0)) (C := RX8) (T := TX8) (N := 8) hx hb hts ju_X8 hown hK hP 0 rfl rfl 0 (by decide) (hts _ jq_1_17) (fun _ h9 => h9) rfl dX8_release_5 ?_
  refine jVmV C dX8_release_8 (kt_X0_open l D G B  M ) jy_X0_open jq_6_16 jq_6_17 jq_6_18 ⟨rfl, rfl, Nat.le_of_ble_eq_true rfl, Nat.le_of_ble_eq_true rfl⟩ ⟨Nat.le_of_ble_eq_true rfl, Nat.le_of_ble_eq_true rfl⟩ hP hD hA hS (ci := 2) (iw := 1) rfl rfl rfl hl (rest := []) rfl (Nat.le_of_ble_eq_true rfl) (fun H locs hQ hz hkp hS => ?_)
  obtain ⟨M2, e7, hV⟩ := jLet hV
  have hP : va_P D vwCl (wTS B G M2) H := by rw [e7]; exact jHist hP hD hkp hQ
  have hD : va_D A (wTS B G M2) := jD (w := (wTS B G M)) (dTS _ _) hD
  refine lv_aload_n hx hb dX8_release_11 rfl (lv_at hl 0 rfl) ?_
  refine lv_aload_n hx hb dX8_release_12 rfl (lv_at hl 0 rfl) ?_
  refine va_get (D := D) (ci := 10) (v := .ref (B 0 0)) (C := RX8) (T := TX8) (N := 8) hx hb hts ju_X8 hown hK hP 0 rfl rfl 0 (by decide) (hts _ jq_1_17) (fun _ h9 => h9) rfl dX8_release_13 ?_
  refine lv_iload_n hx hb dX8_release_16 rfl (lv_at hl 1 rfl) ?_
  refine lv_iload_n hx hb dX8_release_17 rfl (lv_at hl 2 rfl) ?_
  obtain ⟨r3, hr3, hV⟩ := jBind hV
  refine jVmI C dX8_release_18 (k_X6_releaseSeats l D G (B 0) N (M2 0) v1 v2 r3 hr3) jy_X6_releaseSeats jq_39_9 jq_39_10 jq_39_11 ⟨rfl, rfl, Nat.le_of_ble_eq_true rfl, Nat.le_of_ble_eq_true rfl⟩ ⟨Nat.le_of_ble_eq_true rfl, Nat.le_of_ble_eq_true rfl⟩ (sTS_0 hP) (dTS_0 hD) hA hS (ci := 8) (iw := 0) rfl rfl rfl hl (rest := [.ref (B 9 0)]) rfl (Nat.le_of_ble_eq_true rfl) (fun H locs hQ hz hkp hS => ?_)
  obtain ⟨M4, e6, hV⟩ := jLet hV
  have hP : va_P D vwCl (wTS B G M4) H := by rw [e6]; exact jTS_0 hP hD hkp hQ
  have hD : va_D A (wTS B G M4) := jD (w := (wTS B G M2)) (dTS _ _) hD
  obtain ⟨r5, hr5, hV⟩ := jBind hV
  refine jVx C dX8_release_21 (k_X8_closeChange l hl0 D G B ks va N M4 r3.1 r5 hr5) jy_X8_closeChange jq_10_23 jq_11_0 jq_11_1 ⟨Nat.le_of_ble_eq_true rfl, Nat.le_of_ble_eq_true rfl⟩ ⟨Nat.le_of_ble_eq_true rfl, Nat.le_of_ble_eq_true rfl⟩ hZ hP hD hA hS (ci := 10) (iw := 0) rfl rfl rfl hl (rest := []) rfl (Nat.le_of_ble_eq_true rfl) (fun H locs hQ hz hkp hS => ⟨fun hk => ?_, fun hk ce q hce hcv hcl => ?_⟩)
  · have hP : va_P D vwCl (wTS B G r5.2.2) H := hQ
    have hD : va_D A (wTS B G r5.2.2) := jD (w := (wTS B G M4)) (dTS _ _) hD
    have hV := jT1 hV hk
    refine W.eq (g2 := F0 m 24 ls [.int r5.2.1]) rfl ?_
    cases hV
    exact xRet C rfl dX8_release_24 rfl rfl rfl (by decide) (by decide) hP hS
  · have hP : va_P D vwCl (wTS B G r5.2.2) H := hQ
    have hD : va_D A (wTS B G r5.2.2) := jD (w := (wTS B G M4)) (dTS _ _) hD
    have hV := jF1 hV hk
    cases hV
    exact xOut C hno hk hce hcv hcl (by decide) (by decide) hP hS
theorem jy_X8_exchange : jY yX8_exchange cX8_exchange 4 (some .int) 3 := ⟨by decide +kernel, jq_40_7, jq_1_2⟩
def F_X8_exchange (N : Nat)  (M : Nat → Nat → Nat → Int32) (v1 v2 v3 : Int32) : Option (Int32 × Int32 × (Nat → Nat → Nat → Int32)) := (jlet (hOpen M) (fun M2 => ((F_X6_exchangeSeats N (M2 0) v1 v2 v3).bind (fun r3 => (jlet (u1 M2 0 r3.2) (fun M4 => ((F_X8_closeChange N M4 r3.1).bind (fun r5 => (if r5.1 = 0 then (some ((0 : Int32), r5.2.1, r5.2.2)) else (some (r5.1, (0 : Int32), r5.2.2)))))))))))
set_option maxHeartbeats 4000000 in
set_option maxRecDepth 100000 in
theorem k_X8_exchange (l : Launch) (hl0 : l.stackTraces = false) (D : va_G) (G : Nat → ClassId) (B : Nat → Nat → Nat) (ks va : Nat → Nat) (N : Nat) (M : Nat → Nat → Nat → Int32) (v1 v2 v3 : Int32) (r : (Int32 × Int32 × (Nat → Nat → Nat → Int32))) (hV : F_X8_exchange N  M v1 v2 v3 = some r) : xM l yX8_exchange (jws yX8_exchange cX8_exchange 4 (some .int)) ({ frames := 9, cells := 3, slots := 18, locals := 211 } : Room) [.ref (B 9 0), .int v1, .int v2, .int v3] D G ks va (wTS B G M) (wTS B G r.2.2) r.1 (some (.int r.2.1)) := by
  refine xM_of (by decide +kernel) (Nat.le_of_ble_eq_true rfl) (fun p e s m args below meth c ls A C hno hP hD hA hZ hl => ?_)
  have C : Cx p s m args meth c cX8_exchange 4 RX8 (some .int) D G := C
  have hS : va_S A s.heap s.heap [] := va_S.rf
  obtain ⟨hx, hb, hr, hml, hts, hown, hlocks, hK0⟩ := id C
  have hK := hK0.1
  have hl : lv_has ls 4 [(0, .ref (B 9 0)), (1, .int v1), (2, .int v2), (3, .int v3)] := hl
  rw [F_X8_exchange] at hV
  refine lv_aload_n hx hb dX8_exchange_0 rfl (lv_at hl 0 rfl) ?_
  refine va_get (D := D) (ci := 10) (v := .ref (B 9 1)) (C := RX8) (T := TX8) (N := 8) hx hb hts ju_X8 hown hK hP 0 rfl rfl 2 (by decide) (hts _ jq_1_22) (fun _ h9 => h9) rfl dX8_exchange_1 ?_
  refine lv_aload_n hx hb dX8_exchange_4 rfl (lv_at hl 0 rfl) ?_
  refine va_get (D := D) (ci := 10) (v := .ref (B 0 0)) (C := RX8) (T := TX8) (N := 8) hx hb hts ju_X8 hown hK hP 0 rfl rfl 0 (by decide) (hts _ jq_1_17) (fun _ h9 => h9) rfl dX8_exchange_5 ?_
  refine jVmV C dX8_exchange_8 (kt_X0_open l D G B  M ) jy_X0_open jq_6_16 jq_6_17 jq_6_18 ⟨rfl, rfl, Nat.le_of_ble_eq_true rfl, Nat.le_of_ble_eq_true rfl⟩ ⟨Nat.le_of_ble_eq_true rfl, Nat.le_of_ble_eq_true rfl⟩ hP hD hA hS (ci := 2) (iw := 1) rfl rfl rfl hl (rest := []) rfl (Nat.le_of_ble_eq_true rfl) (fun H locs hQ hz hkp hS => ?_)
  obtain ⟨M2, e7, hV⟩ := jLet hV
  have hP : va_P D vwCl (wTS B G M2) H := by rw [e7]; exact jHist hP hD hkp hQ
  have hD : va_D A (wTS B G M2) := jD (w := (wTS B G M)) (dTS _ _) hD
  refine lv_aload_n hx hb dX8_exchange_11 rfl (lv_at hl 0 rfl) ?_
  refine lv_aload_n hx hb dX8_exchange_12 rfl (lv_at hl 0 rfl) ?_
  refine va_get (D := D) (ci := 10) (v := .ref (B 0 0)) (C := RX8) (T := TX8) (N := 8) hx hb hts ju_X8 hown hK hP 0 rfl rfl 0 (by decide) (hts _ jq_1_17) (fun _ h9 => h9) rfl dX8_exchange_13 ?_
  refine lv_iload_n hx hb dX8_exchange_16 rfl (lv_at hl 1 rfl) ?_
  refine lv_iload_n hx hb dX8_exchange_17 rfl (lv_at hl 2 rfl) ?_
  refine lv_iload_n hx hb dX8_exchange_18 rfl (lv_at hl 3 rfl) ?_
  obtain ⟨r3, hr3, hV⟩ := jBind hV
  refine jVmI C dX8_exchange_19 (k_X6_exchangeSeats l D G (B 0) N (M2 0) v1 v2 v3 r3 hr3) jy_X6_exchangeSeats jq_40_8 jq_40_9 jq_40_10 ⟨rfl, rfl, Nat.le_of_ble_eq_true rfl, Nat.le_of_ble_eq_true rfl⟩ ⟨Nat.le_of_ble_eq_true rfl, Nat.le_of_ble_eq_true rfl⟩ (sTS_0 hP) (dTS_0 hD) hA hS (ci := 8) (iw := 0) rfl rfl rfl hl (rest := [.ref (B 9 0)]) rfl (Nat.le_of_ble_eq_true rfl) (fun H locs hQ hz hkp hS => ?_)
  obtain ⟨M4, e6, hV⟩ := jLet hV
  have hP : va_P D vwCl (wTS B G M4) H := by rw [e6]; exact jTS_0 hP hD hkp hQ
  have hD : va_D A (wTS B G M4) := jD (w := (wTS B G M2)) (dTS _ _) hD
  obtain ⟨r5, hr5, hV⟩ := jBind hV
  refine jVx C dX8_exchange_22 (k_X8_closeChange l hl0 D G B ks va N M4 r3.1 r5 hr5) jy_X8_closeChange jq_10_23 jq_11_0 jq_11_1 ⟨Nat.le_of_ble_eq_true rfl, Nat.le_of_ble_eq_true rfl⟩ ⟨Nat.le_of_ble_eq_true rfl, Nat.le_of_ble_eq_true rfl⟩ hZ hP hD hA hS (ci := 10) (iw := 0) rfl rfl rfl hl (rest := []) rfl (Nat.le_of_ble_eq_true rfl) (fun H locs hQ hz hkp hS => ⟨fun hk => ?_, fun hk ce q hce hcv hcl => ?_⟩)
  · have hP : va_P D vwCl (wTS B G r5.2.2) H := hQ
    have hD : va_D A (wTS B G r5.2.2) := jD (w := (wTS B G M4)) (dTS _ _) hD
    have hV := jT1 hV hk
    refine W.eq (g2 := F0 m 25 ls [.int r5.2.1]) rfl ?_
    cases hV
    exact xRet C rfl dX8_exchange_25 rfl rfl rfl (by decide) (by decide) hP hS
  · have hP : va_P D vwCl (wTS B G r5.2.2) H := hQ
    have hD : va_D A (wTS B G r5.2.2) := jD (w := (wTS B G M4)) (dTS _ _) hD
    have hV := jF1 hV hk
    cases hV
    exact xOut C hno hk hce hcv hcl (by decide) (by decide) hP hS
theorem jy_X8_subscription : jY yX8_subscription cX8_subscription 4 (some .int) 2 := ⟨by decide +kernel, jq_41_6, jq_1_2⟩
def F_X8_subscription (N : Nat)  (M : Nat → Nat → Nat → Int32) (v1 v2 : Int32) : Option (Int32 × Int32 × (Nat → Nat → Nat → Int32)) := ((F_X7_has N (M 0) v1).bind (fun r1 => (if (ckIndex r1) = 0 then ((F_X2_heldFor N (M 0) v1).bind (fun r3 => (if v2 = 0 then (some ((0 : Int32), (rg 10 (M 0 13) v1), M)) else (if v2 = 1 then (some ((0 : Int32), (bcnt r3), M)) else (if v2 = 2 then (some ((0 : Int32), (rg 10 (M 0 14) v1), M)) else (if v2 = 3 then (some ((0 : Int32), r3, M)) else (some ((2 : Int32), (0 : Int32), M)))))))) else (some ((ckIndex r1), (0 : Int32), M)))))
set_option maxHeartbeats 4000000 in
set_option maxRecDepth 100000 in
theorem k_X8_subscription (l : Launch) (hl0 : l.stackTraces = false) (D : va_G) (G : Nat → ClassId) (B : Nat → Nat → Nat) (ks va : Nat → Nat) (N : Nat) (M : Nat → Nat → Nat → Int32) (v1 v2 : Int32) (r : (Int32 × Int32 × (Nat → Nat → Nat → Int32))) (hV : F_X8_subscription N  M v1 v2 = some r) : xM l yX8_subscription (jws yX8_subscription cX8_subscription 4 (some .int)) ({ frames := 8, cells := 2, slots := 12, locals := 120 } : Room) [.ref (B 9 0), .int v1, .int v2] D G ks va (wTS B G M) (wTS B G r.2.2) r.1 (some (.int r.2.1)) := by
  refine xM_of (by decide +kernel) (Nat.le_of_ble_eq_true rfl) (fun p e s m args below meth c ls A C hno hP hD hA hZ hl => ?_)
  have C : Cx p s m args meth c cX8_subscription 4 RX8 (some .int) D G := C
  have hS : va_S A s.heap s.heap [] := va_S.rf
  obtain ⟨hx, hb, hr, hml, hts, hown, hlocks, hK0⟩ := id C
  have hK := hK0.1
  have hl : lv_has ls 4 [(0, .ref (B 9 0)), (1, .int v1), (2, .int v2)] := hl
  rw [F_X8_subscription] at hV
  refine lv_aload_n hx hb dX8_subscription_0 rfl (lv_at hl 0 rfl) ?_
  refine va_get (D := D) (ci := 10) (v := .ref (B 0 0)) (C := RX8) (T := TX8) (N := 8) hx hb hts ju_X8 hown hK hP 0 rfl rfl 0 (by decide) (hts _ jq_1_17) (fun _ h9 => h9) rfl dX8_subscription_1 ?_
  refine va_getN (D := D) (ci := 8) (v := .ref (B 0 38)) (C := RX6) (T := TX6) (N := 7) (host := "TheatreSeasons") hx hb hts ju_X6 hown hK (sTS_0 hP) 0 rfl rfl 5 (by decide) (va_Nw.use rfl (hK0.2 _ jn_36)) (fun _ h9 => h9) rfl dX8_subscription_4 ?_
  refine lv_iload_n hx hb dX8_subscription_7 rfl (lv_at hl 1 rfl) ?_
  obtain ⟨r1, hr1, hV⟩ := jBind hV
  refine jVpI C dX8_subscription_8 (k_X7_has l D G (B 0) N (M 0) v1 r1 hr1) jy_X7_has jq_41_7 jq_37_20 jq_37_21 ⟨rfl, rfl, Nat.le_of_ble_eq_true rfl, Nat.le_of_ble_eq_true rfl⟩ ⟨Nat.le_of_ble_eq_true rfl, Nat.le_of_ble_eq_true rfl⟩ (sX6_X7 (sTS_0 hP))  (ci := 9) (iw := 0) rfl rfl rfl hl (rest := []) rfl (Nat.le_of_ble_eq_true rfl) ?_
  refine jSx C dX8_subscription_11 (kx_X8_checkIndex l hl0 D G ks va r1) jy_X8_checkIndex jq_11_15 jq_11_16 ⟨Nat.le_of_ble_eq_true rfl, Nat.le_of_ble_eq_true rfl⟩ ⟨Nat.le_of_ble_eq_true rfl, Nat.le_of_ble_eq_true rfl⟩ hZ jE (jDnd.mpr ⟨List.nodup_nil, fun q h => nomatch h⟩) hA hS hl (rest := []) rfl (Nat.le_of_ble_eq_true rfl) (fun H locs hQ hz hkp hS => ⟨fun hk => ?_, fun hk ce q hce hcv hcl => ?_⟩)
  · have hP : va_P D vwCl (wTS B G M) H := hP.kept (fun k q hq => hkp q.1 (hP k q hq).lt (fun h => h.elim (fun ⟨_, _, h⟩ => by simp at h) (fun h => Nat.lt_irrefl _ (Nat.lt_of_lt_of_le (hP k q hq).lt h))))
    have hV := jT1 hV hk
    refine W.eq (g2 := F0 m 14 ls []) rfl ?_
    refine lv_aload_n hx hb dX8_subscription_14 rfl (lv_at hl 0 rfl) ?_
    refine va_get (D := D) (ci := 10) (v := .ref (B 0 0)) (C := RX8) (T := TX8) (N := 8) hx hb hts ju_X8 hown hK hP 0 rfl rfl 0 (by decide) (hts _ jq_1_17) (fun _ h9 => h9) rfl dX8_subscription_15 ?_
    refine va_getN (D := D) (ci := 8) (v := .ref (B 0 37)) (C := RX6) (T := TX6) (N := 7) (host := "TheatreSeasons") hx hb hts ju_X6 hown hK (sTS_0 hP) 0 rfl rfl 4 (by decide) (va_Nw.use rfl (hK0.2 _ jn_35)) (fun _ h9 => h9) rfl dX8_subscription_18 ?_
    refine lv_iload_n hx hb dX8_subscription_21 rfl (lv_at hl 1 rfl) ?_
    obtain ⟨r3, hr3, hV⟩ := jBind hV
    refine jVpI C dX8_subscription_22 (k_X2_heldFor l D G (B 0) N (M 0) v1 r3 hr3) jy_X2_heldFor jq_41_8 jq_38_5 jq_38_6 ⟨rfl, rfl, Nat.le_of_ble_eq_true rfl, Nat.le_of_ble_eq_true rfl⟩ ⟨Nat.le_of_ble_eq_true rfl, Nat.le_of_ble_eq_true rfl⟩ (sX6_X2 (sTS_0 hP))  (ci := 4) (iw := 0) rfl rfl rfl hl (rest := []) rfl (Nat.le_of_ble_eq_true rfl) ?_
    refine lv_istore_n (lv' := [(3, .int r3), (0, .ref (B 9 0)), (1, .int v1), (2, .int v2)]) hx hb dX8_subscription_25 rfl hl (by decide) rfl (fun ls hl => ?_)
    refine lv_iload_n hx hb dX8_subscription_26 rfl (lv_at hl 3 rfl) ?_
    by_cases c4_0 : v2 = 0
    · have hV := jT1 hV c4_0
      refine lv_tableIn (tgt := 56) hx hb dX8_subscription_27 (by rw [c4_0]; decide) (by rw [c4_0]; decide) (by rw [c4_0]; rfl) (by decide) ?_
      refine lv_aload_n hx hb dX8_subscription_56 rfl (lv_at hl 1 rfl) ?_
      refine va_get (D := D) (ci := 10) (v := .ref (B 0 0)) (C := RX8) (T := TX8) (N := 8) hx hb hts ju_X8 hown hK hP 0 rfl rfl 0 (by decide) (hts _ jq_1_17) (fun _ h9 => h9) rfl dX8_subscription_57 ?_
      refine va_getN (D := D) (ci := 8) (v := .ref (B 0 38)) (C := RX6) (T := TX6) (N := 7) (host := "TheatreSeasons") hx hb hts ju_X6 hown hK (sTS_0 hP) 0 rfl rfl 5 (by decide) (va_Nw.use rfl (hK0.2 _ jn_36)) (fun _ h9 => h9) rfl dX8_subscription_60 ?_
      refine va_getN (D := D) (ci := 9) (v := .ref (B 0 26)) (C := RX7) (T := TX7) (N := 3) (host := "TheatreSeasons") hx hb hts ju_X7 hown hK (sX6_X7 (sTS_0 hP)) 0 rfl rfl 1 (by decide) (va_Nw.use rfl (hK0.2 _ jn_23)) (fun _ h9 => h9) rfl dX8_subscription_63 ?_
      refine lv_iload_n hx hb dX8_subscription_66 rfl (lv_at hl 2 rfl) ?_
      refine jVpI C dX8_subscription_67 (kt_X5_get l D G (B 0 26) (B 0 27) 10 (Nat.le_of_ble_eq_true rfl) (M 0 13) v1) jy_X5_get jq_21_2 jq_9_6 jq_9_7 ⟨rfl, rfl, Nat.le_of_ble_eq_true rfl, Nat.le_of_ble_eq_true rfl⟩ ⟨Nat.le_of_ble_eq_true rfl, Nat.le_of_ble_eq_true rfl⟩ (sX7_13 (sX6_X7 (sTS_0 hP)))  (ci := 7) (iw := 0) rfl rfl rfl hl (rest := []) rfl (Nat.le_of_ble_eq_true rfl) ?_
      cases hV
      exact xRet C rfl dX8_subscription_70 rfl rfl rfl (by decide) (by decide) hP hS
    · have hV := jF1 hV c4_0
      by_cases c4_1 : v2 = 1
      · have hV := jT1 hV c4_1
        refine lv_tableIn (tgt := 71) hx hb dX8_subscription_27 (by rw [c4_1]; decide) (by rw [c4_1]; decide) (by rw [c4_1]; rfl) (by decide) ?_
        refine lv_iload_n hx hb dX8_subscription_71 rfl (lv_at hl 0 rfl) ?_
        refine jSpI C dX8_subscription_72 (kt_bitCount l D G r3) jy_J6_bitCount_0f7a4 jq_21_3 jq_21_4 ⟨rfl, rfl, Nat.le_of_ble_eq_true rfl, Nat.le_of_ble_eq_true rfl⟩ ⟨Nat.le_of_ble_eq_true rfl, Nat.le_of_ble_eq_true rfl⟩ jE hl (rest := []) rfl (Nat.le_of_ble_eq_true rfl) ?_
        cases hV
        exact xRet C rfl dX8_subscription_75 rfl rfl rfl (by decide) (by decide) hP hS
      · have hV := jF1 hV c4_1
        by_cases c4_2 : v2 = 2
        · have hV := jT1 hV c4_2
          refine lv_tableIn (tgt := 76) hx hb dX8_subscription_27 (by rw [c4_2]; decide) (by rw [c4_2]; decide) (by rw [c4_2]; rfl) (by decide) ?_
          refine lv_aload_n hx hb dX8_subscription_76 rfl (lv_at hl 1 rfl) ?_
          refine va_get (D := D) (ci := 10) (v := .ref (B 0 0)) (C := RX8) (T := TX8) (N := 8) hx hb hts ju_X8 hown hK hP 0 rfl rfl 0 (by decide) (hts _ jq_1_17) (fun _ h9 => h9) rfl dX8_subscription_77 ?_
          refine va_getN (D := D) (ci := 8) (v := .ref (B 0 38)) (C := RX6) (T := TX6) (N := 7) (host := "TheatreSeasons") hx hb hts ju_X6 hown hK (sTS_0 hP) 0 rfl rfl 5 (by decide) (va_Nw.use rfl (hK0.2 _ jn_36)) (fun _ h9 => h9) rfl dX8_subscription_80 ?_
          refine va_getN (D := D) (ci := 9) (v := .ref (B 0 28)) (C := RX7) (T := TX7) (N := 3) (host := "TheatreSeasons") hx hb hts ju_X7 hown hK (sX6_X7 (sTS_0 hP)) 0 rfl rfl 2 (by decide) (va_Nw.use rfl (hK0.2 _ jn_25)) (fun _ h9 => h9) rfl dX8_subscription_83 ?_
          refine lv_iload_n hx hb dX8_subscription_86 rfl (lv_at hl 2 rfl) ?_
          refine jVpI C dX8_subscription_87 (kt_X5_get l D G (B 0 28) (B 0 29) 10 (Nat.le_of_ble_eq_true rfl) (M 0 14) v1) jy_X5_get jq_21_2 jq_9_6 jq_9_7 ⟨rfl, rfl, Nat.le_of_ble_eq_true rfl, Nat.le_of_ble_eq_true rfl⟩ ⟨Nat.le_of_ble_eq_true rfl, Nat.le_of_ble_eq_true rfl⟩ (sX7_14 (sX6_X7 (sTS_0 hP)))  (ci := 7) (iw := 0) rfl rfl rfl hl (rest := []) rfl (Nat.le_of_ble_eq_true rfl) ?_
          cases hV
          exact xRet C rfl dX8_subscription_90 rfl rfl rfl (by decide) (by decide) hP hS
        · have hV := jF1 hV c4_2
          by_cases c4_3 : v2 = 3
          · have hV := jT1 hV c4_3
            refine lv_tableIn (tgt := 91) hx hb dX8_subscription_27 (by rw [c4_3]; decide) (by rw [c4_3]; decide) (by rw [c4_3]; rfl) (by decide) ?_
            refine lv_iload_n hx hb dX8_subscription_91 rfl (lv_at hl 0 rfl) ?_
            cases hV
            exact xRet C rfl dX8_subscription_92 rfl rfl rfl (by decide) (by decide) hP hS
          · have hV := jF1 hV c4_3
            refine jTabDef (tgt := 93) hx hb dX8_subscription_27 (fun k h1 h2 h3 => ?_) (by decide) ?_
            · rcases (show k = 0 ∨ k = 1 ∨ k = 2 ∨ k = 3 by omega) with rfl | rfl | rfl | rfl <;> first | rfl | exact absurd (Int32.toInt_inj.mp (h3.trans (by decide))) c4_0 | exact absurd (Int32.toInt_inj.mp (h3.trans (by decide))) c4_1 | exact absurd (Int32.toInt_inj.mp (h3.trans (by decide))) c4_2 | exact absurd (Int32.toInt_inj.mp (h3.trans (by decide))) c4_3
            · obtain ⟨sa5, hsa5⟩ := hZ.2.2.2.2.2.2 _ jms_245
              cases hV
              exact xThrow C hno hl0 (by decide) (by decide) jq_11_23 jq_12_0 hsa5 (xat_118 C) xgd_118_114 hZ hS hA hP hl dX8_subscription_93 dX8_subscription_96 dX8_subscription_97 dX8_subscription_99 dX8_subscription_102 (rest := []) (Nat.le_of_ble_eq_true rfl) (Nat.le_of_ble_eq_true rfl) (Nat.le_of_ble_eq_true rfl) (Nat.le_of_ble_eq_true rfl) (by decide) (by decide) (show (2 : Int32) ≠ 0 by decide) (show exN 2 = "java/lang/IllegalArgumentException" by decide)
  · have hP : va_P D vwCl (wTS B G M) H := hP.kept (fun k q hq => hkp q.1 (hP k q hq).lt (fun h => h.elim (fun ⟨_, _, h⟩ => by simp at h) (fun h => Nat.lt_irrefl _ (Nat.lt_of_lt_of_le (hP k q hq).lt h))))
    have hV := jF1 hV hk
    cases hV
    exact xOut C hno hk hce hcv hcl (by decide) (by decide) hP hS
theorem jy_X8_reason : jY yX8_reason cX8_reason 2 (some .int) 1 := ⟨by decide +kernel, jq_43_2, jq_1_2⟩
def F_X8_reason (N : Nat)  (M : Nat → Nat → Nat → Int32) (v1 : Int32) : Option (Int32 × Int32 × (Nat → Nat → Nat → Int32)) := (if (M 9 0 1) = (-1 : Int32) then (some ((5 : Int32), (0 : Int32), M)) else (if v1 = 0 then (some ((0 : Int32), (M 9 0 1), M)) else (some ((0 : Int32), (M 9 0 2), M))))
set_option maxHeartbeats 4000000 in
set_option maxRecDepth 100000 in
theorem k_X8_reason (l : Launch) (hl0 : l.stackTraces = false) (D : va_G) (G : Nat → ClassId) (B : Nat → Nat → Nat) (ks va : Nat → Nat) (N : Nat) (M : Nat → Nat → Nat → Int32) (v1 : Int32) (r : (Int32 × Int32 × (Nat → Nat → Nat → Int32))) (hV : F_X8_reason N  M v1 = some r) : xM l yX8_reason (jws yX8_reason cX8_reason 2 (some .int)) ({ frames := 7, cells := 1, slots := 6, locals := 100 } : Room) [.ref (B 9 0), .int v1] D G ks va (wTS B G M) (wTS B G r.2.2) r.1 (some (.int r.2.1)) := by
  refine xM_of (by decide +kernel) (Nat.le_of_ble_eq_true rfl) (fun p e s m args below meth c ls A C hno hP hD hA hZ hl => ?_)
  have C : Cx p s m args meth c cX8_reason 2 RX8 (some .int) D G := C
  have hS : va_S A s.heap s.heap [] := va_S.rf
  obtain ⟨hx, hb, hr, hml, hts, hown, hlocks, hK0⟩ := id C
  have hK := hK0.1
  have hl : lv_has ls 2 [(0, .ref (B 9 0)), (1, .int v1)] := hl
  rw [F_X8_reason] at hV
  refine lv_aload_n hx hb dX8_reason_0 rfl (lv_at hl 0 rfl) ?_
  refine va_get (D := D) (ci := 10) (v := .int (M 9 0 1)) (C := RX8) (T := TX8) (N := 8) hx hb hts ju_X8 hown hK hP 0 rfl rfl 5 (by decide) (hts _ jq_2_3) (fun _ h9 => h9) rfl dX8_reason_1 ?_
  refine lv_iconst (v := -1) hx hb dX8_reason_4 (by decide) ?_
  refine lv_icmp_ne (tgt := 19) hx hb dX8_reason_5 (by decide) (fun c3 => ?_) (fun c3 => ?_)
  · have hV := jF1 hV c3
    refine lv_iload_n hx hb dX8_reason_19 rfl (lv_at hl 1 rfl) ?_
    refine lv_if_eq (tgt := 30) hx hb dX8_reason_20 (by decide) (fun c1 => ?_) (fun c1 => ?_)
    · have hV := jT1 hV c1
      refine lv_aload_n hx hb dX8_reason_30 rfl (lv_at hl 0 rfl) ?_
      refine va_get (D := D) (ci := 10) (v := .int (M 9 0 1)) (C := RX8) (T := TX8) (N := 8) hx hb hts ju_X8 hown hK hP 0 rfl rfl 5 (by decide) (hts _ jq_2_3) (fun _ h9 => h9) rfl dX8_reason_31 ?_
      cases hV
      exact xRet C rfl dX8_reason_34 rfl rfl rfl (by decide) (by decide) hP hS
    · have hV := jF1 hV c1
      refine lv_aload_n hx hb dX8_reason_23 rfl (lv_at hl 0 rfl) ?_
      refine va_get (D := D) (ci := 10) (v := .int (M 9 0 2)) (C := RX8) (T := TX8) (N := 8) hx hb hts ju_X8 hown hK hP 0 rfl rfl 6 (by decide) (hts _ jq_2_4) (fun _ h9 => h9) rfl dX8_reason_24 ?_
      refine lv_goto (tgt := 34) hx hb dX8_reason_27 (by decide) ?_
      cases hV
      exact xRet C rfl dX8_reason_34 rfl rfl rfl (by decide) (by decide) hP hS
  · have hV := jT1 hV c3
    obtain ⟨sa2, hsa2⟩ := hZ.2.2.2.2.2.2 _ jms_257
    cases hV
    exact xThrowWN C hno hl0 (by decide) (by decide) jqn_0 jq_28_10 hsa2 (xat_175 C) xgd_175_171 hZ hS hA hP hl dX8_reason_8 dX8_reason_11 dX8_reason_12 dX8_reason_15 dX8_reason_18 (rest := []) (Nat.le_of_ble_eq_true rfl) (Nat.le_of_ble_eq_true rfl) (Nat.le_of_ble_eq_true rfl) (Nat.le_of_ble_eq_true rfl) (by decide) (by decide) (show (5 : Int32) ≠ 0 by decide) (show exN 5 = "java/util/NoSuchElementException" by decide)
theorem jy_X8_account : jY yX8_account cX8_account 2 (some .int) 1 := ⟨by decide +kernel, jq_43_13, jq_1_2⟩
def F_X8_account (N : Nat)  (M : Nat → Nat → Nat → Int32) (v1 : Int32) : Option (Int32 × Int32 × (Nat → Nat → Nat → Int32)) := (if v1 = 0 then (some ((0 : Int32), ((M 0) 0 2), M)) else (if v1 = 1 then (some ((0 : Int32), ((M 0) 0 3), M)) else (if v1 = 2 then (some ((0 : Int32), ((M 0) 0 4), M)) else (if v1 = 3 then (some ((0 : Int32), ((M 0) 0 5), M)) else (if v1 = 4 then ((F_X6_seatsOfAll N (M 0) (0 : Int32)).bind (fun r9 => (some ((0 : Int32), r9, M)))) else (if v1 = 5 then ((F_X6_seatsOfAll N (M 0) (1 : Int32)).bind (fun r8 => (some ((0 : Int32), r8, M)))) else (if v1 = 6 then ((F_X6_seatsOfAll N (M 0) (2 : Int32)).bind (fun r7 => (some ((0 : Int32), r7, M)))) else (if v1 = 7 then (some ((0 : Int32), ((M 0) 0 0), M)) else (if v1 = 8 then (some ((0 : Int32), ((M 0) 0 1), M)) else (if v1 = 9 then ((F_X6_takingsOfAll N (M 0) ).bind (fun r6 => (some ((0 : Int32), r6, M)))) else (if v1 = 10 then (some ((0 : Int32), (rg 3 (M 0 1) (0 : Int32)), M)) else (if v1 = 11 then (some ((0 : Int32), (rg 3 (M 0 1) (1 : Int32)), M)) else (if v1 = 12 then (some ((0 : Int32), (rg 3 (M 0 1) (2 : Int32)), M)) else (if v1 = 13 then (some ((0 : Int32), (M 9 0 5), M)) else (if v1 = 14 then (some ((0 : Int32), (M 9 0 4), M)) else (some ((2 : Int32), (0 : Int32), M)))))))))))))))))
set_option maxHeartbeats 4000000 in
set_option maxRecDepth 100000 in
theorem k_X8_account (l : Launch) (hl0 : l.stackTraces = false) (D : va_G) (G : Nat → ClassId) (B : Nat → Nat → Nat) (ks va : Nat → Nat) (N : Nat) (M : Nat → Nat → Nat → Int32) (v1 : Int32) (r : (Int32 × Int32 × (Nat → Nat → Nat → Int32))) (hV : F_X8_account N  M v1 = some r) : xM l yX8_account (jws yX8_account cX8_account 2 (some .int)) ({ frames := 7, cells := 1, slots := 6, locals := 100 } : Room) [.ref (B 9 0), .int v1] D G ks va (wTS B G M) (wTS B G r.2.2) r.1 (some (.int r.2.1)) := by
  refine xM_of (by decide +kernel) (Nat.le_of_ble_eq_true rfl) (fun p e s m args below meth c ls A C hno hP hD hA hZ hl => ?_)
  have C : Cx p s m args meth c cX8_account 2 RX8 (some .int) D G := C
  have hS : va_S A s.heap s.heap [] := va_S.rf
  obtain ⟨hx, hb, hr, hml, hts, hown, hlocks, hK0⟩ := id C
  have hK := hK0.1
  have hl : lv_has ls 2 [(0, .ref (B 9 0)), (1, .int v1)] := hl
  rw [F_X8_account] at hV
  refine lv_iload_n hx hb dX8_account_0 rfl (lv_at hl 1 rfl) ?_
  by_cases c1_0 : v1 = 0
  · have hV := jT1 hV c1_0
    refine lv_tableIn (tgt := 76) hx hb dX8_account_1 (by rw [c1_0]; decide) (by rw [c1_0]; decide) (by rw [c1_0]; rfl) (by decide) ?_
    refine lv_aload_n hx hb dX8_account_76 rfl (lv_at hl 0 rfl) ?_
    refine va_get (D := D) (ci := 10) (v := .ref (B 0 0)) (C := RX8) (T := TX8) (N := 8) hx hb hts ju_X8 hown hK hP 0 rfl rfl 0 (by decide) (hts _ jq_1_17) (fun _ h9 => h9) rfl dX8_account_77 ?_
    refine va_getN (D := D) (ci := 8) (v := .ref (B 0 36)) (C := RX6) (T := TX6) (N := 7) (host := "TheatreSeasons") hx hb hts ju_X6 hown hK (sTS_0 hP) 0 rfl rfl 3 (by decide) (va_Nw.use rfl (hK0.2 _ jn_34)) (fun _ h9 => h9) rfl dX8_account_80 ?_
    refine va_getN (D := D) (ci := 5) (v := .int ((M 0) 0 2)) (C := RX3) (T := TX3) (N := 6) (host := "TheatreSeasons") hx hb hts ju_X3 hown hK (sX6_X3 (sTS_0 hP)) 0 rfl rfl 0 (by decide) (va_Nw.use rfl (hK0.2 _ jn_1)) (fun _ h9 => h9) rfl dX8_account_83 ?_
    cases hV
    exact xRet C rfl dX8_account_86 rfl rfl rfl (by decide) (by decide) hP hS
  · have hV := jF1 hV c1_0
    by_cases c1_1 : v1 = 1
    · have hV := jT1 hV c1_1
      refine lv_tableIn (tgt := 87) hx hb dX8_account_1 (by rw [c1_1]; decide) (by rw [c1_1]; decide) (by rw [c1_1]; rfl) (by decide) ?_
      refine lv_aload_n hx hb dX8_account_87 rfl (lv_at hl 0 rfl) ?_
      refine va_get (D := D) (ci := 10) (v := .ref (B 0 0)) (C := RX8) (T := TX8) (N := 8) hx hb hts ju_X8 hown hK hP 0 rfl rfl 0 (by decide) (hts _ jq_1_17) (fun _ h9 => h9) rfl dX8_account_88 ?_
      refine va_getN (D := D) (ci := 8) (v := .ref (B 0 37)) (C := RX6) (T := TX6) (N := 7) (host := "TheatreSeasons") hx hb hts ju_X6 hown hK (sTS_0 hP) 0 rfl rfl 4 (by decide) (va_Nw.use rfl (hK0.2 _ jn_35)) (fun _ h9 => h9) rfl dX8_account_91 ?_
      refine va_getN (D := D) (ci := 4) (v := .int ((M 0) 0 3)) (C := RX2) (T := TX2) (N := 7) (host := "TheatreSeasons") hx hb hts ju_X2 hown hK (sX6_X2 (sTS_0 hP)) 0 rfl rfl 0 (by decide) (va_Nw.use rfl (hK0.2 _ jn_10)) (fun _ h9 => h9) rfl dX8_account_94 ?_
      cases hV
      exact xRet C rfl dX8_account_97 rfl rfl rfl (by decide) (by decide) hP hS
    · have hV := jF1 hV c1_1
      by_cases c1_2 : v1 = 2
      · have hV := jT1 hV c1_2
        refine lv_tableIn (tgt := 98) hx hb dX8_account_1 (by rw [c1_2]; decide) (by rw [c1_2]; decide) (by rw [c1_2]; rfl) (by decide) ?_
        refine lv_aload_n hx hb dX8_account_98 rfl (lv_at hl 0 rfl) ?_
        refine va_get (D := D) (ci := 10) (v := .ref (B 0 0)) (C := RX8) (T := TX8) (N := 8) hx hb hts ju_X8 hown hK hP 0 rfl rfl 0 (by decide) (hts _ jq_1_17) (fun _ h9 => h9) rfl dX8_account_99 ?_
        refine va_getN (D := D) (ci := 8) (v := .ref (B 0 38)) (C := RX6) (T := TX6) (N := 7) (host := "TheatreSeasons") hx hb hts ju_X6 hown hK (sTS_0 hP) 0 rfl rfl 5 (by decide) (va_Nw.use rfl (hK0.2 _ jn_36)) (fun _ h9 => h9) rfl dX8_account_102 ?_
        refine va_getN (D := D) (ci := 9) (v := .int ((M 0) 0 4)) (C := RX7) (T := TX7) (N := 3) (host := "TheatreSeasons") hx hb hts ju_X7 hown hK (sX6_X7 (sTS_0 hP)) 0 rfl rfl 0 (by decide) (va_Nw.use rfl (hK0.2 _ jn_21)) (fun _ h9 => h9) rfl dX8_account_105 ?_
        cases hV
        exact xRet C rfl dX8_account_108 rfl rfl rfl (by decide) (by decide) hP hS
      · have hV := jF1 hV c1_2
        by_cases c1_3 : v1 = 3
        · have hV := jT1 hV c1_3
          refine lv_tableIn (tgt := 109) hx hb dX8_account_1 (by rw [c1_3]; decide) (by rw [c1_3]; decide) (by rw [c1_3]; rfl) (by decide) ?_
          refine lv_aload_n hx hb dX8_account_109 rfl (lv_at hl 0 rfl) ?_
          refine va_get (D := D) (ci := 10) (v := .ref (B 0 0)) (C := RX8) (T := TX8) (N := 8) hx hb hts ju_X8 hown hK hP 0 rfl rfl 0 (by decide) (hts _ jq_1_17) (fun _ h9 => h9) rfl dX8_account_110 ?_
          refine va_getN (D := D) (ci := 8) (v := .ref (B 0 39)) (C := RX6) (T := TX6) (N := 7) (host := "TheatreSeasons") hx hb hts ju_X6 hown hK (sTS_0 hP) 0 rfl rfl 6 (by decide) (va_Nw.use rfl (hK0.2 _ jn_37)) (fun _ h9 => h9) rfl dX8_account_113 ?_
          refine va_getN (D := D) (ci := 6) (v := .int ((M 0) 0 5)) (C := RX4) (T := TX4) (N := 4) (host := "TheatreSeasons") hx hb hts ju_X4 hown hK (sX6_X4 (sTS_0 hP)) 0 rfl rfl 0 (by decide) (va_Nw.use rfl (hK0.2 _ jn_27)) (fun _ h9 => h9) rfl dX8_account_116 ?_
          cases hV
          exact xRet C rfl dX8_account_119 rfl rfl rfl (by decide) (by decide) hP hS
        · have hV := jF1 hV c1_3
          by_cases c1_4 : v1 = 4
          · have hV := jT1 hV c1_4
            refine lv_tableIn (tgt := 120) hx hb dX8_account_1 (by rw [c1_4]; decide) (by rw [c1_4]; decide) (by rw [c1_4]; rfl) (by decide) ?_
            refine lv_aload_n hx hb dX8_account_120 rfl (lv_at hl 0 rfl) ?_
            refine va_get (D := D) (ci := 10) (v := .ref (B 0 0)) (C := RX8) (T := TX8) (N := 8) hx hb hts ju_X8 hown hK hP 0 rfl rfl 0 (by decide) (hts _ jq_1_17) (fun _ h9 => h9) rfl dX8_account_121 ?_
            refine lv_iconst (v := 0) hx hb dX8_account_124 (by decide) ?_
            obtain ⟨r9, hr9, hV⟩ := jBind hV
            refine jVpI C dX8_account_125 (k_X6_seatsOfAll l D G (B 0) N (M 0) (0 : Int32) r9 hr9) jy_X6_seatsOfAll jq_43_14 jq_43_15 jq_43_16 ⟨rfl, rfl, Nat.le_of_ble_eq_true rfl, Nat.le_of_ble_eq_true rfl⟩ ⟨Nat.le_of_ble_eq_true rfl, Nat.le_of_ble_eq_true rfl⟩ (sTS_0 hP)  (ci := 8) (iw := 0) rfl rfl rfl hl (rest := []) rfl (Nat.le_of_ble_eq_true rfl) ?_
            cases hV
            exact xRet C rfl dX8_account_128 rfl rfl rfl (by decide) (by decide) hP hS
          · have hV := jF1 hV c1_4
            by_cases c1_5 : v1 = 5
            · have hV := jT1 hV c1_5
              refine lv_tableIn (tgt := 129) hx hb dX8_account_1 (by rw [c1_5]; decide) (by rw [c1_5]; decide) (by rw [c1_5]; rfl) (by decide) ?_
              refine lv_aload_n hx hb dX8_account_129 rfl (lv_at hl 0 rfl) ?_
              refine va_get (D := D) (ci := 10) (v := .ref (B 0 0)) (C := RX8) (T := TX8) (N := 8) hx hb hts ju_X8 hown hK hP 0 rfl rfl 0 (by decide) (hts _ jq_1_17) (fun _ h9 => h9) rfl dX8_account_130 ?_
              refine lv_iconst (v := 1) hx hb dX8_account_133 (by decide) ?_
              obtain ⟨r8, hr8, hV⟩ := jBind hV
              refine jVpI C dX8_account_134 (k_X6_seatsOfAll l D G (B 0) N (M 0) (1 : Int32) r8 hr8) jy_X6_seatsOfAll jq_43_14 jq_43_15 jq_43_16 ⟨rfl, rfl, Nat.le_of_ble_eq_true rfl, Nat.le_of_ble_eq_true rfl⟩ ⟨Nat.le_of_ble_eq_true rfl, Nat.le_of_ble_eq_true rfl⟩ (sTS_0 hP)  (ci := 8) (iw := 0) rfl rfl rfl hl (rest := []) rfl (Nat.le_of_ble_eq_true rfl) ?_
              cases hV
              exact xRet C rfl dX8_account_137 rfl rfl rfl (by decide) (by decide) hP hS
            · have hV := jF1 hV c1_5
              by_cases c1_6 : v1 = 6
              · have hV := jT1 hV c1_6
                refine lv_tableIn (tgt := 138) hx hb dX8_account_1 (by rw [c1_6]; decide) (by rw [c1_6]; decide) (by rw [c1_6]; rfl) (by decide) ?_
                refine lv_aload_n hx hb dX8_account_138 rfl (lv_at hl 0 rfl) ?_
                refine va_get (D := D) (ci := 10) (v := .ref (B 0 0)) (C := RX8) (T := TX8) (N := 8) hx hb hts ju_X8 hown hK hP 0 rfl rfl 0 (by decide) (hts _ jq_1_17) (fun _ h9 => h9) rfl dX8_account_139 ?_
                refine lv_iconst (v := 2) hx hb dX8_account_142 (by decide) ?_
                obtain ⟨r7, hr7, hV⟩ := jBind hV
                refine jVpI C dX8_account_143 (k_X6_seatsOfAll l D G (B 0) N (M 0) (2 : Int32) r7 hr7) jy_X6_seatsOfAll jq_43_14 jq_43_15 jq_43_16 ⟨rfl, rfl, Nat.le_of_ble_eq_true rfl, Nat.le_of_ble_eq_true rfl⟩ ⟨Nat.le_of_ble_eq_true rfl, Nat.le_of_ble_eq_true rfl⟩ (sTS_0 hP)  (ci := 8) (iw := 0) rfl rfl rfl hl (rest := []) rfl (Nat.le_of_ble_eq_true rfl) ?_
                cases hV
                exact xRet C rfl dX8_account_146 rfl rfl rfl (by decide) (by decide) hP hS
              · have hV := jF1 hV c1_6
                by_cases c1_7 : v1 = 7
                · have hV := jT1 hV c1_7
                  refine lv_tableIn (tgt := 147) hx hb dX8_account_1 (by rw [c1_7]; decide) (by rw [c1_7]; decide) (by rw [c1_7]; rfl) (by decide) ?_
                  refine lv_aload_n hx hb dX8_account_147 rfl (lv_at hl 0 rfl) ?_
                  refine va_get (D := D) (ci := 10) (v := .ref (B 0 0)) (C := RX8) (T := TX8) (N := 8) hx hb hts ju_X8 hown hK hP 0 rfl rfl 0 (by decide) (hts _ jq_1_17) (fun _ h9 => h9) rfl dX8_account_148 ?_
                  refine va_getN (D := D) (ci := 8) (v := .int ((M 0) 0 0)) (C := RX6) (T := TX6) (N := 7) (host := "TheatreSeasons") hx hb hts ju_X6 hown hK (sTS_0 hP) 0 rfl rfl 1 (by decide) (va_Nw.use rfl (hK0.2 _ jn_32)) (fun _ h9 => h9) rfl dX8_account_151 ?_
                  cases hV
                  exact xRet C rfl dX8_account_154 rfl rfl rfl (by decide) (by decide) hP hS
                · have hV := jF1 hV c1_7
                  by_cases c1_8 : v1 = 8
                  · have hV := jT1 hV c1_8
                    refine lv_tableIn (tgt := 155) hx hb dX8_account_1 (by rw [c1_8]; decide) (by rw [c1_8]; decide) (by rw [c1_8]; rfl) (by decide) ?_
                    refine lv_aload_n hx hb dX8_account_155 rfl (lv_at hl 0 rfl) ?_
                    refine va_get (D := D) (ci := 10) (v := .ref (B 0 0)) (C := RX8) (T := TX8) (N := 8) hx hb hts ju_X8 hown hK hP 0 rfl rfl 0 (by decide) (hts _ jq_1_17) (fun _ h9 => h9) rfl dX8_account_156 ?_
                    refine va_getN (D := D) (ci := 8) (v := .int ((M 0) 0 1)) (C := RX6) (T := TX6) (N := 7) (host := "TheatreSeasons") hx hb hts ju_X6 hown hK (sTS_0 hP) 0 rfl rfl 2 (by decide) (va_Nw.use rfl (hK0.2 _ jn_33)) (fun _ h9 => h9) rfl dX8_account_159 ?_
                    cases hV
                    exact xRet C rfl dX8_account_162 rfl rfl rfl (by decide) (by decide) hP hS
                  · have hV := jF1 hV c1_8
                    by_cases c1_9 : v1 = 9
                    · have hV := jT1 hV c1_9
                      refine lv_tableIn (tgt := 163) hx hb dX8_account_1 (by rw [c1_9]; decide) (by rw [c1_9]; decide) (by rw [c1_9]; rfl) (by decide) ?_
                      refine lv_aload_n hx hb dX8_account_163 rfl (lv_at hl 0 rfl) ?_
                      refine va_get (D := D) (ci := 10) (v := .ref (B 0 0)) (C := RX8) (T := TX8) (N := 8) hx hb hts ju_X8 hown hK hP 0 rfl rfl 0 (by decide) (hts _ jq_1_17) (fun _ h9 => h9) rfl dX8_account_164 ?_
                      obtain ⟨r6, hr6, hV⟩ := jBind hV
                      refine jVpI C dX8_account_167 (k_X6_takingsOfAll l D G (B 0) N (M 0)  r6 hr6) jy_X6_takingsOfAll jq_43_18 jq_43_19 jq_43_20 ⟨rfl, rfl, Nat.le_of_ble_eq_true rfl, Nat.le_of_ble_eq_true rfl⟩ ⟨Nat.le_of_ble_eq_true rfl, Nat.le_of_ble_eq_true rfl⟩ (sTS_0 hP)  (ci := 8) (iw := 0) rfl rfl rfl hl (rest := []) rfl (Nat.le_of_ble_eq_true rfl) ?_
                      cases hV
                      exact xRet C rfl dX8_account_170 rfl rfl rfl (by decide) (by decide) hP hS
                    · have hV := jF1 hV c1_9
                      by_cases c1_10 : v1 = 10
                      · have hV := jT1 hV c1_10
                        refine lv_tableIn (tgt := 171) hx hb dX8_account_1 (by rw [c1_10]; decide) (by rw [c1_10]; decide) (by rw [c1_10]; rfl) (by decide) ?_
                        refine lv_aload_n hx hb dX8_account_171 rfl (lv_at hl 0 rfl) ?_
                        refine va_get (D := D) (ci := 10) (v := .ref (B 0 0)) (C := RX8) (T := TX8) (N := 8) hx hb hts ju_X8 hown hK hP 0 rfl rfl 0 (by decide) (hts _ jq_1_17) (fun _ h9 => h9) rfl dX8_account_172 ?_
                        refine va_getN (D := D) (ci := 8) (v := .ref (B 0 2)) (C := RX6) (T := TX6) (N := 7) (host := "TheatreSeasons") hx hb hts ju_X6 hown hK (sTS_0 hP) 0 rfl rfl 0 (by decide) (va_Nw.use rfl (hK0.2 _ jn_31)) (fun _ h9 => h9) rfl dX8_account_175 ?_
                        refine lv_iconst (v := 0) hx hb dX8_account_178 (by decide) ?_
                        refine jVpI C dX8_account_179 (kt_X5_get l D G (B 0 2) (B 0 3) 3 (Nat.le_of_ble_eq_true rfl) (M 0 1) (0 : Int32)) jy_X5_get jq_21_2 jq_9_6 jq_9_7 ⟨rfl, rfl, Nat.le_of_ble_eq_true rfl, Nat.le_of_ble_eq_true rfl⟩ ⟨Nat.le_of_ble_eq_true rfl, Nat.le_of_ble_eq_true rfl⟩ (sX6_1 (sTS_0 hP))  (ci := 7) (iw := 0) rfl rfl rfl hl (rest := []) rfl (Nat.le_of_ble_eq_true rfl) ?_
                        cases hV
                        exact xRet C rfl dX8_account_182 rfl rfl rfl (by decide) (by decide) hP hS
                      · have hV := jF1 hV c1_10
                        by_cases c1_11 : v1 = 11
                        · have hV := jT1 hV c1_11
                          refine lv_tableIn (tgt := 183) hx hb dX8_account_1 (by rw [c1_11]; decide) (by rw [c1_11]; decide) (by rw [c1_11]; rfl) (by decide) ?_
                          refine lv_aload_n hx hb dX8_account_183 rfl (lv_at hl 0 rfl) ?_
                          refine va_get (D := D) (ci := 10) (v := .ref (B 0 0)) (C := RX8) (T := TX8) (N := 8) hx hb hts ju_X8 hown hK hP 0 rfl rfl 0 (by decide) (hts _ jq_1_17) (fun _ h9 => h9) rfl dX8_account_184 ?_
                          refine va_getN (D := D) (ci := 8) (v := .ref (B 0 2)) (C := RX6) (T := TX6) (N := 7) (host := "TheatreSeasons") hx hb hts ju_X6 hown hK (sTS_0 hP) 0 rfl rfl 0 (by decide) (va_Nw.use rfl (hK0.2 _ jn_31)) (fun _ h9 => h9) rfl dX8_account_187 ?_
                          refine lv_iconst (v := 1) hx hb dX8_account_190 (by decide) ?_
                          refine jVpI C dX8_account_191 (kt_X5_get l D G (B 0 2) (B 0 3) 3 (Nat.le_of_ble_eq_true rfl) (M 0 1) (1 : Int32)) jy_X5_get jq_21_2 jq_9_6 jq_9_7 ⟨rfl, rfl, Nat.le_of_ble_eq_true rfl, Nat.le_of_ble_eq_true rfl⟩ ⟨Nat.le_of_ble_eq_true rfl, Nat.le_of_ble_eq_true rfl⟩ (sX6_1 (sTS_0 hP))  (ci := 7) (iw := 0) rfl rfl rfl hl (rest := []) rfl (Nat.le_of_ble_eq_true rfl) ?_
                          cases hV
                          exact xRet C rfl dX8_account_194 rfl rfl rfl (by decide) (by decide) hP hS
                        · have hV := jF1 hV c1_11
                          by_cases c1_12 : v1 = 12
                          · have hV := jT1 hV c1_12
                            refine lv_tableIn (tgt := 195) hx hb dX8_account_1 (by rw [c1_12]; decide) (by rw [c1_12]; decide) (by rw [c1_12]; rfl) (by decide) ?_
                            refine lv_aload_n hx hb dX8_account_195 rfl (lv_at hl 0 rfl) ?_
                            refine va_get (D := D) (ci := 10) (v := .ref (B 0 0)) (C := RX8) (T := TX8) (N := 8) hx hb hts ju_X8 hown hK hP 0 rfl rfl 0 (by decide) (hts _ jq_1_17) (fun _ h9 => h9) rfl dX8_account_196 ?_
                            refine va_getN (D := D) (ci := 8) (v := .ref (B 0 2)) (C := RX6) (T := TX6) (N := 7) (host := "TheatreSeasons") hx hb hts ju_X6 hown hK (sTS_0 hP) 0 rfl rfl 0 (by decide) (va_Nw.use rfl (hK0.2 _ jn_31)) (fun _ h9 => h9) rfl dX8_account_199 ?_
                            refine lv_iconst (v := 2) hx hb dX8_account_202 (by decide) ?_
                            refine jVpI C dX8_account_203 (kt_X5_get l D G (B 0 2) (B 0 3) 3 (Nat.le_of_ble_eq_true rfl) (M 0 1) (2 : Int32)) jy_X5_get jq_21_2 jq_9_6 jq_9_7 ⟨rfl, rfl, Nat.le_of_ble_eq_true rfl, Nat.le_of_ble_eq_true rfl⟩ ⟨Nat.le_of_ble_eq_true rfl, Nat.le_of_ble_eq_true rfl⟩ (sX6_1 (sTS_0 hP))  (ci := 7) (iw := 0) rfl rfl rfl hl (rest := []) rfl (Nat.le_of_ble_eq_true rfl) ?_
                            cases hV
                            exact xRet C rfl dX8_account_206 rfl rfl rfl (by decide) (by decide) hP hS
                          · have hV := jF1 hV c1_12
                            by_cases c1_13 : v1 = 13
                            · have hV := jT1 hV c1_13
                              refine lv_tableIn (tgt := 207) hx hb dX8_account_1 (by rw [c1_13]; decide) (by rw [c1_13]; decide) (by rw [c1_13]; rfl) (by decide) ?_
                              refine lv_aload_n hx hb dX8_account_207 rfl (lv_at hl 0 rfl) ?_
                              refine va_get (D := D) (ci := 10) (v := .ref (B 9 3)) (C := RX8) (T := TX8) (N := 8) hx hb hts ju_X8 hown hK hP 0 rfl rfl 3 (by decide) (hts _ jq_2_2) (fun _ h9 => h9) rfl dX8_account_208 ?_
                              refine va_getN (D := D) (ci := 3) (v := .int (M 9 0 5)) (C := RX1) (T := TX1) (N := 5) (host := "TheatreSeasons") hx hb hts ju_X1 hown hK (sTS_I hP) 0 rfl rfl 1 (by decide) (va_Nw.use rfl (hK0.2 _ jn_39)) (fun _ h9 => h9) rfl dX8_account_211 ?_
                              cases hV
                              exact xRet C rfl dX8_account_214 rfl rfl rfl (by decide) (by decide) hP hS
                            · have hV := jF1 hV c1_13
                              by_cases c1_14 : v1 = 14
                              · have hV := jT1 hV c1_14
                                refine lv_tableIn (tgt := 215) hx hb dX8_account_1 (by rw [c1_14]; decide) (by rw [c1_14]; decide) (by rw [c1_14]; rfl) (by decide) ?_
                                refine lv_aload_n hx hb dX8_account_215 rfl (lv_at hl 0 rfl) ?_
                                refine va_get (D := D) (ci := 10) (v := .ref (B 9 1)) (C := RX8) (T := TX8) (N := 8) hx hb hts ju_X8 hown hK hP 0 rfl rfl 2 (by decide) (hts _ jq_1_22) (fun _ h9 => h9) rfl dX8_account_216 ?_
                                refine va_getN (D := D) (ci := 2) (v := .int (M 9 0 4)) (C := RX0) (T := TX0) (N := 2) (host := "TheatreSeasons") hx hb hts ju_X0 hown hK hP 1 rfl rfl 1 (by decide) (va_Nw.use rfl (hK0.2 _ jn_38)) (fun _ h9 => h9) rfl dX8_account_219 ?_
                                cases hV
                                exact xRet C rfl dX8_account_222 rfl rfl rfl (by decide) (by decide) hP hS
                              · have hV := jF1 hV c1_14
                                refine jTabDef (tgt := 223) hx hb dX8_account_1 (fun k h1 h2 h3 => ?_) (by decide) ?_
                                · rcases (show k = 0 ∨ k = 1 ∨ k = 2 ∨ k = 3 ∨ k = 4 ∨ k = 5 ∨ k = 6 ∨ k = 7 ∨ k = 8 ∨ k = 9 ∨ k = 10 ∨ k = 11 ∨ k = 12 ∨ k = 13 ∨ k = 14 by omega) with rfl | rfl | rfl | rfl | rfl | rfl | rfl | rfl | rfl | rfl | rfl | rfl | rfl | rfl | rfl <;> first | rfl | exact absurd (Int32.toInt_inj.mp (h3.trans (by decide))) c1_0 | exact absurd (Int32.toInt_inj.mp (h3.trans (by decide))) c1_1 | exact absurd (Int32.toInt_inj.mp (h3.trans (by decide))) c1_2 | exact absurd (Int32.toInt_inj.mp (h3.trans (by decide))) c1_3 | exact absurd (Int32.toInt_inj.mp (h3.trans (by decide))) c1_4 | exact absurd (Int32.toInt_inj.mp (h3.trans (by decide))) c1_5 | exact absurd (Int32.toInt_inj.mp (h3.trans (by decide))) c1_6 | exact absurd (Int32.toInt_inj.mp (h3.trans (by decide))) c1_7 | exact absurd (Int32.toInt_inj.mp (h3.trans (by decide))) c1_8 | exact absurd (Int32.toInt_inj.mp (h3.trans (by decide))) c1_9 | exact absurd (Int32.toInt_inj.mp (h3.trans (by decide))) c1_10 | exact absurd (Int32.toInt_inj.mp (h3.trans (by decide))) c1_11 | exact absurd (Int32.toInt_inj.mp (h3.trans (by decide))) c1_12 | exact absurd (Int32.toInt_inj.mp (h3.trans (by decide))) c1_13 | exact absurd (Int32.toInt_inj.mp (h3.trans (by decide))) c1_14
                                · obtain ⟨sa2, hsa2⟩ := hZ.2.2.2.2.2.2 _ jms_282
                                  cases hV
                                  exact xThrowW C hno hl0 (by decide) (by decide) jq_11_23 jq_12_0 hsa2 (xat_118 C) xgd_118_114 hZ hS hA hP hl dX8_account_223 dX8_account_226 dX8_account_227 dX8_account_230 dX8_account_233 (rest := []) (Nat.le_of_ble_eq_true rfl) (Nat.le_of_ble_eq_true rfl) (Nat.le_of_ble_eq_true rfl) (Nat.le_of_ble_eq_true rfl) (by decide) (by decide) (show (2 : Int32) ≠ 0 by decide) (show exN 2 = "java/lang/IllegalArgumentException" by decide)
theorem jy_X8_append : jY yX8_append cX8_append 2 (some .int) 1 := ⟨by decide +kernel, jq_44_10, jq_1_2⟩
def F_X8_append (N : Nat)  (M : Nat → Nat → Nat → Int32) (v1 : Int32) : Option (Int32 × Int32 × (Nat → Nat → Nat → Int32)) := (if (ckArgument (jIn v1 (32 : Int32) (126 : Int32))) = 0 then ((F_X1_add N (M 9) v1).bind (fun r3 => (jlet (u1 M 9 (mgX1 (M 9) r3.2)) (fun M4 => (if r3.1 = 0 then (some ((3 : Int32), (0 : Int32), M4)) else (some ((0 : Int32), (M4 9 0 5), M4))))))) else (some ((ckArgument (jIn v1 (32 : Int32) (126 : Int32))), (0 : Int32), M)))
set_option maxHeartbeats 4000000 in
set_option maxRecDepth 100000 in
theorem k_X8_append (l : Launch) (hl0 : l.stackTraces = false) (D : va_G) (G : Nat → ClassId) (B : Nat → Nat → Nat) (ks va : Nat → Nat) (N : Nat) (M : Nat → Nat → Nat → Int32) (v1 : Int32) (r : (Int32 × Int32 × (Nat → Nat → Nat → Int32))) (hV : F_X8_append N  M v1 = some r) : xM l yX8_append (jws yX8_append cX8_append 2 (some .int)) ({ frames := 8, cells := 2, slots := 12, locals := 120 } : Room) [.ref (B 9 0), .int v1] D G ks va (wTS B G M) (wTS B G r.2.2) r.1 (some (.int r.2.1)) := by
  refine xM_of (by decide +kernel) (Nat.le_of_ble_eq_true rfl) (fun p e s m args below meth c ls A C hno hP hD hA hZ hl => ?_)
  have C : Cx p s m args meth c cX8_append 2 RX8 (some .int) D G := C
  have hS : va_S A s.heap s.heap [] := va_S.rf
  obtain ⟨hx, hb, hr, hml, hts, hown, hlocks, hK0⟩ := id C
  have hK := hK0.1
  have hl : lv_has ls 2 [(0, .ref (B 9 0)), (1, .int v1)] := hl
  rw [F_X8_append] at hV
  refine lv_iload_n hx hb dX8_append_0 rfl (lv_at hl 1 rfl) ?_
  refine lv_bipush (v := 32) hx hb dX8_append_1 (by decide) ?_
  refine lv_bipush (v := 126) hx hb dX8_append_3 (by decide) ?_
  refine jSpI C dX8_append_5 (kt_X8_isWithin l D G    v1 (32 : Int32) (126 : Int32)) jy_X8_isWithin jq_9_2 jq_9_3 ⟨rfl, rfl, Nat.le_of_ble_eq_true rfl, Nat.le_of_ble_eq_true rfl⟩ ⟨Nat.le_of_ble_eq_true rfl, Nat.le_of_ble_eq_true rfl⟩ jE  hl (rest := []) rfl (Nat.le_of_ble_eq_true rfl) ?_
  refine jSx C dX8_append_8 (kx_X8_checkArgument l hl0 D G ks va (jIn v1 (32 : Int32) (126 : Int32))) jy_X8_checkArgument jq_11_20 jq_11_21 ⟨Nat.le_of_ble_eq_true rfl, Nat.le_of_ble_eq_true rfl⟩ ⟨Nat.le_of_ble_eq_true rfl, Nat.le_of_ble_eq_true rfl⟩ hZ jE (jDnd.mpr ⟨List.nodup_nil, fun q h => nomatch h⟩) hA hS hl (rest := []) rfl (Nat.le_of_ble_eq_true rfl) (fun H locs hQ hz hkp hS => ⟨fun hk => ?_, fun hk ce q hce hcv hcl => ?_⟩)
  · have hP : va_P D vwCl (wTS B G M) H := hP.kept (fun k q hq => hkp q.1 (hP k q hq).lt (fun h => h.elim (fun ⟨_, _, h⟩ => by simp at h) (fun h => Nat.lt_irrefl _ (Nat.lt_of_lt_of_le (hP k q hq).lt h))))
    have hV := jT1 hV hk
    refine W.eq (g2 := F0 m 11 ls []) rfl ?_
    refine lv_aload_n hx hb dX8_append_11 rfl (lv_at hl 0 rfl) ?_
    refine va_get (D := D) (ci := 10) (v := .ref (B 9 3)) (C := RX8) (T := TX8) (N := 8) hx hb hts ju_X8 hown hK hP 0 rfl rfl 3 (by decide) (hts _ jq_2_2) (fun _ h9 => h9) rfl dX8_append_12 ?_
    refine lv_iload_n hx hb dX8_append_15 rfl (lv_at hl 1 rfl) ?_
    obtain ⟨r3, hr3, hV⟩ := jBind hV
    refine jVmI C dX8_append_16 (k_X1_add l D G (B 9) N (M 9) v1 r3 hr3) jy_X1_add jq_44_11 jq_44_12 jq_44_13 ⟨rfl, rfl, Nat.le_of_ble_eq_true rfl, Nat.le_of_ble_eq_true rfl⟩ ⟨Nat.le_of_ble_eq_true rfl, Nat.le_of_ble_eq_true rfl⟩ (sTS_I hP) (dTS_I hD) hA hS (ci := 3) (iw := 0) rfl rfl rfl hl (rest := []) rfl (Nat.le_of_ble_eq_true rfl) (fun H locs hQ hz hkp hS => ?_)
    obtain ⟨M4, e7, hV⟩ := jLet hV
    have hP : va_P D vwCl (wTS B G M4) H := by rw [e7]; exact jTS_I hP hD hkp hQ
    have hD : va_D A (wTS B G M4) := jD (w := (wTS B G M)) (dTS _ _) hD
    refine lv_if_ne (tgt := 33) hx hb dX8_append_19 (by decide) (fun c6 => ?_) (fun c6 => ?_)
    · have hV := jF1 hV c6
      refine lv_aload_n hx hb dX8_append_33 rfl (lv_at hl 0 rfl) ?_
      refine va_get (D := D) (ci := 10) (v := .ref (B 9 3)) (C := RX8) (T := TX8) (N := 8) hx hb hts ju_X8 hown hK hP 0 rfl rfl 3 (by decide) (hts _ jq_2_2) (fun _ h9 => h9) rfl dX8_append_34 ?_
      refine va_getN (D := D) (ci := 3) (v := .int (M4 9 0 5)) (C := RX1) (T := TX1) (N := 5) (host := "TheatreSeasons") hx hb hts ju_X1 hown hK (sTS_I hP) 0 rfl rfl 1 (by decide) (va_Nw.use rfl (hK0.2 _ jn_39)) (fun _ h9 => h9) rfl dX8_append_37 ?_
      cases hV
      exact xRet C rfl dX8_append_40 rfl rfl rfl (by decide) (by decide) hP hS
    · have hV := jT1 hV c6
      obtain ⟨sa5, hsa5⟩ := hZ.2.2.2.2.2.2 _ jms_294
      cases hV
      exact xThrowW C hno hl0 (by decide) (by decide) jq_11_3 jq_11_4 hsa5 (xat_296 C) xgd_296_292 hZ hS hA hP hl dX8_append_22 dX8_append_25 dX8_append_26 dX8_append_29 dX8_append_32 (rest := []) (Nat.le_of_ble_eq_true rfl) (Nat.le_of_ble_eq_true rfl) (Nat.le_of_ble_eq_true rfl) (Nat.le_of_ble_eq_true rfl) (by decide) (by decide) (show (3 : Int32) ≠ 0 by decide) (show exN 3 = "java/lang/IllegalStateException" by decide)
  · have hP : va_P D vwCl (wTS B G M) H := hP.kept (fun k q hq => hkp q.1 (hP k q hq).lt (fun h => h.elim (fun ⟨_, _, h⟩ => by simp at h) (fun h => Nat.lt_irrefl _ (Nat.lt_of_lt_of_le (hP k q hq).lt h))))
    have hV := jF1 hV hk
    cases hV
    exact xOut C hno hk hce hcv hcl (by decide) (by decide) hP hS
theorem jy_X8_runCommand : jY yX8_runCommand cX8_runCommand 6 (some .int) 2 := ⟨by decide +kernel, jq_49_9, jq_1_2⟩
def F_X8_runCommand (N : Nat)  (M : Nat → Nat → Nat → Int32) (v1 : Int32) : Option (Int32 × (Nat → Nat → Nat → Int32)) := (if v1 = 101 then ((F_X6_exchangeSeats N (M 0) (rg 3 (M 9 2) (0 : Int32)) (rg 3 (M 9 2) (1 : Int32)) (rg 3 (M 9 2) (2 : Int32))).bind (fun r23 => (jlet (u1 M 0 r23.2) (fun M24 => (some (r23.1, M24)))))) else (if v1 = 104 then ((F_X6_holdSeats N (M 0) (rg 3 (M 9 2) (0 : Int32)) (rg 3 (M 9 2) (1 : Int32))).bind (fun r20 => (jlet (u1 M 0 r20.2) (fun M21 => (some (r20.1, M21)))))) else (if v1 = 108 then ((F_X6_releaseSeats N (M 0) (rg 3 (M 9 2) (0 : Int32)) (rg 3 (M 9 2) (1 : Int32))).bind (fun r17 => (jlet (u1 M 0 r17.2) (fun M18 => (some (r17.1, M18)))))) else (if v1 = 114 then ((F_X6_refundSeats N (M 0) (rg 3 (M 9 2) (0 : Int32)) (rg 3 (M 9 2) (1 : Int32))).bind (fun r14 => (jlet (u1 M 0 r14.2) (fun M15 => (some (r14.1, M15)))))) else (if v1 = 115 then ((F_X6_sellSeats N (M 0) (rg 3 (M 9 2) (0 : Int32)) (rg 3 (M 9 2) (1 : Int32))).bind (fun r11 => (jlet (u1 M 0 r11.2) (fun M12 => (some (r11.1, M12)))))) else (if v1 = 119 then ((F_X6_makeRequest N (M 0) (rg 3 (M 9 2) (0 : Int32)) (rg 3 (M 9 2) (1 : Int32)) (rg 3 (M 9 2) (2 : Int32))).bind (fun r8 => (jlet (u1 M 0 r8.2) (fun M9 => (some (r8.1, M9)))))) else ((F_X6_movePerformance N (M 0) (rg 3 (M 9 2) (0 : Int32)) (rg 3 (M 9 2) (1 : Int32))).bind (fun r5 => (jlet (u1 M 0 r5.2) (fun M6 => (some (r5.1, M6))))))))))))
set_option maxHeartbeats 4000000 in
set_option maxRecDepth 100000 in
theorem k_X8_runCommand (l : Launch) (D : va_G) (G : Nat → ClassId) (B : Nat → Nat → Nat) (N : Nat) (M : Nat → Nat → Nat → Int32) (v1 : Int32) (r : (Int32 × (Nat → Nat → Nat → Int32))) (hV : F_X8_runCommand N  M v1 = some r) : mM l yX8_runCommand (jws yX8_runCommand cX8_runCommand 6 (some .int)) ({ frames := 5, cells := 0, slots := 0, locals := 126 } : Room) [.ref (B 9 0), .int v1, .ref (B 9 5)] D G (wTS B G M) (wTS B G r.2) (some (.int r.1)) := by
  refine mM_of (by decide +kernel) (Nat.le_of_ble_eq_true rfl) (fun p e s m args below meth c ls A C hP hD hA hl => ?_)
  have C : Cx p s m args meth c cX8_runCommand 6 RX8 (some .int) D G := C
  have hS : va_S A s.heap s.heap [] := va_S.rf
  obtain ⟨hx, hb, hr, hml, hts, hown, hlocks, hK0⟩ := id C
  have hK := hK0.1
  have hl : lv_has ls 6 [(0, .ref (B 9 0)), (1, .int v1), (2, .ref (B 9 5))] := hl
  rw [F_X8_runCommand] at hV
  refine lv_aload_n hx hb dX8_runCommand_0 rfl (lv_at hl 2 rfl) ?_
  refine lv_iconst (v := 0) hx hb dX8_runCommand_1 (by decide) ?_
  refine jVpI C dX8_runCommand_2 (kt_X5_get l D G (B 9 5) (B 9 6) 3 (Nat.le_of_ble_eq_true rfl) (M 9 2) (0 : Int32)) jy_X5_get jq_21_2 jq_9_6 jq_9_7 ⟨rfl, rfl, Nat.le_of_ble_eq_true rfl, Nat.le_of_ble_eq_true rfl⟩ ⟨Nat.le_of_ble_eq_true rfl, Nat.le_of_ble_eq_true rfl⟩ (sX1_2 (sTS_I hP))  (ci := 7) (iw := 0) rfl rfl rfl hl (rest := []) rfl (Nat.le_of_ble_eq_true rfl) ?_
  refine lv_istore_n (lv' := [(3, .int (rg 3 (M 9 2) (0 : Int32))), (0, .ref (B 9 0)), (1, .int v1), (2, .ref (B 9 5))]) hx hb dX8_runCommand_5 rfl hl (by decide) rfl (fun ls hl => ?_)
  refine lv_aload_n hx hb dX8_runCommand_6 rfl (lv_at hl 3 rfl) ?_
  refine lv_iconst (v := 1) hx hb dX8_runCommand_7 (by decide) ?_
  refine jVpI C dX8_runCommand_8 (kt_X5_get l D G (B 9 5) (B 9 6) 3 (Nat.le_of_ble_eq_true rfl) (M 9 2) (1 : Int32)) jy_X5_get jq_21_2 jq_9_6 jq_9_7 ⟨rfl, rfl, Nat.le_of_ble_eq_true rfl, Nat.le_of_ble_eq_true rfl⟩ ⟨Nat.le_of_ble_eq_true rfl, Nat.le_of_ble_eq_true rfl⟩ (sX1_2 (sTS_I hP))  (ci := 7) (iw := 0) rfl rfl rfl hl (rest := []) rfl (Nat.le_of_ble_eq_true rfl) ?_
  refine lv_istore (lv' := [(4, .int (rg 3 (M 9 2) (1 : Int32))), (3, .int (rg 3 (M 9 2) (0 : Int32))), (0, .ref (B 9 0)), (1, .int v1), (2, .ref (B 9 5))]) hx hb dX8_runCommand_11 hl (by decide) rfl (fun ls hl => ?_)
  refine lv_aload_n hx hb dX8_runCommand_13 rfl (lv_at hl 4 rfl) ?_
  refine lv_iconst (v := 2) hx hb dX8_runCommand_14 (by decide) ?_
  refine jVpI C dX8_runCommand_15 (kt_X5_get l D G (B 9 5) (B 9 6) 3 (Nat.le_of_ble_eq_true rfl) (M 9 2) (2 : Int32)) jy_X5_get jq_21_2 jq_9_6 jq_9_7 ⟨rfl, rfl, Nat.le_of_ble_eq_true rfl, Nat.le_of_ble_eq_true rfl⟩ ⟨Nat.le_of_ble_eq_true rfl, Nat.le_of_ble_eq_true rfl⟩ (sX1_2 (sTS_I hP))  (ci := 7) (iw := 0) rfl rfl rfl hl (rest := []) rfl (Nat.le_of_ble_eq_true rfl) ?_
  refine lv_istore (lv' := [(5, .int (rg 3 (M 9 2) (2 : Int32))), (4, .int (rg 3 (M 9 2) (1 : Int32))), (3, .int (rg 3 (M 9 2) (0 : Int32))), (0, .ref (B 9 0)), (1, .int v1), (2, .ref (B 9 5))]) hx hb dX8_runCommand_18 hl (by decide) rfl (fun ls hl => ?_)
  refine lv_iload_n hx hb dX8_runCommand_20 rfl (lv_at hl 4 rfl) ?_
  by_cases c4_0 : v1 = 101
  · have hV := jT1 hV c4_0
    refine lv_tableIn (tgt := 169) hx hb dX8_runCommand_21 (by rw [c4_0]; decide) (by rw [c4_0]; decide) (by rw [c4_0]; rfl) (by decide) ?_
    refine lv_aload_n hx hb dX8_runCommand_169 rfl (lv_at hl 3 rfl) ?_
    refine va_get (D := D) (ci := 10) (v := .ref (B 0 0)) (C := RX8) (T := TX8) (N := 8) hx hb hts ju_X8 hown hK hP 0 rfl rfl 0 (by decide) (hts _ jq_1_17) (fun _ h9 => h9) rfl dX8_runCommand_170 ?_
    refine lv_iload_n hx hb dX8_runCommand_173 rfl (lv_at hl 2 rfl) ?_
    refine lv_iload hx hb dX8_runCommand_174 (lv_at hl 1 rfl) ?_
    refine lv_iload hx hb dX8_runCommand_176 (lv_at hl 0 rfl) ?_
    obtain ⟨r23, hr23, hV⟩ := jBind hV
    refine jVmI C dX8_runCommand_178 (k_X6_exchangeSeats l D G (B 0) N (M 0) (rg 3 (M 9 2) (0 : Int32)) (rg 3 (M 9 2) (1 : Int32)) (rg 3 (M 9 2) (2 : Int32)) r23 hr23) jy_X6_exchangeSeats jq_40_8 jq_40_9 jq_40_10 ⟨rfl, rfl, Nat.le_of_ble_eq_true rfl, Nat.le_of_ble_eq_true rfl⟩ ⟨Nat.le_of_ble_eq_true rfl, Nat.le_of_ble_eq_true rfl⟩ (sTS_0 hP) (dTS_0 hD) hA hS (ci := 8) (iw := 0) rfl rfl rfl hl (rest := []) rfl (Nat.le_of_ble_eq_true rfl) (fun H locs hQ hz hkp hS => ?_)
    obtain ⟨M24, e25, hV⟩ := jLet hV
    have hP : va_P D vwCl (wTS B G M24) H := by rw [e25]; exact jTS_0 hP hD hkp hQ
    have hD : va_D A (wTS B G M24) := jD (w := (wTS B G M)) (dTS _ _) hD
    cases hV
    exact mRet C rfl dX8_runCommand_181 rfl rfl hP hS
  · have hV := jF1 hV c4_0
    by_cases c4_3 : v1 = 104
    · have hV := jT1 hV c4_3
      refine lv_tableIn (tgt := 147) hx hb dX8_runCommand_21 (by rw [c4_3]; decide) (by rw [c4_3]; decide) (by rw [c4_3]; rfl) (by decide) ?_
      refine lv_aload_n hx hb dX8_runCommand_147 rfl (lv_at hl 3 rfl) ?_
      refine va_get (D := D) (ci := 10) (v := .ref (B 0 0)) (C := RX8) (T := TX8) (N := 8) hx hb hts ju_X8 hown hK hP 0 rfl rfl 0 (by decide) (hts _ jq_1_17) (fun _ h9 => h9) rfl dX8_runCommand_148 ?_
      refine lv_iload_n hx hb dX8_runCommand_151 rfl (lv_at hl 2 rfl) ?_
      refine lv_iload hx hb dX8_runCommand_152 (lv_at hl 1 rfl) ?_
      obtain ⟨r20, hr20, hV⟩ := jBind hV
      refine jVmI C dX8_runCommand_154 (k_X6_holdSeats l D G (B 0) N (M 0) (rg 3 (M 9 2) (0 : Int32)) (rg 3 (M 9 2) (1 : Int32)) r20 hr20) jy_X6_holdSeats jq_37_15 jq_37_16 jq_37_17 ⟨rfl, rfl, Nat.le_of_ble_eq_true rfl, Nat.le_of_ble_eq_true rfl⟩ ⟨Nat.le_of_ble_eq_true rfl, Nat.le_of_ble_eq_true rfl⟩ (sTS_0 hP) (dTS_0 hD) hA hS (ci := 8) (iw := 0) rfl rfl rfl hl (rest := []) rfl (Nat.le_of_ble_eq_true rfl) (fun H locs hQ hz hkp hS => ?_)
      obtain ⟨M21, e22, hV⟩ := jLet hV
      have hP : va_P D vwCl (wTS B G M21) H := by rw [e22]; exact jTS_0 hP hD hkp hQ
      have hD : va_D A (wTS B G M21) := jD (w := (wTS B G M)) (dTS _ _) hD
      cases hV
      exact mRet C rfl dX8_runCommand_157 rfl rfl hP hS
    · have hV := jF1 hV c4_3
      by_cases c4_7 : v1 = 108
      · have hV := jT1 hV c4_7
        refine lv_tableIn (tgt := 158) hx hb dX8_runCommand_21 (by rw [c4_7]; decide) (by rw [c4_7]; decide) (by rw [c4_7]; rfl) (by decide) ?_
        refine lv_aload_n hx hb dX8_runCommand_158 rfl (lv_at hl 3 rfl) ?_
        refine va_get (D := D) (ci := 10) (v := .ref (B 0 0)) (C := RX8) (T := TX8) (N := 8) hx hb hts ju_X8 hown hK hP 0 rfl rfl 0 (by decide) (hts _ jq_1_17) (fun _ h9 => h9) rfl dX8_runCommand_159 ?_
        refine lv_iload_n hx hb dX8_runCommand_162 rfl (lv_at hl 2 rfl) ?_
        refine lv_iload hx hb dX8_runCommand_163 (lv_at hl 1 rfl) ?_
        obtain ⟨r17, hr17, hV⟩ := jBind hV
        refine jVmI C dX8_runCommand_165 (k_X6_releaseSeats l D G (B 0) N (M 0) (rg 3 (M 9 2) (0 : Int32)) (rg 3 (M 9 2) (1 : Int32)) r17 hr17) jy_X6_releaseSeats jq_39_9 jq_39_10 jq_39_11 ⟨rfl, rfl, Nat.le_of_ble_eq_true rfl, Nat.le_of_ble_eq_true rfl⟩ ⟨Nat.le_of_ble_eq_true rfl, Nat.le_of_ble_eq_true rfl⟩ (sTS_0 hP) (dTS_0 hD) hA hS (ci := 8) (iw := 0) rfl rfl rfl hl (rest := []) rfl (Nat.le_of_ble_eq_true rfl) (fun H locs hQ hz hkp hS => ?_)
        obtain ⟨M18, e19, hV⟩ := jLet hV
        have hP : va_P D vwCl (wTS B G M18) H := by rw [e19]; exact jTS_0 hP hD hkp hQ
        have hD : va_D A (wTS B G M18) := jD (w := (wTS B G M)) (dTS _ _) hD
        cases hV
        exact mRet C rfl dX8_runCommand_168 rfl rfl hP hS
      · have hV := jF1 hV c4_7
        by_cases c4_13 : v1 = 114
        · have hV := jT1 hV c4_13
          refine lv_tableIn (tgt := 123) hx hb dX8_runCommand_21 (by rw [c4_13]; decide) (by rw [c4_13]; decide) (by rw [c4_13]; rfl) (by decide) ?_
          refine lv_aload_n hx hb dX8_runCommand_123 rfl (lv_at hl 3 rfl) ?_
          refine va_get (D := D) (ci := 10) (v := .ref (B 0 0)) (C := RX8) (T := TX8) (N := 8) hx hb hts ju_X8 hown hK hP 0 rfl rfl 0 (by decide) (hts _ jq_1_17) (fun _ h9 => h9) rfl dX8_runCommand_124 ?_
          refine lv_iload_n hx hb dX8_runCommand_127 rfl (lv_at hl 2 rfl) ?_
          refine lv_iload hx hb dX8_runCommand_128 (lv_at hl 1 rfl) ?_
          obtain ⟨r14, hr14, hV⟩ := jBind hV
          refine jVmI C dX8_runCommand_130 (k_X6_refundSeats l D G (B 0) N (M 0) (rg 3 (M 9 2) (0 : Int32)) (rg 3 (M 9 2) (1 : Int32)) r14 hr14) jy_X6_refundSeats jq_32_14 jq_32_15 jq_32_16 ⟨rfl, rfl, Nat.le_of_ble_eq_true rfl, Nat.le_of_ble_eq_true rfl⟩ ⟨Nat.le_of_ble_eq_true rfl, Nat.le_of_ble_eq_true rfl⟩ (sTS_0 hP) (dTS_0 hD) hA hS (ci := 8) (iw := 0) rfl rfl rfl hl (rest := []) rfl (Nat.le_of_ble_eq_true rfl) (fun H locs hQ hz hkp hS => ?_)
          obtain ⟨M15, e16, hV⟩ := jLet hV
          have hP : va_P D vwCl (wTS B G M15) H := by rw [e16]; exact jTS_0 hP hD hkp hQ
          have hD : va_D A (wTS B G M15) := jD (w := (wTS B G M)) (dTS _ _) hD
          cases hV
          exact mRet C rfl dX8_runCommand_133 rfl rfl hP hS
        · have hV := jF1 hV c4_13
          by_cases c4_14 : v1 = 115
          · have hV := jT1 hV c4_14
            refine lv_tableIn (tgt := 112) hx hb dX8_runCommand_21 (by rw [c4_14]; decide) (by rw [c4_14]; decide) (by rw [c4_14]; rfl) (by decide) ?_
            refine lv_aload_n hx hb dX8_runCommand_112 rfl (lv_at hl 3 rfl) ?_
            refine va_get (D := D) (ci := 10) (v := .ref (B 0 0)) (C := RX8) (T := TX8) (N := 8) hx hb hts ju_X8 hown hK hP 0 rfl rfl 0 (by decide) (hts _ jq_1_17) (fun _ h9 => h9) rfl dX8_runCommand_113 ?_
            refine lv_iload_n hx hb dX8_runCommand_116 rfl (lv_at hl 2 rfl) ?_
            refine lv_iload hx hb dX8_runCommand_117 (lv_at hl 1 rfl) ?_
            obtain ⟨r11, hr11, hV⟩ := jBind hV
            refine jVmI C dX8_runCommand_119 (k_X6_sellSeats l D G (B 0) N (M 0) (rg 3 (M 9 2) (0 : Int32)) (rg 3 (M 9 2) (1 : Int32)) r11 hr11) jy_X6_sellSeats jq_31_19 jq_31_20 jq_31_21 ⟨rfl, rfl, Nat.le_of_ble_eq_true rfl, Nat.le_of_ble_eq_true rfl⟩ ⟨Nat.le_of_ble_eq_true rfl, Nat.le_of_ble_eq_true rfl⟩ (sTS_0 hP) (dTS_0 hD) hA hS (ci := 8) (iw := 0) rfl rfl rfl hl (rest := []) rfl (Nat.le_of_ble_eq_true rfl) (fun H locs hQ hz hkp hS => ?_)
            obtain ⟨M12, e13, hV⟩ := jLet hV
            have hP : va_P D vwCl (wTS B G M12) H := by rw [e13]; exact jTS_0 hP hD hkp hQ
            have hD : va_D A (wTS B G M12) := jD (w := (wTS B G M)) (dTS _ _) hD
            cases hV
            exact mRet C rfl dX8_runCommand_122 rfl rfl hP hS
          · have hV := jF1 hV c4_14
            by_cases c4_18 : v1 = 119
            · have hV := jT1 hV c4_18
              refine lv_tableIn (tgt := 134) hx hb dX8_runCommand_21 (by rw [c4_18]; decide) (by rw [c4_18]; decide) (by rw [c4_18]; rfl) (by decide) ?_
              refine lv_aload_n hx hb dX8_runCommand_134 rfl (lv_at hl 3 rfl) ?_
              refine va_get (D := D) (ci := 10) (v := .ref (B 0 0)) (C := RX8) (T := TX8) (N := 8) hx hb hts ju_X8 hown hK hP 0 rfl rfl 0 (by decide) (hts _ jq_1_17) (fun _ h9 => h9) rfl dX8_runCommand_135 ?_
              refine lv_iload_n hx hb dX8_runCommand_138 rfl (lv_at hl 2 rfl) ?_
              refine lv_iload hx hb dX8_runCommand_139 (lv_at hl 1 rfl) ?_
              refine lv_iload hx hb dX8_runCommand_141 (lv_at hl 0 rfl) ?_
              obtain ⟨r8, hr8, hV⟩ := jBind hV
              refine jVmI C dX8_runCommand_143 (k_X6_makeRequest l D G (B 0) N (M 0) (rg 3 (M 9 2) (0 : Int32)) (rg 3 (M 9 2) (1 : Int32)) (rg 3 (M 9 2) (2 : Int32)) r8 hr8) jy_X6_makeRequest jq_33_9 jq_33_10 jq_33_11 ⟨rfl, rfl, Nat.le_of_ble_eq_true rfl, Nat.le_of_ble_eq_true rfl⟩ ⟨Nat.le_of_ble_eq_true rfl, Nat.le_of_ble_eq_true rfl⟩ (sTS_0 hP) (dTS_0 hD) hA hS (ci := 8) (iw := 0) rfl rfl rfl hl (rest := []) rfl (Nat.le_of_ble_eq_true rfl) (fun H locs hQ hz hkp hS => ?_)
              obtain ⟨M9, e10, hV⟩ := jLet hV
              have hP : va_P D vwCl (wTS B G M9) H := by rw [e10]; exact jTS_0 hP hD hkp hQ
              have hD : va_D A (wTS B G M9) := jD (w := (wTS B G M)) (dTS _ _) hD
              cases hV
              exact mRet C rfl dX8_runCommand_146 rfl rfl hP hS
            · have hV := jF1 hV c4_18
              refine jTabDef (tgt := 182) hx hb dX8_runCommand_21 (fun k h1 h2 h3 => ?_) (by decide) ?_
              · rcases (show k = 101 ∨ k = 102 ∨ k = 103 ∨ k = 104 ∨ k = 105 ∨ k = 106 ∨ k = 107 ∨ k = 108 ∨ k = 109 ∨ k = 110 ∨ k = 111 ∨ k = 112 ∨ k = 113 ∨ k = 114 ∨ k = 115 ∨ k = 116 ∨ k = 117 ∨ k = 118 ∨ k = 119 by omega) with rfl | rfl | rfl | rfl | rfl | rfl | rfl | rfl | rfl | rfl | rfl | rfl | rfl | rfl | rfl | rfl | rfl | rfl | rfl <;> first | rfl | exact absurd (Int32.toInt_inj.mp (h3.trans (by decide))) c4_0 | exact absurd (Int32.toInt_inj.mp (h3.trans (by decide))) c4_3 | exact absurd (Int32.toInt_inj.mp (h3.trans (by decide))) c4_7 | exact absurd (Int32.toInt_inj.mp (h3.trans (by decide))) c4_13 | exact absurd (Int32.toInt_inj.mp (h3.trans (by decide))) c4_14 | exact absurd (Int32.toInt_inj.mp (h3.trans (by decide))) c4_18
              · refine lv_aload_n hx hb dX8_runCommand_182 rfl (lv_at hl 3 rfl) ?_
                refine va_get (D := D) (ci := 10) (v := .ref (B 0 0)) (C := RX8) (T := TX8) (N := 8) hx hb hts ju_X8 hown hK hP 0 rfl rfl 0 (by decide) (hts _ jq_1_17) (fun _ h9 => h9) rfl dX8_runCommand_183 ?_
                refine lv_iload_n hx hb dX8_runCommand_186 rfl (lv_at hl 2 rfl) ?_
                refine lv_iload hx hb dX8_runCommand_187 (lv_at hl 1 rfl) ?_
                obtain ⟨r5, hr5, hV⟩ := jBind hV
                refine jVmI C dX8_runCommand_189 (k_X6_movePerformance l D G (B 0) N (M 0) (rg 3 (M 9 2) (0 : Int32)) (rg 3 (M 9 2) (1 : Int32)) r5 hr5) jy_X6_movePerformance jq_26_12 jq_26_13 jq_26_14 ⟨rfl, rfl, Nat.le_of_ble_eq_true rfl, Nat.le_of_ble_eq_true rfl⟩ ⟨Nat.le_of_ble_eq_true rfl, Nat.le_of_ble_eq_true rfl⟩ (sTS_0 hP) (dTS_0 hD) hA hS (ci := 8) (iw := 0) rfl rfl rfl hl (rest := []) rfl (Nat.le_of_ble_eq_true rfl) (fun H locs hQ hz hkp hS => ?_)
                obtain ⟨M6, e7, hV⟩ := jLet hV
                have hP : va_P D vwCl (wTS B G M6) H := by rw [e7]; exact jTS_0 hP hD hkp hQ
                have hD : va_D A (wTS B G M6) := jD (w := (wTS B G M)) (dTS _ _) hD
                cases hV
                exact mRet C rfl dX8_runCommand_192 rfl rfl hP hS
theorem jy_X8_runCommands : jY yX8_runCommands cX8_runCommands 3 (some .int) 0 := ⟨by decide +kernel, jq_49_0, jq_1_2⟩
def D_X8_runCommands_9 (N : Nat)  : Nat → (Nat → Nat → Nat → Int32) → Int32 → Option (Int32 × (Nat → Nat → Nat → Int32))
  | 0, _, _ => none
  | n + 1, M, v1 => (if (60 : Int32) ≤ v1 then (some (v1, M)) else ((F_X1_takeNext N (M 9) ).bind (fun r1 => (jlet (u1 M 9 (mgX1 (M 9) r1.2)) (fun M2 => (if r1.1 = 0 then (some (v1, M2)) else ((F_X8_runCommand N M2 (M2 9 0 7)).bind (fun r3 => (if 0 ≤ r3.1 then (D_X8_runCommands_9 N   n r3.2 (v1 + 1)) else (some (r3.1, r3.2)))))))))))
set_option maxHeartbeats 4000000 in
set_option maxRecDepth 100000 in
theorem B_X8_runCommands_9 {p : Program} {l : Launch} {e : Env} {s : State} {m : MethodId} {args : Array Value} {below : List Frame} {meth : Method} {c : Code} {D : va_G} {G : Nat → ClassId} {A : Nat → Prop} (C : Cx p s m args meth c cX8_runCommands 3 RX8 (some .int) D G) (hA : ∀ q : Nat, s.heap.size ≤ q → A q) (ks va : Nat → Nat) (hZ : jZ ks va A s s.heap) (N : Nat) (B : Nat → Nat → Nat) (r : (Int32 × (Nat → Nat → Nat → Int32))) : (∀ (n : Nat) (M : Nat → Nat → Nat → Int32) (v1 : Int32) (ls : Array Slot) (H : Heap) (locs : List Loc), va_P D vwCl (wTS B G M) H → va_D A (wTS B G M) → va_S A s.heap H locs → lv_has ls 3 [(0, .ref (B 9 0)), (1, .int v1)] → D_X8_runCommands_9 N   n M v1 = some r → W p l e ({ frames := 6, cells := 0, slots := 0, locals := 157 } : Room) s m args below meth c H locs 0 0 (MQ below (mQ D (wTS B G r.2) (some (.int r.1)) A) args s 0 0 A) (F0 m 9 ls [])) := by
  have C := C
  obtain ⟨hx, hb, hr, hml, hts, hown, hlocks, hK0⟩ := id C
  have hK := hK0.1
  intro n
  induction n with
  | zero =>
    intro M v1 ls H locs hP hD hS hl hV
    rw [D_X8_runCommands_9] at hV
    cases hV
  | succ n ih =>
    intro M v1 ls H locs hP hD hS hl hV
    rw [D_X8_runCommands_9] at hV
    refine lv_iload_n hx hb dX8_runCommands_9 rfl (lv_at hl 1 rfl) ?_
    refine lv_bipush (v := 60) hx hb dX8_runCommands_10 (by decide) ?_
    refine lv_icmp_ge (tgt := 56) hx hb dX8_runCommands_12 (by decide) (fun c7 => ?_) (fun c7 => ?_)
    · have hV := jT1 hV c7
      refine lv_iload_n hx hb dX8_runCommands_56 rfl (lv_at hl 1 rfl) ?_
      cases hV
      exact mRet C rfl dX8_runCommands_57 rfl rfl hP hS
    · have hV := jF1 hV c7
      refine lv_aload_n hx hb dX8_runCommands_15 rfl (lv_at hl 0 rfl) ?_
      refine va_get (D := D) (ci := 10) (v := .ref (B 9 3)) (C := RX8) (T := TX8) (N := 8) hx hb hts ju_X8 hown hK hP 0 rfl rfl 3 (by decide) (hts _ jq_2_2) (fun _ h9 => h9) rfl dX8_runCommands_16 ?_
      obtain ⟨r1, hr1, hV⟩ := jBind hV
      refine jVz C dX8_runCommands_19 (k_X1_takeNext l D G (B 9) ks va N (M 9)  r1 hr1) jy_X1_takeNext jq_49_2 jq_49_3 jq_49_4 ⟨rfl, rfl, Nat.le_of_ble_eq_true rfl, Nat.le_of_ble_eq_true rfl⟩ ⟨Nat.le_of_ble_eq_true rfl, Nat.le_of_ble_eq_true rfl⟩ hZ (sTS_I hP) (dTS_I hD) hA hS (ci := 3) (iw := 0) rfl rfl rfl hl (rest := []) rfl (Nat.le_of_ble_eq_true rfl) (fun H locs hQ hz hkp hS => ?_)
      obtain ⟨M2, e6, hV⟩ := jLet hV
      have hP : va_P D vwCl (wTS B G M2) H := by rw [e6]; exact jTS_I hP hD hkp hQ
      have hD : va_D A (wTS B G M2) := jD (w := (wTS B G M)) (dTS _ _) hD
      refine W.eq (g2 := F0 m 22 ls [.int r1.1]) rfl ?_
      refine lv_if_eq (tgt := 56) hx hb dX8_runCommands_22 (by decide) (fun c5 => ?_) (fun c5 => ?_)
      · have hV := jT1 hV c5
        refine lv_iload_n hx hb dX8_runCommands_56 rfl (lv_at hl 1 rfl) ?_
        cases hV
        exact mRet C rfl dX8_runCommands_57 rfl rfl hP hS
      · have hV := jF1 hV c5
        refine lv_aload_n hx hb dX8_runCommands_25 rfl (lv_at hl 0 rfl) ?_
        refine lv_aload_n hx hb dX8_runCommands_26 rfl (lv_at hl 0 rfl) ?_
        refine va_get (D := D) (ci := 10) (v := .ref (B 9 3)) (C := RX8) (T := TX8) (N := 8) hx hb hts ju_X8 hown hK hP 0 rfl rfl 3 (by decide) (hts _ jq_2_2) (fun _ h9 => h9) rfl dX8_runCommands_27 ?_
        refine va_getN (D := D) (ci := 3) (v := .int (M2 9 0 7)) (C := RX1) (T := TX1) (N := 5) (host := "TheatreSeasons") hx hb hts ju_X1 hown hK (sTS_I hP) 0 rfl rfl 3 (by decide) (va_Nw.use rfl (hK0.2 _ jn_40)) (fun _ h9 => h9) rfl dX8_runCommands_30 ?_
        refine lv_aload_n hx hb dX8_runCommands_33 rfl (lv_at hl 0 rfl) ?_
        refine va_get (D := D) (ci := 10) (v := .ref (B 9 3)) (C := RX8) (T := TX8) (N := 8) hx hb hts ju_X8 hown hK hP 0 rfl rfl 3 (by decide) (hts _ jq_2_2) (fun _ h9 => h9) rfl dX8_runCommands_34 ?_
        refine va_getN (D := D) (ci := 3) (v := .ref (B 9 5)) (C := RX1) (T := TX1) (N := 5) (host := "TheatreSeasons") hx hb hts ju_X1 hown hK (sTS_I hP) 0 rfl rfl 4 (by decide) (va_Nw.use rfl (hK0.2 _ jn_41)) (fun _ h9 => h9) rfl dX8_runCommands_37 ?_
        obtain ⟨r3, hr3, hV⟩ := jBind hV
        refine jVmI C dX8_runCommands_40 (k_X8_runCommand l D G B N M2 (M2 9 0 7) r3 hr3) jy_X8_runCommand jq_49_6 jq_49_7 jq_49_8 ⟨rfl, rfl, Nat.le_of_ble_eq_true rfl, Nat.le_of_ble_eq_true rfl⟩ ⟨Nat.le_of_ble_eq_true rfl, Nat.le_of_ble_eq_true rfl⟩ hP hD hA hS (ci := 10) (iw := 0) rfl rfl rfl hl (rest := []) rfl (Nat.le_of_ble_eq_true rfl) (fun H locs hQ hz hkp hS => ?_)
        have hP : va_P D vwCl (wTS B G r3.2) H := hQ
        have hD : va_D A (wTS B G r3.2) := jD (w := (wTS B G M2)) (dTS _ _) hD
        refine lv_istore_n (lv' := [(2, .int r3.1), (0, .ref (B 9 0)), (1, .int v1)]) hx hb dX8_runCommands_43 rfl hl (by decide) rfl (fun ls hl => ?_)
        refine lv_iload_n hx hb dX8_runCommands_44 rfl (lv_at hl 0 rfl) ?_
        refine lv_if_ge (tgt := 50) hx hb dX8_runCommands_45 (by decide) (fun c4 => ?_) (fun c4 => ?_)
        · have hV := jT1 hV c4
          refine lv_iinc (v := (v1 + 1)) (lv' := [(1, .int (v1 + 1)), (2, .int r3.1), (0, .ref (B 9 0))]) hx hb dX8_runCommands_50 hl (k := 2) rfl rfl (by decide) rfl (fun ls hl => ?_)
          refine lv_goto (tgt := 9) hx hb dX8_runCommands_53 (by decide) ?_
          exact ih r3.2 (v1 + 1) _ _ _ hP hD hS (lv_sub hl [2, 0] rfl) hV
        · have hV := jF1 hV c4
          refine lv_iload_n hx hb dX8_runCommands_48 rfl (lv_at hl 0 rfl) ?_
          cases hV
          exact mRet C rfl dX8_runCommands_49 rfl rfl hP hS
def F_X8_runCommands (N : Nat)  (M : Nat → Nat → Nat → Int32) : Option (Int32 × (Nat → Nat → Nat → Int32)) := ((F_X1_goToStart N (M 9) ).bind (fun r8 => (jlet (u1 M 9 (mgX1 (M 9) r8)) (fun M9 => (D_X8_runCommands_9 N   N M9 (0 : Int32))))))
set_option maxHeartbeats 4000000 in
set_option maxRecDepth 100000 in
theorem k_X8_runCommands (l : Launch) (D : va_G) (G : Nat → ClassId) (B : Nat → Nat → Nat) (ks va : Nat → Nat) (N : Nat) (M : Nat → Nat → Nat → Int32) (r : (Int32 × (Nat → Nat → Nat → Int32))) (hV : F_X8_runCommands N  M  = some r) : zM l yX8_runCommands (jws yX8_runCommands cX8_runCommands 3 (some .int)) ({ frames := 6, cells := 0, slots := 0, locals := 157 } : Room) [.ref (B 9 0)] D G ks va (wTS B G M) (wTS B G r.2) (some (.int r.1)) := by
  refine zM_of (by decide +kernel) (Nat.le_of_ble_eq_true rfl) (fun p e s m args below meth c ls A C hP hD hA hZ hl => ?_)
  have C : Cx p s m args meth c cX8_runCommands 3 RX8 (some .int) D G := C
  have hS : va_S A s.heap s.heap [] := va_S.rf
  obtain ⟨hx, hb, hr, hml, hts, hown, hlocks, hK0⟩ := id C
  have hK := hK0.1
  have hl : lv_has ls 3 [(0, .ref (B 9 0))] := hl
  rw [F_X8_runCommands] at hV
  refine lv_aload_n hx hb dX8_runCommands_0 rfl (lv_at hl 0 rfl) ?_
  refine va_get (D := D) (ci := 10) (v := .ref (B 9 3)) (C := RX8) (T := TX8) (N := 8) hx hb hts ju_X8 hown hK hP 0 rfl rfl 3 (by decide) (hts _ jq_2_2) (fun _ h9 => h9) rfl dX8_runCommands_1 ?_
  obtain ⟨r8, hr8, hV⟩ := jBind hV
  refine jVmV C dX8_runCommands_4 (k_X1_goToStart l D G (B 9) N (M 9)  r8 hr8) jy_X1_goToStart jq_49_1 jq_45_9 jq_45_10 ⟨rfl, rfl, Nat.le_of_ble_eq_true rfl, Nat.le_of_ble_eq_true rfl⟩ ⟨Nat.le_of_ble_eq_true rfl, Nat.le_of_ble_eq_true rfl⟩ (sTS_I hP) (dTS_I hD) hA hS (ci := 3) (iw := 0) rfl rfl rfl hl (rest := []) rfl (Nat.le_of_ble_eq_true rfl) (fun H locs hQ hz hkp hS => ?_)
  obtain ⟨M9, e10, hV⟩ := jLet hV
  have hP : va_P D vwCl (wTS B G M9) H := by rw [e10]; exact jTS_I hP hD hkp hQ
  have hD : va_D A (wTS B G M9) := jD (w := (wTS B G M)) (dTS _ _) hD
  refine lv_iconst (v := 0) hx hb dX8_runCommands_7 (by decide) ?_
  refine lv_istore_n (lv' := [(1, .int (0 : Int32)), (0, .ref (B 9 0))]) hx hb dX8_runCommands_8 rfl hl (by decide) rfl (fun ls hl => ?_)
  exact B_X8_runCommands_9 C hA ks va hZ N B r   N M9 (0 : Int32) _ _ _ hP hD hS (lv_sub hl [1, 0] rfl) hV
theorem jy_X8_read : jY yX8_read cX8_read 3 (some .int) 0 := ⟨by decide +kernel, jq_45_2, jq_1_2⟩
def F_X8_read (N : Nat)  (M : Nat → Nat → Nat → Int32) : Option (Int32 × Int32 × (Nat → Nat → Nat → Int32)) := ((F_X1_findFault N (M 9) ).bind (fun r1 => (jlet (u1 M 9 (mgX1 (M 9) r1.2)) (fun M2 => (if r1.1 = (-1 : Int32) then (jlet (hOpen M2) (fun M4 => ((F_X8_runCommands N M4 ).bind (fun r5 => ((F_X1_clear N (r5.2 9) ).bind (fun r6 => (jlet (u1 r5.2 9 (mgX1 (r5.2 9) r6)) (fun M7 => (if 0 ≤ r5.1 then (jlet (hClose M7) (fun M9 => (some ((0 : Int32), r5.1, M9)))) else (jlet (hBack M7) (fun M12 => ((F_X8_keepRefusal N M12 r5.1).bind (fun r13 => (some ((3 : Int32), (0 : Int32), r13))))))))))))))) else (jlet (stT M2 3 r1.1) (fun M19 => ((F_X1_clear N (M19 9) ).bind (fun r20 => (jlet (u1 M19 9 (mgX1 (M19 9) r20)) (fun M21 => (some ((2 : Int32), (0 : Int32), M21)))))))))))))
set_option maxHeartbeats 4000000 in
set_option maxRecDepth 100000 in
theorem k_X8_read (l : Launch) (hl0 : l.stackTraces = false) (D : va_G) (G : Nat → ClassId) (B : Nat → Nat → Nat) (ks va : Nat → Nat) (N : Nat) (M : Nat → Nat → Nat → Int32) (r : (Int32 × Int32 × (Nat → Nat → Nat → Int32))) (hV : F_X8_read N  M  = some r) : xM l yX8_read (jws yX8_read cX8_read 3 (some .int)) ({ frames := 7, cells := 1, slots := 6, locals := 211 } : Room) [.ref (B 9 0)] D G ks va (wTS B G M) (wTS B G r.2.2) r.1 (some (.int r.2.1)) := by
  refine xM_of (by decide +kernel) (Nat.le_of_ble_eq_true rfl) (fun p e s m args below meth c ls A C hno hP hD hA hZ hl => ?_)
  have C : Cx p s m args meth c cX8_read 3 RX8 (some .int) D G := C
  have hS : va_S A s.heap s.heap [] := va_S.rf
  obtain ⟨hx, hb, hr, hml, hts, hown, hlocks, hK0⟩ := id C
  have hK := hK0.1
  have hl : lv_has ls 3 [(0, .ref (B 9 0))] := hl
  rw [F_X8_read] at hV
  refine lv_aload_n hx hb dX8_read_0 rfl (lv_at hl 0 rfl) ?_
  refine va_get (D := D) (ci := 10) (v := .ref (B 9 3)) (C := RX8) (T := TX8) (N := 8) hx hb hts ju_X8 hown hK hP 0 rfl rfl 3 (by decide) (hts _ jq_2_2) (fun _ h9 => h9) rfl dX8_read_1 ?_
  obtain ⟨r1, hr1, hV⟩ := jBind hV
  refine jVz C dX8_read_4 (k_X1_findFault l D G (B 9) ks va N (M 9)  r1 hr1) jy_X1_findFault jq_45_3 jq_45_4 jq_45_5 ⟨rfl, rfl, Nat.le_of_ble_eq_true rfl, Nat.le_of_ble_eq_true rfl⟩ ⟨Nat.le_of_ble_eq_true rfl, Nat.le_of_ble_eq_true rfl⟩ hZ (sTS_I hP) (dTS_I hD) hA hS (ci := 3) (iw := 0) rfl rfl rfl hl (rest := []) rfl (Nat.le_of_ble_eq_true rfl) (fun H locs hQ hz hkp hS => ?_)
  obtain ⟨M2, e26, hV⟩ := jLet hV
  have hP : va_P D vwCl (wTS B G M2) H := by rw [e26]; exact jTS_I hP hD hkp hQ
  have hD : va_D A (wTS B G M2) := jD (w := (wTS B G M)) (dTS _ _) hD
  refine W.eq (g2 := F0 m 7 ls [.int r1.1]) rfl ?_
  refine lv_istore_n (lv' := [(1, .int r1.1), (0, .ref (B 9 0))]) hx hb dX8_read_7 rfl hl (by decide) rfl (fun ls hl => ?_)
  refine lv_iload_n hx hb dX8_read_8 rfl (lv_at hl 0 rfl) ?_
  refine lv_iconst (v := -1) hx hb dX8_read_9 (by decide) ?_
  refine lv_icmp_eq (tgt := 36) hx hb dX8_read_10 (by decide) (fun c25 => ?_) (fun c25 => ?_)
  · have hV := jT1 hV c25
    refine lv_aload_n hx hb dX8_read_36 rfl (lv_at hl 1 rfl) ?_
    refine va_get (D := D) (ci := 10) (v := .ref (B 9 1)) (C := RX8) (T := TX8) (N := 8) hx hb hts ju_X8 hown hK hP 0 rfl rfl 2 (by decide) (hts _ jq_1_22) (fun _ h9 => h9) rfl dX8_read_37 ?_
    refine lv_aload_n hx hb dX8_read_40 rfl (lv_at hl 1 rfl) ?_
    refine va_get (D := D) (ci := 10) (v := .ref (B 0 0)) (C := RX8) (T := TX8) (N := 8) hx hb hts ju_X8 hown hK hP 0 rfl rfl 0 (by decide) (hts _ jq_1_17) (fun _ h9 => h9) rfl dX8_read_41 ?_
    refine jVmV C dX8_read_44 (kt_X0_open l D G B  M2 ) jy_X0_open jq_6_16 jq_6_17 jq_6_18 ⟨rfl, rfl, Nat.le_of_ble_eq_true rfl, Nat.le_of_ble_eq_true rfl⟩ ⟨Nat.le_of_ble_eq_true rfl, Nat.le_of_ble_eq_true rfl⟩ hP hD hA hS (ci := 2) (iw := 1) rfl rfl rfl hl (rest := []) rfl (Nat.le_of_ble_eq_true rfl) (fun H locs hQ hz hkp hS => ?_)
    obtain ⟨M4, e18, hV⟩ := jLet hV
    have hP : va_P D vwCl (wTS B G M4) H := by rw [e18]; exact jHist hP hD hkp hQ
    have hD : va_D A (wTS B G M4) := jD (w := (wTS B G M2)) (dTS _ _) hD
    refine lv_aload_n hx hb dX8_read_47 rfl (lv_at hl 1 rfl) ?_
    obtain ⟨r5, hr5, hV⟩ := jBind hV
    refine jVz C dX8_read_48 (k_X8_runCommands l D G B ks va N M4  r5 hr5) jy_X8_runCommands jq_48_21 jq_48_22 jq_48_23 ⟨rfl, rfl, Nat.le_of_ble_eq_true rfl, Nat.le_of_ble_eq_true rfl⟩ ⟨Nat.le_of_ble_eq_true rfl, Nat.le_of_ble_eq_true rfl⟩ hZ hP hD hA hS (ci := 10) (iw := 0) rfl rfl rfl hl (rest := []) rfl (Nat.le_of_ble_eq_true rfl) (fun H locs hQ hz hkp hS => ?_)
    have hP : va_P D vwCl (wTS B G r5.2) H := hQ
    have hD : va_D A (wTS B G r5.2) := jD (w := (wTS B G M4)) (dTS _ _) hD
    refine W.eq (g2 := F0 m 51 ls [.int r5.1]) rfl ?_
    refine lv_istore_n (lv' := [(2, .int r5.1), (1, .int r1.1), (0, .ref (B 9 0))]) hx hb dX8_read_51 rfl hl (by decide) rfl (fun ls hl => ?_)
    refine lv_aload_n hx hb dX8_read_52 rfl (lv_at hl 2 rfl) ?_
    refine va_get (D := D) (ci := 10) (v := .ref (B 9 3)) (C := RX8) (T := TX8) (N := 8) hx hb hts ju_X8 hown hK hP 0 rfl rfl 3 (by decide) (hts _ jq_2_2) (fun _ h9 => h9) rfl dX8_read_53 ?_
    obtain ⟨r6, hr6, hV⟩ := jBind hV
    refine jVmV C dX8_read_56 (k_X1_clear l D G (B 9) N (r5.2 9)  r6 hr6) jy_X1_clear jq_48_17 jq_48_18 jq_48_19 ⟨rfl, rfl, Nat.le_of_ble_eq_true rfl, Nat.le_of_ble_eq_true rfl⟩ ⟨Nat.le_of_ble_eq_true rfl, Nat.le_of_ble_eq_true rfl⟩ (sTS_I hP) (dTS_I hD) hA hS (ci := 3) (iw := 0) rfl rfl rfl hl (rest := []) rfl (Nat.le_of_ble_eq_true rfl) (fun H locs hQ hz hkp hS => ?_)
    obtain ⟨M7, e17, hV⟩ := jLet hV
    have hP : va_P D vwCl (wTS B G M7) H := by rw [e17]; exact jTS_I hP hD hkp hQ
    have hD : va_D A (wTS B G M7) := jD (w := (wTS B G r5.2)) (dTS _ _) hD
    refine lv_iload_n hx hb dX8_read_59 rfl (lv_at hl 0 rfl) ?_
    refine lv_if_ge (tgt := 90) hx hb dX8_read_60 (by decide) (fun c16 => ?_) (fun c16 => ?_)
    · have hV := jT1 hV c16
      refine lv_aload_n hx hb dX8_read_90 rfl (lv_at hl 2 rfl) ?_
      refine va_get (D := D) (ci := 10) (v := .ref (B 9 1)) (C := RX8) (T := TX8) (N := 8) hx hb hts ju_X8 hown hK hP 0 rfl rfl 2 (by decide) (hts _ jq_1_22) (fun _ h9 => h9) rfl dX8_read_91 ?_
      refine jVmV C dX8_read_94 (kt_X0_close l D G B  M7 ) jy_X0_close jq_11_7 jq_11_8 jq_11_9 ⟨rfl, rfl, Nat.le_of_ble_eq_true rfl, Nat.le_of_ble_eq_true rfl⟩ ⟨Nat.le_of_ble_eq_true rfl, Nat.le_of_ble_eq_true rfl⟩ hP hD hA hS (ci := 2) (iw := 1) rfl rfl rfl hl (rest := []) rfl (Nat.le_of_ble_eq_true rfl) (fun H locs hQ hz hkp hS => ?_)
      obtain ⟨M9, e10, hV⟩ := jLet hV
      have hP : va_P D vwCl (wTS B G M9) H := by rw [e10]; exact jHist hP hD hkp hQ
      have hD : va_D A (wTS B G M9) := jD (w := (wTS B G M7)) (dTS _ _) hD
      refine lv_iload_n hx hb dX8_read_97 rfl (lv_at hl 0 rfl) ?_
      cases hV
      exact xRet C rfl dX8_read_98 rfl rfl rfl (by decide) (by decide) hP hS
    · have hV := jF1 hV c16
      refine lv_aload_n hx hb dX8_read_63 rfl (lv_at hl 2 rfl) ?_
      refine va_get (D := D) (ci := 10) (v := .ref (B 9 1)) (C := RX8) (T := TX8) (N := 8) hx hb hts ju_X8 hown hK hP 0 rfl rfl 2 (by decide) (hts _ jq_1_22) (fun _ h9 => h9) rfl dX8_read_64 ?_
      refine lv_aload_n hx hb dX8_read_67 rfl (lv_at hl 2 rfl) ?_
      refine va_get (D := D) (ci := 10) (v := .ref (B 0 0)) (C := RX8) (T := TX8) (N := 8) hx hb hts ju_X8 hown hK hP 0 rfl rfl 0 (by decide) (hts _ jq_1_17) (fun _ h9 => h9) rfl dX8_read_68 ?_
      refine jVmV C dX8_read_71 (kt_X0_takeBack l D G B  M7 ) jy_X0_takeBack jq_49_10 jq_49_11 jq_49_12 ⟨rfl, rfl, Nat.le_of_ble_eq_true rfl, Nat.le_of_ble_eq_true rfl⟩ ⟨Nat.le_of_ble_eq_true rfl, Nat.le_of_ble_eq_true rfl⟩ hP hD hA hS (ci := 2) (iw := 1) rfl rfl rfl hl (rest := []) rfl (Nat.le_of_ble_eq_true rfl) (fun H locs hQ hz hkp hS => ?_)
      obtain ⟨M12, e15, hV⟩ := jLet hV
      have hP : va_P D vwCl (wTS B G M12) H := by rw [e15]; exact jHist hP hD hkp hQ
      have hD : va_D A (wTS B G M12) := jD (w := (wTS B G M7)) (dTS _ _) hD
      refine lv_aload_n hx hb dX8_read_74 rfl (lv_at hl 2 rfl) ?_
      refine lv_iload_n hx hb dX8_read_75 rfl (lv_at hl 0 rfl) ?_
      obtain ⟨r13, hr13, hV⟩ := jBind hV
      refine jVmV C dX8_read_76 (k_X8_keepRefusal l D G B N M12 r5.1 r13 hr13) jy_X8_keepRefusal jq_12_1 jq_12_2 jq_12_3 ⟨rfl, rfl, Nat.le_of_ble_eq_true rfl, Nat.le_of_ble_eq_true rfl⟩ ⟨Nat.le_of_ble_eq_true rfl, Nat.le_of_ble_eq_true rfl⟩ hP hD hA hS (ci := 10) (iw := 0) rfl rfl rfl hl (rest := []) rfl (Nat.le_of_ble_eq_true rfl) (fun H locs hQ hz hkp hS => ?_)
      have hP : va_P D vwCl (wTS B G r13) H := hQ
      have hD : va_D A (wTS B G r13) := jD (w := (wTS B G M12)) (dTS _ _) hD
      obtain ⟨sa14, hsa14⟩ := hZ.2.2.2.2.2.2 _ jms_315
      cases hV
      exact xThrowW C hno hl0 (by decide) (by decide) jq_11_3 jq_11_4 hsa14 (xat_296 C) xgd_296_292 hZ hS hA hP hl dX8_read_79 dX8_read_82 dX8_read_83 dX8_read_86 dX8_read_89 (rest := []) (Nat.le_of_ble_eq_true rfl) (Nat.le_of_ble_eq_true rfl) (Nat.le_of_ble_eq_true rfl) (Nat.le_of_ble_eq_true rfl) (by decide) (by decide) (show (3 : Int32) ≠ 0 by decide) (show exN 3 = "java/lang/IllegalStateException" by decide)
  · have hV := jF1 hV c25
    refine lv_aload_n hx hb dX8_read_13 rfl (lv_at hl 1 rfl) ?_
    refine lv_iload_n hx hb dX8_read_14 rfl (lv_at hl 0 rfl) ?_
    refine va_put (D := D) (ci := 10) (v := .int r1.1) (ty := .int) (C := RX8) (T := TX8) (N := 8) hx hb hts ju_X8 tyX8 tyX8_ok nmX8 hown hK hP hD hS 0 rfl rfl 7 (by decide) (hts _ jq_2_5) (fun _ h9 => h9) rfl (by decide +kernel) rfl rfl (Nat.le_of_ble_eq_true rfl) dX8_read_15 (fun H locs hP hD hS => ?_)
    obtain ⟨M19, e24, hV⟩ := jLet hV
    have hP : va_P D vwCl (wTS B G M19) H := by rw [e24, wTS_st]; exact hP
    have hD : va_D A (wTS B G M19) := by rw [e24, wTS_st]; exact hD
    refine lv_aload_n hx hb dX8_read_18 rfl (lv_at hl 1 rfl) ?_
    refine va_get (D := D) (ci := 10) (v := .ref (B 9 3)) (C := RX8) (T := TX8) (N := 8) hx hb hts ju_X8 hown hK hP 0 rfl rfl 3 (by decide) (hts _ jq_2_2) (fun _ h9 => h9) rfl dX8_read_19 ?_
    obtain ⟨r20, hr20, hV⟩ := jBind hV
    refine jVmV C dX8_read_22 (k_X1_clear l D G (B 9) N (M19 9)  r20 hr20) jy_X1_clear jq_48_17 jq_48_18 jq_48_19 ⟨rfl, rfl, Nat.le_of_ble_eq_true rfl, Nat.le_of_ble_eq_true rfl⟩ ⟨Nat.le_of_ble_eq_true rfl, Nat.le_of_ble_eq_true rfl⟩ (sTS_I hP) (dTS_I hD) hA hS (ci := 3) (iw := 0) rfl rfl rfl hl (rest := []) rfl (Nat.le_of_ble_eq_true rfl) (fun H locs hQ hz hkp hS => ?_)
    obtain ⟨M21, e23, hV⟩ := jLet hV
    have hP : va_P D vwCl (wTS B G M21) H := by rw [e23]; exact jTS_I hP hD hkp hQ
    have hD : va_D A (wTS B G M21) := jD (w := (wTS B G M19)) (dTS _ _) hD
    obtain ⟨sa22, hsa22⟩ := hZ.2.2.2.2.2.2 _ jms_303
    cases hV
    exact xThrowW C hno hl0 (by decide) (by decide) jq_11_23 jq_12_0 hsa22 (xat_118 C) xgd_118_114 hZ hS hA hP hl dX8_read_25 dX8_read_28 dX8_read_29 dX8_read_32 dX8_read_35 (rest := []) (Nat.le_of_ble_eq_true rfl) (Nat.le_of_ble_eq_true rfl) (Nat.le_of_ble_eq_true rfl) (Nat.le_of_ble_eq_true rfl) (by decide) (by decide) (show (2 : Int32) ≠ 0 by decide) (show exN 2 = "java/lang/IllegalArgumentException" by decide)
theorem jy_X8_errorPosition : jY yX8_errorPosition cX8_errorPosition 1 (some .int) 0 := ⟨by decide +kernel, jq_50_23, jq_1_2⟩
def F_X8_errorPosition (N : Nat)  (M : Nat → Nat → Nat → Int32) : Option (Int32 × Int32 × (Nat → Nat → Nat → Int32)) := (if (M 9 0 3) = (-1 : Int32) then (some ((5 : Int32), (0 : Int32), M)) else (some ((0 : Int32), (M 9 0 3), M)))
set_option maxHeartbeats 4000000 in
set_option maxRecDepth 100000 in
theorem k_X8_errorPosition (l : Launch) (hl0 : l.stackTraces = false) (D : va_G) (G : Nat → ClassId) (B : Nat → Nat → Nat) (ks va : Nat → Nat) (N : Nat) (M : Nat → Nat → Nat → Int32) (r : (Int32 × Int32 × (Nat → Nat → Nat → Int32))) (hV : F_X8_errorPosition N  M  = some r) : xM l yX8_errorPosition (jws yX8_errorPosition cX8_errorPosition 1 (some .int)) ({ frames := 7, cells := 1, slots := 6, locals := 100 } : Room) [.ref (B 9 0)] D G ks va (wTS B G M) (wTS B G r.2.2) r.1 (some (.int r.2.1)) := by
  refine xM_of (by decide +kernel) (Nat.le_of_ble_eq_true rfl) (fun p e s m args below meth c ls A C hno hP hD hA hZ hl => ?_)
  have C : Cx p s m args meth c cX8_errorPosition 1 RX8 (some .int) D G := C
  have hS : va_S A s.heap s.heap [] := va_S.rf
  obtain ⟨hx, hb, hr, hml, hts, hown, hlocks, hK0⟩ := id C
  have hK := hK0.1
  have hl : lv_has ls 1 [(0, .ref (B 9 0))] := hl
  rw [F_X8_errorPosition] at hV
  refine lv_aload_n hx hb dX8_errorPosition_0 rfl (lv_at hl 0 rfl) ?_
  refine va_get (D := D) (ci := 10) (v := .int (M 9 0 3)) (C := RX8) (T := TX8) (N := 8) hx hb hts ju_X8 hown hK hP 0 rfl rfl 7 (by decide) (hts _ jq_2_5) (fun _ h9 => h9) rfl dX8_errorPosition_1 ?_
  refine lv_iconst (v := -1) hx hb dX8_errorPosition_4 (by decide) ?_
  refine lv_icmp_ne (tgt := 19) hx hb dX8_errorPosition_5 (by decide) (fun c2 => ?_) (fun c2 => ?_)
  · have hV := jF1 hV c2
    refine lv_aload_n hx hb dX8_errorPosition_19 rfl (lv_at hl 0 rfl) ?_
    refine va_get (D := D) (ci := 10) (v := .int (M 9 0 3)) (C := RX8) (T := TX8) (N := 8) hx hb hts ju_X8 hown hK hP 0 rfl rfl 7 (by decide) (hts _ jq_2_5) (fun _ h9 => h9) rfl dX8_errorPosition_20 ?_
    cases hV
    exact xRet C rfl dX8_errorPosition_23 rfl rfl rfl (by decide) (by decide) hP hS
  · have hV := jT1 hV c2
    obtain ⟨sa1, hsa1⟩ := hZ.2.2.2.2.2.2 _ jms_320
    cases hV
    exact xThrowWN C hno hl0 (by decide) (by decide) jqn_0 jq_28_10 hsa1 (xat_175 C) xgd_175_171 hZ hS hA hP hl dX8_errorPosition_8 dX8_errorPosition_11 dX8_errorPosition_12 dX8_errorPosition_15 dX8_errorPosition_18 (rest := []) (Nat.le_of_ble_eq_true rfl) (Nat.le_of_ble_eq_true rfl) (Nat.le_of_ble_eq_true rfl) (Nat.le_of_ble_eq_true rfl) (by decide) (by decide) (show (5 : Int32) ≠ 0 by decide) (show exN 5 = "java/util/NoSuchElementException" by decide)
theorem jy_X8_undo : jY yX8_undo cX8_undo 1 (some .int) 0 := ⟨by decide +kernel, jq_51_10, jq_1_2⟩
def F_X8_undo (N : Nat)  (M : Nat → Nat → Nat → Int32) : Option (Int32 × Int32 × (Nat → Nat → Nat → Int32)) := (if 0 < (M 9 0 4) then (jlet (hStep M) (fun M2 => (some ((0 : Int32), (M2 9 0 4), M2)))) else (some ((5 : Int32), (0 : Int32), M)))
set_option maxHeartbeats 4000000 in
set_option maxRecDepth 100000 in
theorem k_X8_undo (l : Launch) (hl0 : l.stackTraces = false) (D : va_G) (G : Nat → ClassId) (B : Nat → Nat → Nat) (ks va : Nat → Nat) (N : Nat) (M : Nat → Nat → Nat → Int32) (r : (Int32 × Int32 × (Nat → Nat → Nat → Int32))) (hV : F_X8_undo N  M  = some r) : xM l yX8_undo (jws yX8_undo cX8_undo 1 (some .int)) ({ frames := 7, cells := 1, slots := 6, locals := 211 } : Room) [.ref (B 9 0)] D G ks va (wTS B G M) (wTS B G r.2.2) r.1 (some (.int r.2.1)) := by
  refine xM_of (by decide +kernel) (Nat.le_of_ble_eq_true rfl) (fun p e s m args below meth c ls A C hno hP hD hA hZ hl => ?_)
  have C : Cx p s m args meth c cX8_undo 1 RX8 (some .int) D G := C
  have hS : va_S A s.heap s.heap [] := va_S.rf
  obtain ⟨hx, hb, hr, hml, hts, hown, hlocks, hK0⟩ := id C
  have hK := hK0.1
  have hl : lv_has ls 1 [(0, .ref (B 9 0))] := hl
  rw [F_X8_undo] at hV
  refine lv_aload_n hx hb dX8_undo_0 rfl (lv_at hl 0 rfl) ?_
  refine va_get (D := D) (ci := 10) (v := .ref (B 9 1)) (C := RX8) (T := TX8) (N := 8) hx hb hts ju_X8 hown hK hP 0 rfl rfl 2 (by decide) (hts _ jq_1_22) (fun _ h9 => h9) rfl dX8_undo_1 ?_
  refine va_getN (D := D) (ci := 2) (v := .int (M 9 0 4)) (C := RX0) (T := TX0) (N := 2) (host := "TheatreSeasons") hx hb hts ju_X0 hown hK hP 1 rfl rfl 1 (by decide) (va_Nw.use rfl (hK0.2 _ jn_38)) (fun _ h9 => h9) rfl dX8_undo_4 ?_
  refine lv_if_gt (tgt := 21) hx hb dX8_undo_7 (by decide) (fun c5 => ?_) (fun c5 => ?_)
  · have hV := jT1 hV c5
    refine lv_aload_n hx hb dX8_undo_21 rfl (lv_at hl 0 rfl) ?_
    refine va_get (D := D) (ci := 10) (v := .ref (B 9 1)) (C := RX8) (T := TX8) (N := 8) hx hb hts ju_X8 hown hK hP 0 rfl rfl 2 (by decide) (hts _ jq_1_22) (fun _ h9 => h9) rfl dX8_undo_22 ?_
    refine lv_aload_n hx hb dX8_undo_25 rfl (lv_at hl 0 rfl) ?_
    refine va_get (D := D) (ci := 10) (v := .ref (B 0 0)) (C := RX8) (T := TX8) (N := 8) hx hb hts ju_X8 hown hK hP 0 rfl rfl 0 (by decide) (hts _ jq_1_17) (fun _ h9 => h9) rfl dX8_undo_26 ?_
    refine jVmV C dX8_undo_29 (kt_X0_stepBack l D G B  M ) jy_X0_stepBack jq_51_11 jq_51_12 jq_51_13 ⟨rfl, rfl, Nat.le_of_ble_eq_true rfl, Nat.le_of_ble_eq_true rfl⟩ ⟨Nat.le_of_ble_eq_true rfl, Nat.le_of_ble_eq_true rfl⟩ hP hD hA hS (ci := 2) (iw := 1) rfl rfl rfl hl (rest := []) rfl (Nat.le_of_ble_eq_true rfl) (fun H locs hQ hz hkp hS => ?_)
    obtain ⟨M2, e3, hV⟩ := jLet hV
    have hP : va_P D vwCl (wTS B G M2) H := by rw [e3]; exact jHist hP hD hkp hQ
    have hD : va_D A (wTS B G M2) := jD (w := (wTS B G M)) (dTS _ _) hD
    refine lv_aload_n hx hb dX8_undo_32 rfl (lv_at hl 0 rfl) ?_
    refine va_get (D := D) (ci := 10) (v := .ref (B 9 1)) (C := RX8) (T := TX8) (N := 8) hx hb hts ju_X8 hown hK hP 0 rfl rfl 2 (by decide) (hts _ jq_1_22) (fun _ h9 => h9) rfl dX8_undo_33 ?_
    refine va_getN (D := D) (ci := 2) (v := .int (M2 9 0 4)) (C := RX0) (T := TX0) (N := 2) (host := "TheatreSeasons") hx hb hts ju_X0 hown hK hP 1 rfl rfl 1 (by decide) (va_Nw.use rfl (hK0.2 _ jn_38)) (fun _ h9 => h9) rfl dX8_undo_36 ?_
    cases hV
    exact xRet C rfl dX8_undo_39 rfl rfl rfl (by decide) (by decide) hP hS
  · have hV := jF1 hV c5
    obtain ⟨sa4, hsa4⟩ := hZ.2.2.2.2.2.2 _ jms_322
    cases hV
    exact xThrowWN C hno hl0 (by decide) (by decide) jqn_0 jq_28_10 hsa4 (xat_175 C) xgd_175_171 hZ hS hA hP hl dX8_undo_10 dX8_undo_13 dX8_undo_14 dX8_undo_17 dX8_undo_20 (rest := []) (Nat.le_of_ble_eq_true rfl) (Nat.le_of_ble_eq_true rfl) (Nat.le_of_ble_eq_true rfl) (Nat.le_of_ble_eq_true rfl) (by decide) (by decide) (show (5 : Int32) ≠ 0 by decide) (show exN 5 = "java/util/NoSuchElementException" by decide)
theorem jy_X8_save : jY yX8_save cX8_save 1 (some .int) 0 := ⟨by decide +kernel, jq_51_22, jq_1_2⟩
def F_X8_save (N : Nat)  (M : Nat → Nat → Nat → Int32) : Option (Int32 × (Nat → Nat → Nat → Int32)) := (jlet (u1 M 1 (M 0)) (fun M1 => (jlet (stT M1 0 (1 : Int32)) (fun M3 => (some (((M3 0) 0 3), M3))))))
set_option maxHeartbeats 4000000 in
set_option maxRecDepth 100000 in
theorem k_X8_save (l : Launch) (D : va_G) (G : Nat → ClassId) (B : Nat → Nat → Nat) (N : Nat) (M : Nat → Nat → Nat → Int32) (r : (Int32 × (Nat → Nat → Nat → Int32))) (hV : F_X8_save N  M  = some r) : mM l yX8_save (jws yX8_save cX8_save 1 (some .int)) ({ frames := 4, cells := 0, slots := 0, locals := 151 } : Room) [.ref (B 9 0)] D G (wTS B G M) (wTS B G r.2) (some (.int r.1)) := by
  refine mM_of (by decide +kernel) (Nat.le_of_ble_eq_true rfl) (fun p e s m args below meth c ls A C hP hD hA hl => ?_)
  have C : Cx p s m args meth c cX8_save 1 RX8 (some .int) D G := C
  have hS : va_S A s.heap s.heap [] := va_S.rf
  obtain ⟨hx, hb, hr, hml, hts, hown, hlocks, hK0⟩ := id C
  have hK := hK0.1
  have hl : lv_has ls 1 [(0, .ref (B 9 0))] := hl
  rw [F_X8_save] at hV
  refine lv_aload_n hx hb dX8_save_0 rfl (lv_at hl 0 rfl) ?_
  refine va_get (D := D) (ci := 10) (v := .ref (B 1 0)) (C := RX8) (T := TX8) (N := 8) hx hb hts ju_X8 hown hK hP 0 rfl rfl 1 (by decide) (hts _ jq_1_18) (fun _ h9 => h9) rfl dX8_save_1 ?_
  refine lv_aload_n hx hb dX8_save_4 rfl (lv_at hl 0 rfl) ?_
  refine va_get (D := D) (ci := 10) (v := .ref (B 0 0)) (C := RX8) (T := TX8) (N := 8) hx hb hts ju_X8 hown hK hP 0 rfl rfl 0 (by decide) (hts _ jq_1_17) (fun _ h9 => h9) rfl dX8_save_5 ?_
  refine jVmV C dX8_save_8 (kc_X6 l D G (B 1) (B 0) (M 1) (M 0)) jy_X6_copyFrom jq_52_0 jq_7_5 jq_7_6 ⟨rfl, rfl, Nat.le_of_ble_eq_true rfl, Nat.le_of_ble_eq_true rfl⟩ ⟨Nat.le_of_ble_eq_true rfl, Nat.le_of_ble_eq_true rfl⟩ (s2TS (by omega) (by omega) hP) (d2TS (by omega) (by omega) (by omega) hD) hA hS (ci := 8) (iw := 0) rfl rfl rfl hl (rest := []) rfl (Nat.le_of_ble_eq_true rfl) (fun H locs hQ hz hkp hS => ?_)
  obtain ⟨M1, e2, hV⟩ := jLet hV
  have hP : va_P D vwCl (wTS B G M1) H := by rw [e2]; exact j2TS (by omega) (by omega) (by omega) hP hD hkp hQ
  have hD : va_D A (wTS B G M1) := jD (w := (wTS B G M)) (dTS _ _) hD
  refine lv_aload_n hx hb dX8_save_11 rfl (lv_at hl 0 rfl) ?_
  refine lv_iconst (v := 1) hx hb dX8_save_12 (by decide) ?_
  refine va_put (D := D) (ci := 10) (v := .int (1 : Int32)) (ty := .boolean) (C := RX8) (T := TX8) (N := 8) hx hb hts ju_X8 tyX8 tyX8_ok nmX8 hown hK hP hD hS 0 rfl rfl 4 (by decide) (hts _ jq_51_23) (fun _ h9 => h9) rfl (by decide +kernel) rfl rfl (Nat.le_of_ble_eq_true rfl) dX8_save_13 (fun H locs hP hD hS => ?_)
  obtain ⟨M3, e4, hV⟩ := jLet hV
  have hP : va_P D vwCl (wTS B G M3) H := by rw [e4, wTS_st]; exact hP
  have hD : va_D A (wTS B G M3) := by rw [e4, wTS_st]; exact hD
  refine lv_aload_n hx hb dX8_save_16 rfl (lv_at hl 0 rfl) ?_
  refine va_get (D := D) (ci := 10) (v := .ref (B 0 0)) (C := RX8) (T := TX8) (N := 8) hx hb hts ju_X8 hown hK hP 0 rfl rfl 0 (by decide) (hts _ jq_1_17) (fun _ h9 => h9) rfl dX8_save_17 ?_
  refine va_getN (D := D) (ci := 8) (v := .ref (B 0 37)) (C := RX6) (T := TX6) (N := 7) (host := "TheatreSeasons") hx hb hts ju_X6 hown hK (sTS_0 hP) 0 rfl rfl 4 (by decide) (va_Nw.use rfl (hK0.2 _ jn_35)) (fun _ h9 => h9) rfl dX8_save_20 ?_
  refine va_getN (D := D) (ci := 4) (v := .int ((M3 0) 0 3)) (C := RX2) (T := TX2) (N := 7) (host := "TheatreSeasons") hx hb hts ju_X2 hown hK (sX6_X2 (sTS_0 hP)) 0 rfl rfl 0 (by decide) (va_Nw.use rfl (hK0.2 _ jn_10)) (fun _ h9 => h9) rfl dX8_save_23 ?_
  cases hV
  exact mRet C rfl dX8_save_26 rfl rfl hP hS
theorem jy_X8_restore : jY yX8_restore cX8_restore 1 (some .int) 0 := ⟨by decide +kernel, jq_52_12, jq_1_2⟩
def F_X8_restore (N : Nat)  (M : Nat → Nat → Nat → Int32) : Option (Int32 × Int32 × (Nat → Nat → Nat → Int32)) := (if (M 9 0 0) = 0 then (some ((3 : Int32), (0 : Int32), M)) else (jlet (u1 M 0 (M 1)) (fun M1 => (jlet (stT M1 4 0) (fun M4 => (some ((0 : Int32), ((M4 0) 0 3), M4)))))))
set_option maxHeartbeats 4000000 in
set_option maxRecDepth 100000 in
theorem k_X8_restore (l : Launch) (hl0 : l.stackTraces = false) (D : va_G) (G : Nat → ClassId) (B : Nat → Nat → Nat) (ks va : Nat → Nat) (N : Nat) (M : Nat → Nat → Nat → Int32) (r : (Int32 × Int32 × (Nat → Nat → Nat → Int32))) (hV : F_X8_restore N  M  = some r) : xM l yX8_restore (jws yX8_restore cX8_restore 1 (some .int)) ({ frames := 7, cells := 1, slots := 6, locals := 151 } : Room) [.ref (B 9 0)] D G ks va (wTS B G M) (wTS B G r.2.2) r.1 (some (.int r.2.1)) := by
  refine xM_of (by decide +kernel) (Nat.le_of_ble_eq_true rfl) (fun p e s m args below meth c ls A C hno hP hD hA hZ hl => ?_)
  have C : Cx p s m args meth c cX8_restore 1 RX8 (some .int) D G := C
  have hS : va_S A s.heap s.heap [] := va_S.rf
  obtain ⟨hx, hb, hr, hml, hts, hown, hlocks, hK0⟩ := id C
  have hK := hK0.1
  have hl : lv_has ls 1 [(0, .ref (B 9 0))] := hl
  rw [F_X8_restore] at hV
  refine lv_aload_n hx hb dX8_restore_0 rfl (lv_at hl 0 rfl) ?_
  refine va_get (D := D) (ci := 10) (v := .int (M 9 0 0)) (C := RX8) (T := TX8) (N := 8) hx hb hts ju_X8 hown hK hP 0 rfl rfl 4 (by decide) (hts _ jq_51_23) (fun _ h9 => h9) rfl dX8_restore_1 ?_
  refine lv_if_ne (tgt := 18) hx hb dX8_restore_4 (by decide) (fun c7 => ?_) (fun c7 => ?_)
  · have hV := jF1 hV c7
    refine lv_aload_n hx hb dX8_restore_18 rfl (lv_at hl 0 rfl) ?_
    refine va_get (D := D) (ci := 10) (v := .ref (B 0 0)) (C := RX8) (T := TX8) (N := 8) hx hb hts ju_X8 hown hK hP 0 rfl rfl 0 (by decide) (hts _ jq_1_17) (fun _ h9 => h9) rfl dX8_restore_19 ?_
    refine lv_aload_n hx hb dX8_restore_22 rfl (lv_at hl 0 rfl) ?_
    refine va_get (D := D) (ci := 10) (v := .ref (B 1 0)) (C := RX8) (T := TX8) (N := 8) hx hb hts ju_X8 hown hK hP 0 rfl rfl 1 (by decide) (hts _ jq_1_18) (fun _ h9 => h9) rfl dX8_restore_23 ?_
    refine jVmV C dX8_restore_26 (kc_X6 l D G (B 0) (B 1) (M 0) (M 1)) jy_X6_copyFrom jq_52_0 jq_7_5 jq_7_6 ⟨rfl, rfl, Nat.le_of_ble_eq_true rfl, Nat.le_of_ble_eq_true rfl⟩ ⟨Nat.le_of_ble_eq_true rfl, Nat.le_of_ble_eq_true rfl⟩ (s2TS (by omega) (by omega) hP) (d2TS (by omega) (by omega) (by omega) hD) hA hS (ci := 8) (iw := 0) rfl rfl rfl hl (rest := []) rfl (Nat.le_of_ble_eq_true rfl) (fun H locs hQ hz hkp hS => ?_)
    obtain ⟨M1, e2, hV⟩ := jLet hV
    have hP : va_P D vwCl (wTS B G M1) H := by rw [e2]; exact j2TS (by omega) (by omega) (by omega) hP hD hkp hQ
    have hD : va_D A (wTS B G M1) := jD (w := (wTS B G M)) (dTS _ _) hD
    refine lv_aload_n hx hb dX8_restore_29 rfl (lv_at hl 0 rfl) ?_
    refine va_get (D := D) (ci := 10) (v := .ref (B 9 1)) (C := RX8) (T := TX8) (N := 8) hx hb hts ju_X8 hown hK hP 0 rfl rfl 2 (by decide) (hts _ jq_1_22) (fun _ h9 => h9) rfl dX8_restore_30 ?_
    refine jVmV C dX8_restore_33 (kt_X0_forget l D G B  M1 ) jy_X0_forget jq_52_13 jq_52_14 jq_52_15 ⟨rfl, rfl, Nat.le_of_ble_eq_true rfl, Nat.le_of_ble_eq_true rfl⟩ ⟨Nat.le_of_ble_eq_true rfl, Nat.le_of_ble_eq_true rfl⟩ hP hD hA hS (ci := 2) (iw := 1) rfl rfl rfl hl (rest := []) rfl (Nat.le_of_ble_eq_true rfl) (fun H locs hQ hz hkp hS => ?_)
    obtain ⟨M4, e5, hV⟩ := jLet hV
    have hP : va_P D vwCl (wTS B G M4) H := by rw [e5]; exact jHist hP hD hkp hQ
    have hD : va_D A (wTS B G M4) := jD (w := (wTS B G M1)) (dTS _ _) hD
    refine lv_aload_n hx hb dX8_restore_36 rfl (lv_at hl 0 rfl) ?_
    refine va_get (D := D) (ci := 10) (v := .ref (B 0 0)) (C := RX8) (T := TX8) (N := 8) hx hb hts ju_X8 hown hK hP 0 rfl rfl 0 (by decide) (hts _ jq_1_17) (fun _ h9 => h9) rfl dX8_restore_37 ?_
    refine va_getN (D := D) (ci := 8) (v := .ref (B 0 37)) (C := RX6) (T := TX6) (N := 7) (host := "TheatreSeasons") hx hb hts ju_X6 hown hK (sTS_0 hP) 0 rfl rfl 4 (by decide) (va_Nw.use rfl (hK0.2 _ jn_35)) (fun _ h9 => h9) rfl dX8_restore_40 ?_
    refine va_getN (D := D) (ci := 4) (v := .int ((M4 0) 0 3)) (C := RX2) (T := TX2) (N := 7) (host := "TheatreSeasons") hx hb hts ju_X2 hown hK (sX6_X2 (sTS_0 hP)) 0 rfl rfl 0 (by decide) (va_Nw.use rfl (hK0.2 _ jn_10)) (fun _ h9 => h9) rfl dX8_restore_43 ?_
    cases hV
    exact xRet C rfl dX8_restore_46 rfl rfl rfl (by decide) (by decide) hP hS
  · have hV := jT1 hV c7
    obtain ⟨sa6, hsa6⟩ := hZ.2.2.2.2.2.2 _ jms_334
    cases hV
    exact xThrowW C hno hl0 (by decide) (by decide) jq_11_3 jq_11_4 hsa6 (xat_296 C) xgd_296_292 hZ hS hA hP hl dX8_restore_7 dX8_restore_10 dX8_restore_11 dX8_restore_14 dX8_restore_17 (rest := []) (Nat.le_of_ble_eq_true rfl) (Nat.le_of_ble_eq_true rfl) (Nat.le_of_ble_eq_true rfl) (Nat.le_of_ble_eq_true rfl) (by decide) (by decide) (show (3 : Int32) ≠ 0 by decide) (show exN 3 = "java/lang/IllegalStateException" by decide)
