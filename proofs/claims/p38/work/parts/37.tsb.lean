theorem jy_X8_sell : jY yX8_sell cX8_sell 3 (some .int) 2 := ⟨by decide +kernel, jq_17_12, jq_1_2⟩
def F_X8_sell (N : Nat)  (M : Nat → Nat → Nat → Int32) (v1 v2 : Int32) : Option (Int32 × Int32 × (Nat → Nat → Nat → Int32)) := (jlet (hOpen M) (fun M2 => ((F_X6_sellSeats N (M2 0) v1 v2).bind (fun r3 => (jlet (u1 M2 0 r3.2) (fun M4 => ((F_X8_closeChange N M4 r3.1).bind (fun r5 => (if r5.1 = 0 then (some ((0 : Int32), r5.2.1, r5.2.2)) else (some (r5.1, (0 : Int32), r5.2.2)))))))))))
set_option maxHeartbeats 4000000 in
set_option maxRecDepth 100000 in
theorem k_X8_sell (l : Launch) (hl0 : l.stackTraces = false) (D : va_G) (G : Nat → ClassId) (B : Nat → Nat → Nat) (ks va : Nat → Nat) (N : Nat) (M : Nat → Nat → Nat → Int32) (v1 v2 : Int32) (r : (Int32 × Int32 × (Nat → Nat → Nat → Int32))) (hV : F_X8_sell N  M v1 v2 = some r) : xM l yX8_sell (jws yX8_sell cX8_sell 3 (some .int)) ({ frames := 9, cells := 3, slots := 18, locals := 211 } : Room) [.ref (B 9 0), .int v1, .int v2] D G ks va (wTS B G M) (wTS B G r.2.2) r.1 (some (.int r.2.1)) := by
  refine xM_of (by decide +kernel) (Nat.le_of_ble_eq_true rfl) (fun p e s m args below meth c ls A C hno hP hD hA hZ hl => ?_)
  have C : Cx p s m args meth c cX8_sell 3 RX8 (some .int) D G := C
  have hS : va_S A s.heap s.heap [] := va_S.rf
  obtain ⟨hx, hb, hr, hml, hts, hown, hlocks, hK0⟩ := id C
  have hK := hK0.1
  have hl : lv_has ls 3 [(0, .ref (B 9 0)), (1, .int v1), (2, .int v2)] := hl
  rw [F_X8_sell] at hV
  refine lv_aload_n hx hb dX8_sell_0 rfl (lv_at hl 0 rfl) ?_
  refine va_get (D := D) (ci := 10) (v := .ref (B 9 1)) (C := RX8) (T := TX8) (N := 8) hx hb hts ju_X8 hown hK hP 0 rfl rfl 2 (by decide) (hts _ jq_2_0) (fun _ h9 => h9) rfl dX8_sell_1 ?_
  refine lv_aload_n hx hb dX8_sell_4 rfl (lv_at hl 0 rfl) ?_
  refine va_get (D := D) (ci := 10) (v := .ref (B 0 0)) (C := RX8) (T := TX8) (N := 8) hx hb hts ju_X8 hown hK hP 0 rfl rfl 0 (by decide) (hts _ jq_1_19) (fun _ h9 => h9) rfl dX8_sell_5 ?_
  refine jVmV C dX8_sell_8 (kt_X0_open l D G B  M ) jy_X0_open jq_8_14 jq_8_15 jq_8_16 ⟨rfl, rfl, Nat.le_of_ble_eq_true rfl, Nat.le_of_ble_eq_true rfl⟩ ⟨Nat.le_of_ble_eq_true rfl, Nat.le_of_ble_eq_true rfl⟩ hP hD hA hS (ci := 2) (iw := 1) rfl rfl rfl hl (rest := []) rfl (Nat.le_of_ble_eq_true rfl) (fun H locs hQ hz hkp hS => ?_)
  obtain ⟨M2, e7, hV⟩ := jLet hV
  have hP : va_P D vwCl (wTS B G M2) H := by rw [e7]; exact jHist hP hD hkp hQ
  have hD : va_D A (wTS B G M2) := jD (w := (wTS B G M)) (dTS _ _) hD
  refine lv_aload_n hx hb dX8_sell_11 rfl (lv_at hl 0 rfl) ?_
  refine lv_aload_n hx hb dX8_sell_12 rfl (lv_at hl 0 rfl) ?_
  refine va_get (D := D) (ci := 10) (v := .ref (B 0 0)) (C := RX8) (T := TX8) (N := 8) hx hb hts ju_X8 hown hK hP 0 rfl rfl 0 (by decide) (hts _ jq_1_19) (fun _ h9 => h9) rfl dX8_sell_13 ?_
  refine lv_iload_n hx hb dX8_sell_16 rfl (lv_at hl 1 rfl) ?_
  refine lv_iload_n hx hb dX8_sell_17 rfl (lv_at hl 2 rfl) ?_
  obtain ⟨r3, hr3, hV⟩ := jBind hV
  refine jVmI C dX8_sell_18 (k_X6_sellSeats l D G (B 0) N (M2 0) v1 v2 r3 hr3) jy_X6_sellSeats jq_17_13 jq_17_14 jq_17_15 ⟨rfl, rfl, Nat.le_of_ble_eq_true rfl, Nat.le_of_ble_eq_true rfl⟩ ⟨Nat.le_of_ble_eq_true rfl, Nat.le_of_ble_eq_true rfl⟩ (sTS_0 hP) (dTS_0 hD) hA hS (ci := 8) (iw := 0) rfl rfl rfl hl (rest := [.ref (B 9 0)]) rfl (Nat.le_of_ble_eq_true rfl) (fun H locs hQ hz hkp hS => ?_)
  obtain ⟨M4, e6, hV⟩ := jLet hV
  have hP : va_P D vwCl (wTS B G M4) H := by rw [e6]; exact jTS_0 hP hD hkp hQ
  have hD : va_D A (wTS B G M4) := jD (w := (wTS B G M2)) (dTS _ _) hD
  obtain ⟨r5, hr5, hV⟩ := jBind hV
  refine jVx C dX8_sell_21 (k_X8_closeChange l hl0 D G B ks va N M4 r3.1 r5 hr5) jy_X8_closeChange jq_11_3 jq_11_4 jq_11_5 ⟨Nat.le_of_ble_eq_true rfl, Nat.le_of_ble_eq_true rfl⟩ ⟨Nat.le_of_ble_eq_true rfl, Nat.le_of_ble_eq_true rfl⟩ hZ hP hD hA hS (ci := 10) (iw := 0) rfl rfl rfl hl (rest := []) rfl (Nat.le_of_ble_eq_true rfl) (fun H locs hQ hz hkp hS => ⟨fun hk => ?_, fun hk ce q hce hcv hcl => ?_⟩)
  · have hP : va_P D vwCl (wTS B G r5.2.2) H := hQ
    have hD : va_D A (wTS B G r5.2.2) := jD (w := (wTS B G M4)) (dTS _ _) hD
    have hV := jT1 hV hk
    refine W.eq (g2 := F0 m 24 ls [.int r5.2.1]) rfl ?_
    cases hV
    exact xRet C rfl dX8_sell_24 rfl rfl rfl (by decide) (by decide) hP hS
  · have hP : va_P D vwCl (wTS B G r5.2.2) H := hQ
    have hD : va_D A (wTS B G r5.2.2) := jD (w := (wTS B G M4)) (dTS _ _) hD
    have hV := jF1 hV hk
    cases hV
    exact xOut C hno hk hce hcv hcl (by decide) (by decide) hP hS
theorem jy_X8_request : jY yX8_request cX8_request 4 (some .int) 3 := ⟨by decide +kernel, jq_18_0, jq_1_2⟩
def F_X8_request (N : Nat)  (M : Nat → Nat → Nat → Int32) (v1 v2 v3 : Int32) : Option (Int32 × Int32 × (Nat → Nat → Nat → Int32)) := (jlet (hOpen M) (fun M2 => ((F_X6_makeRequest N (M2 0) v1 v2 v3).bind (fun r3 => (jlet (u1 M2 0 r3.2) (fun M4 => ((F_X8_closeChange N M4 r3.1).bind (fun r5 => (if r5.1 = 0 then (some ((0 : Int32), r5.2.1, r5.2.2)) else (some (r5.1, (0 : Int32), r5.2.2)))))))))))
set_option maxHeartbeats 4000000 in
set_option maxRecDepth 100000 in
theorem k_X8_request (l : Launch) (hl0 : l.stackTraces = false) (D : va_G) (G : Nat → ClassId) (B : Nat → Nat → Nat) (ks va : Nat → Nat) (N : Nat) (M : Nat → Nat → Nat → Int32) (v1 v2 v3 : Int32) (r : (Int32 × Int32 × (Nat → Nat → Nat → Int32))) (hV : F_X8_request N  M v1 v2 v3 = some r) : xM l yX8_request (jws yX8_request cX8_request 4 (some .int)) ({ frames := 9, cells := 3, slots := 18, locals := 211 } : Room) [.ref (B 9 0), .int v1, .int v2, .int v3] D G ks va (wTS B G M) (wTS B G r.2.2) r.1 (some (.int r.2.1)) := by
  refine xM_of (by decide +kernel) (Nat.le_of_ble_eq_true rfl) (fun p e s m args below meth c ls A C hno hP hD hA hZ hl => ?_)
  have C : Cx p s m args meth c cX8_request 4 RX8 (some .int) D G := C
  have hS : va_S A s.heap s.heap [] := va_S.rf
  obtain ⟨hx, hb, hr, hml, hts, hown, hlocks, hK0⟩ := id C
  have hK := hK0.1
  have hl : lv_has ls 4 [(0, .ref (B 9 0)), (1, .int v1), (2, .int v2), (3, .int v3)] := hl
  rw [F_X8_request] at hV
  refine lv_aload_n hx hb dX8_request_0 rfl (lv_at hl 0 rfl) ?_
  refine va_get (D := D) (ci := 10) (v := .ref (B 9 1)) (C := RX8) (T := TX8) (N := 8) hx hb hts ju_X8 hown hK hP 0 rfl rfl 2 (by decide) (hts _ jq_2_0) (fun _ h9 => h9) rfl dX8_request_1 ?_
  refine lv_aload_n hx hb dX8_request_4 rfl (lv_at hl 0 rfl) ?_
  refine va_get (D := D) (ci := 10) (v := .ref (B 0 0)) (C := RX8) (T := TX8) (N := 8) hx hb hts ju_X8 hown hK hP 0 rfl rfl 0 (by decide) (hts _ jq_1_19) (fun _ h9 => h9) rfl dX8_request_5 ?_
  refine jVmV C dX8_request_8 (kt_X0_open l D G B  M ) jy_X0_open jq_8_14 jq_8_15 jq_8_16 ⟨rfl, rfl, Nat.le_of_ble_eq_true rfl, Nat.le_of_ble_eq_true rfl⟩ ⟨Nat.le_of_ble_eq_true rfl, Nat.le_of_ble_eq_true rfl⟩ hP hD hA hS (ci := 2) (iw := 1) rfl rfl rfl hl (rest := []) rfl (Nat.le_of_ble_eq_true rfl) (fun H locs hQ hz hkp hS => ?_)
  obtain ⟨M2, e7, hV⟩ := jLet hV
  have hP : va_P D vwCl (wTS B G M2) H := by rw [e7]; exact jHist hP hD hkp hQ
  have hD : va_D A (wTS B G M2) := jD (w := (wTS B G M)) (dTS _ _) hD
  refine lv_aload_n hx hb dX8_request_11 rfl (lv_at hl 0 rfl) ?_
  refine lv_aload_n hx hb dX8_request_12 rfl (lv_at hl 0 rfl) ?_
  refine va_get (D := D) (ci := 10) (v := .ref (B 0 0)) (C := RX8) (T := TX8) (N := 8) hx hb hts ju_X8 hown hK hP 0 rfl rfl 0 (by decide) (hts _ jq_1_19) (fun _ h9 => h9) rfl dX8_request_13 ?_
  refine lv_iload_n hx hb dX8_request_16 rfl (lv_at hl 1 rfl) ?_
  refine lv_iload_n hx hb dX8_request_17 rfl (lv_at hl 2 rfl) ?_
  refine lv_iload_n hx hb dX8_request_18 rfl (lv_at hl 3 rfl) ?_
  obtain ⟨r3, hr3, hV⟩ := jBind hV
  refine jVmI C dX8_request_19 (k_X6_makeRequest l D G (B 0) N (M2 0) v1 v2 v3 r3 hr3) jy_X6_makeRequest jq_18_1 jq_18_2 jq_18_3 ⟨rfl, rfl, Nat.le_of_ble_eq_true rfl, Nat.le_of_ble_eq_true rfl⟩ ⟨Nat.le_of_ble_eq_true rfl, Nat.le_of_ble_eq_true rfl⟩ (sTS_0 hP) (dTS_0 hD) hA hS (ci := 8) (iw := 0) rfl rfl rfl hl (rest := [.ref (B 9 0)]) rfl (Nat.le_of_ble_eq_true rfl) (fun H locs hQ hz hkp hS => ?_)
  obtain ⟨M4, e6, hV⟩ := jLet hV
  have hP : va_P D vwCl (wTS B G M4) H := by rw [e6]; exact jTS_0 hP hD hkp hQ
  have hD : va_D A (wTS B G M4) := jD (w := (wTS B G M2)) (dTS _ _) hD
  obtain ⟨r5, hr5, hV⟩ := jBind hV
  refine jVx C dX8_request_22 (k_X8_closeChange l hl0 D G B ks va N M4 r3.1 r5 hr5) jy_X8_closeChange jq_11_3 jq_11_4 jq_11_5 ⟨Nat.le_of_ble_eq_true rfl, Nat.le_of_ble_eq_true rfl⟩ ⟨Nat.le_of_ble_eq_true rfl, Nat.le_of_ble_eq_true rfl⟩ hZ hP hD hA hS (ci := 10) (iw := 0) rfl rfl rfl hl (rest := []) rfl (Nat.le_of_ble_eq_true rfl) (fun H locs hQ hz hkp hS => ⟨fun hk => ?_, fun hk ce q hce hcv hcl => ?_⟩)
  · have hP : va_P D vwCl (wTS B G r5.2.2) H := hQ
    have hD : va_D A (wTS B G r5.2.2) := jD (w := (wTS B G M4)) (dTS _ _) hD
    have hV := jT1 hV hk
    refine W.eq (g2 := F0 m 25 ls [.int r5.2.1]) rfl ?_
    cases hV
    exact xRet C rfl dX8_request_25 rfl rfl rfl (by decide) (by decide) hP hS
  · have hP : va_P D vwCl (wTS B G r5.2.2) H := hQ
    have hD : va_D A (wTS B G r5.2.2) := jD (w := (wTS B G M4)) (dTS _ _) hD
    have hV := jF1 hV hk
    cases hV
    exact xOut C hno hk hce hcv hcl (by decide) (by decide) hP hS
theorem jy_X8_waiting : jY yX8_waiting cX8_waiting 5 (some .int) 3 := ⟨by decide +kernel, jq_19_20, jq_1_2⟩
def F_X8_waiting (N : Nat)  (M : Nat → Nat → Nat → Int32) (v1 v2 v3 : Int32) : Option (Int32 × Int32 × (Nat → Nat → Nat → Int32)) := ((F_X2_has N (M 0) v1).bind (fun r1 => (if (ckIndex r1) = 0 then ((F_X4_find N (M 0) v1 v2).bind (fun r3 => (if r3 = (-1 : Int32) then (some ((5 : Int32), (0 : Int32), M)) else (if v3 = 0 then (some ((0 : Int32), (rg 20 (M 0 16) r3), M)) else (some ((0 : Int32), (rg 20 (M 0 17) r3), M)))))) else (some ((ckIndex r1), (0 : Int32), M)))))
set_option maxHeartbeats 4000000 in
set_option maxRecDepth 100000 in
theorem k_X8_waiting (l : Launch) (hl0 : l.stackTraces = false) (D : va_G) (G : Nat → ClassId) (B : Nat → Nat → Nat) (ks va : Nat → Nat) (N : Nat) (M : Nat → Nat → Nat → Int32) (v1 v2 v3 : Int32) (r : (Int32 × Int32 × (Nat → Nat → Nat → Int32))) (hV : F_X8_waiting N  M v1 v2 v3 = some r) : xM l yX8_waiting (jws yX8_waiting cX8_waiting 5 (some .int)) ({ frames := 8, cells := 2, slots := 12, locals := 120 } : Room) [.ref (B 9 0), .int v1, .int v2, .int v3] D G ks va (wTS B G M) (wTS B G r.2.2) r.1 (some (.int r.2.1)) := by
  refine xM_of (by decide +kernel) (Nat.le_of_ble_eq_true rfl) (fun p e s m args below meth c ls A C hno hP hD hA hZ hl => ?_)
  have C : Cx p s m args meth c cX8_waiting 5 RX8 (some .int) D G := C
  have hS : va_S A s.heap s.heap [] := va_S.rf
  obtain ⟨hx, hb, hr, hml, hts, hown, hlocks, hK0⟩ := id C
  have hK := hK0.1
  have hl : lv_has ls 5 [(0, .ref (B 9 0)), (1, .int v1), (2, .int v2), (3, .int v3)] := hl
  rw [F_X8_waiting] at hV
  refine lv_aload_n hx hb dX8_waiting_0 rfl (lv_at hl 0 rfl) ?_
  refine va_get (D := D) (ci := 10) (v := .ref (B 0 0)) (C := RX8) (T := TX8) (N := 8) hx hb hts ju_X8 hown hK hP 0 rfl rfl 0 (by decide) (hts _ jq_1_19) (fun _ h9 => h9) rfl dX8_waiting_1 ?_
  refine va_getN (D := D) (ci := 8) (v := .ref (B 0 37)) (C := RX6) (T := TX6) (N := 7) (host := "TheatreSeasons") hx hb hts ju_X6 hown hK (sTS_0 hP) 0 rfl rfl 4 (by decide) (va_Nw.use rfl (hK0.2 _ jn_33)) (fun _ h9 => h9) rfl dX8_waiting_4 ?_
  refine lv_iload_n hx hb dX8_waiting_7 rfl (lv_at hl 1 rfl) ?_
  obtain ⟨r1, hr1, hV⟩ := jBind hV
  refine jVpI C dX8_waiting_8 (k_X2_has l D G (B 0) N (M 0) v1 r1 hr1) jy_X2_has jq_18_18 jq_13_20 jq_13_21 ⟨rfl, rfl, Nat.le_of_ble_eq_true rfl, Nat.le_of_ble_eq_true rfl⟩ ⟨Nat.le_of_ble_eq_true rfl, Nat.le_of_ble_eq_true rfl⟩ (sX6_X2 (sTS_0 hP))  (ci := 4) (iw := 0) rfl rfl rfl hl (rest := []) rfl (Nat.le_of_ble_eq_true rfl) ?_
  refine jSx C dX8_waiting_11 (kx_X8_checkIndex l hl0 D G ks va r1) jy_X8_checkIndex jq_11_19 jq_11_20 ⟨Nat.le_of_ble_eq_true rfl, Nat.le_of_ble_eq_true rfl⟩ ⟨Nat.le_of_ble_eq_true rfl, Nat.le_of_ble_eq_true rfl⟩ hZ jE (jDnd.mpr ⟨List.nodup_nil, fun q h => nomatch h⟩) hA hS hl (rest := []) rfl (Nat.le_of_ble_eq_true rfl) (fun H locs hQ hz hkp hS => ⟨fun hk => ?_, fun hk ce q hce hcv hcl => ?_⟩)
  · have hP : va_P D vwCl (wTS B G M) H := hP.kept (fun k q hq => hkp q.1 (hP k q hq).lt (fun h => h.elim (fun ⟨_, _, h⟩ => by simp at h) (fun h => Nat.lt_irrefl _ (Nat.lt_of_lt_of_le (hP k q hq).lt h))))
    have hV := jT1 hV hk
    refine W.eq (g2 := F0 m 14 ls []) rfl ?_
    refine lv_aload_n hx hb dX8_waiting_14 rfl (lv_at hl 0 rfl) ?_
    refine va_get (D := D) (ci := 10) (v := .ref (B 0 0)) (C := RX8) (T := TX8) (N := 8) hx hb hts ju_X8 hown hK hP 0 rfl rfl 0 (by decide) (hts _ jq_1_19) (fun _ h9 => h9) rfl dX8_waiting_15 ?_
    refine va_getN (D := D) (ci := 8) (v := .ref (B 0 39)) (C := RX6) (T := TX6) (N := 7) (host := "TheatreSeasons") hx hb hts ju_X6 hown hK (sTS_0 hP) 0 rfl rfl 6 (by decide) (va_Nw.use rfl (hK0.2 _ jn_35)) (fun _ h9 => h9) rfl dX8_waiting_18 ?_
    refine lv_iload_n hx hb dX8_waiting_21 rfl (lv_at hl 1 rfl) ?_
    refine lv_iload_n hx hb dX8_waiting_22 rfl (lv_at hl 2 rfl) ?_
    obtain ⟨r3, hr3, hV⟩ := jBind hV
    refine jVpI C dX8_waiting_23 (k_X4_find l D G (B 0) N (M 0) v1 v2 r3 hr3) jy_X4_find jq_19_21 jq_19_22 jq_19_23 ⟨rfl, rfl, Nat.le_of_ble_eq_true rfl, Nat.le_of_ble_eq_true rfl⟩ ⟨Nat.le_of_ble_eq_true rfl, Nat.le_of_ble_eq_true rfl⟩ (sX6_X4 (sTS_0 hP))  (ci := 6) (iw := 0) rfl rfl rfl hl (rest := []) rfl (Nat.le_of_ble_eq_true rfl) ?_
    refine lv_istore (lv' := [(4, .int r3), (0, .ref (B 9 0)), (1, .int v1), (2, .int v2), (3, .int v3)]) hx hb dX8_waiting_26 hl (by decide) rfl (fun ls hl => ?_)
    refine lv_iload hx hb dX8_waiting_28 (lv_at hl 0 rfl) ?_
    refine lv_iconst (v := -1) hx hb dX8_waiting_30 (by decide) ?_
    refine lv_icmp_ne (tgt := 44) hx hb dX8_waiting_31 (by decide) (fun c8 => ?_) (fun c8 => ?_)
    · have hV := jF1 hV c8
      refine lv_iload_n hx hb dX8_waiting_44 rfl (lv_at hl 4 rfl) ?_
      refine lv_if_eq (tgt := 66) hx hb dX8_waiting_45 (by decide) (fun c6 => ?_) (fun c6 => ?_)
      · have hV := jT1 hV c6
        refine lv_aload_n hx hb dX8_waiting_66 rfl (lv_at hl 1 rfl) ?_
        refine va_get (D := D) (ci := 10) (v := .ref (B 0 0)) (C := RX8) (T := TX8) (N := 8) hx hb hts ju_X8 hown hK hP 0 rfl rfl 0 (by decide) (hts _ jq_1_19) (fun _ h9 => h9) rfl dX8_waiting_67 ?_
        refine va_getN (D := D) (ci := 8) (v := .ref (B 0 39)) (C := RX6) (T := TX6) (N := 7) (host := "TheatreSeasons") hx hb hts ju_X6 hown hK (sTS_0 hP) 0 rfl rfl 6 (by decide) (va_Nw.use rfl (hK0.2 _ jn_35)) (fun _ h9 => h9) rfl dX8_waiting_70 ?_
        refine va_getN (D := D) (ci := 6) (v := .ref (B 0 32)) (C := RX4) (T := TX4) (N := 4) (host := "TheatreSeasons") hx hb hts ju_X4 hown hK (sX6_X4 (sTS_0 hP)) 0 rfl rfl 2 (by decide) (va_Nw.use rfl (hK0.2 _ jn_27)) (fun _ h9 => h9) rfl dX8_waiting_73 ?_
        refine lv_iload hx hb dX8_waiting_76 (lv_at hl 0 rfl) ?_
        refine jVpI C dX8_waiting_78 (kt_X5_get l D G (B 0 32) (B 0 33) 20 (Nat.le_of_ble_eq_true rfl) (M 0 16) r3) jy_X5_get jq_7_5 jq_6_13 jq_6_14 ⟨rfl, rfl, Nat.le_of_ble_eq_true rfl, Nat.le_of_ble_eq_true rfl⟩ ⟨Nat.le_of_ble_eq_true rfl, Nat.le_of_ble_eq_true rfl⟩ (sX4_16 (sX6_X4 (sTS_0 hP)))  (ci := 7) (iw := 0) rfl rfl rfl hl (rest := []) rfl (Nat.le_of_ble_eq_true rfl) ?_
        cases hV
        exact xRet C rfl dX8_waiting_81 rfl rfl rfl (by decide) (by decide) hP hS
      · have hV := jF1 hV c6
        refine lv_aload_n hx hb dX8_waiting_48 rfl (lv_at hl 1 rfl) ?_
        refine va_get (D := D) (ci := 10) (v := .ref (B 0 0)) (C := RX8) (T := TX8) (N := 8) hx hb hts ju_X8 hown hK hP 0 rfl rfl 0 (by decide) (hts _ jq_1_19) (fun _ h9 => h9) rfl dX8_waiting_49 ?_
        refine va_getN (D := D) (ci := 8) (v := .ref (B 0 39)) (C := RX6) (T := TX6) (N := 7) (host := "TheatreSeasons") hx hb hts ju_X6 hown hK (sTS_0 hP) 0 rfl rfl 6 (by decide) (va_Nw.use rfl (hK0.2 _ jn_35)) (fun _ h9 => h9) rfl dX8_waiting_52 ?_
        refine va_getN (D := D) (ci := 6) (v := .ref (B 0 34)) (C := RX4) (T := TX4) (N := 4) (host := "TheatreSeasons") hx hb hts ju_X4 hown hK (sX6_X4 (sTS_0 hP)) 0 rfl rfl 3 (by decide) (va_Nw.use rfl (hK0.2 _ jn_28)) (fun _ h9 => h9) rfl dX8_waiting_55 ?_
        refine lv_iload hx hb dX8_waiting_58 (lv_at hl 0 rfl) ?_
        refine jVpI C dX8_waiting_60 (kt_X5_get l D G (B 0 34) (B 0 35) 20 (Nat.le_of_ble_eq_true rfl) (M 0 17) r3) jy_X5_get jq_7_5 jq_6_13 jq_6_14 ⟨rfl, rfl, Nat.le_of_ble_eq_true rfl, Nat.le_of_ble_eq_true rfl⟩ ⟨Nat.le_of_ble_eq_true rfl, Nat.le_of_ble_eq_true rfl⟩ (sX4_17 (sX6_X4 (sTS_0 hP)))  (ci := 7) (iw := 0) rfl rfl rfl hl (rest := []) rfl (Nat.le_of_ble_eq_true rfl) ?_
        refine lv_goto (tgt := 81) hx hb dX8_waiting_63 (by decide) ?_
        cases hV
        exact xRet C rfl dX8_waiting_81 rfl rfl rfl (by decide) (by decide) hP hS
    · have hV := jT1 hV c8
      obtain ⟨sa7, hsa7⟩ := hZ.2.2.2.2.2.2 _ jms_202
      cases hV
      exact xThrowN C hno hl0 (by decide) (by decide) jqn_0 jq_14_23 hsa7 (xat_175 C) xgd_175_171 hZ hS hA hP hl dX8_waiting_34 dX8_waiting_37 dX8_waiting_38 dX8_waiting_40 dX8_waiting_43 (rest := []) (Nat.le_of_ble_eq_true rfl) (Nat.le_of_ble_eq_true rfl) (Nat.le_of_ble_eq_true rfl) (Nat.le_of_ble_eq_true rfl) (by decide) (by decide) (show (5 : Int32) ≠ 0 by decide) (show exN 5 = "java/util/NoSuchElementException" by decide)
  · have hP : va_P D vwCl (wTS B G M) H := hP.kept (fun k q hq => hkp q.1 (hP k q hq).lt (fun h => h.elim (fun ⟨_, _, h⟩ => by simp at h) (fun h => Nat.lt_irrefl _ (Nat.lt_of_lt_of_le (hP k q hq).lt h))))
    have hV := jF1 hV hk
    cases hV
    exact xOut C hno hk hce hcv hcl (by decide) (by decide) hP hS
theorem jy_X8_seats : jY yX8_seats cX8_seats 5 (some .int) 2 := ⟨by decide +kernel, jq_20_22, jq_1_2⟩
def D_X8_seats_27 (N : Nat)  : Nat → (Nat → Nat → Nat → Int32) → Int32 → Int32 → Int32 → Int32 → Option (Int32 × Int32 × (Nat → Nat → Nat → Int32))
  | 0, _, _, _, _, _ => none
  | n + 1, M, v1, v2, v3, v4 => (if ((M 0) 0 3) ≤ v4 then (some ((0 : Int32), v3, M)) else (if (rg 24 (M 0 9) v4) = v1 then ((F_X6_seatsAt N (M 0) v4 v2).bind (fun r2 => (D_X8_seats_27 N   n M v1 v2 (v3 + r2) (v4 + 1)))) else (D_X8_seats_27 N   n M v1 v2 v3 (v4 + 1))))
set_option maxHeartbeats 4000000 in
set_option maxRecDepth 100000 in
theorem B_X8_seats_27 {p : Program} {l : Launch} {e : Env} {s : State} {m : MethodId} {args : Array Value} {below : List Frame} {meth : Method} {c : Code} {D : va_G} {G : Nat → ClassId} {A : Nat → Prop} (C : Cx p s m args meth c cX8_seats 5 RX8 (some .int) D G) (hA : ∀ q : Nat, s.heap.size ≤ q → A q) (ks va : Nat → Nat) (hZ : jZ ks va A s s.heap) (hno : ∀ x ∈ c.exceptionTable.toList, False) (hl0 : l.stackTraces = false) (N : Nat) (B : Nat → Nat → Nat) (r : (Int32 × Int32 × (Nat → Nat → Nat → Int32))) : (∀ (n : Nat) (M : Nat → Nat → Nat → Int32) (v1 : Int32) (v2 : Int32) (v3 : Int32) (v4 : Int32) (ls : Array Slot) (H : Heap) (locs : List Loc), va_P D vwCl (wTS B G M) H → va_D A (wTS B G M) → va_S A s.heap H locs → lv_has ls 5 [(0, .ref (B 9 0)), (1, .int v1), (2, .int v2), (3, .int v3), (4, .int v4)] → D_X8_seats_27 N   n M v1 v2 v3 v4 = some r → W p l e ({ frames := 8, cells := 1, slots := 6, locals := 120 } : Room) s m args below meth c H locs 1 6 (vx_MQ below (xQ D (wTS B G r.2.2) r.1 (some (.int r.2.1)) A) (xX D (wTS B G r.2.2) r.1 A) args s 1 6 A) (F0 m 27 ls [])) := by
  have C := C
  obtain ⟨hx, hb, hr, hml, hts, hown, hlocks, hK0⟩ := id C
  have hK := hK0.1
  intro n
  induction n with
  | zero =>
    intro M v1 v2 v3 v4 ls H locs hP hD hS hl hV
    rw [D_X8_seats_27] at hV
    cases hV
  | succ n ih =>
    intro M v1 v2 v3 v4 ls H locs hP hD hS hl hV
    rw [D_X8_seats_27] at hV
    refine lv_iload hx hb dX8_seats_27 (lv_at hl 4 rfl) ?_
    refine lv_aload_n hx hb dX8_seats_29 rfl (lv_at hl 0 rfl) ?_
    refine va_get (D := D) (ci := 10) (v := .ref (B 0 0)) (C := RX8) (T := TX8) (N := 8) hx hb hts ju_X8 hown hK hP 0 rfl rfl 0 (by decide) (hts _ jq_1_19) (fun _ h9 => h9) rfl dX8_seats_30 ?_
    refine va_getN (D := D) (ci := 8) (v := .ref (B 0 37)) (C := RX6) (T := TX6) (N := 7) (host := "TheatreSeasons") hx hb hts ju_X6 hown hK (sTS_0 hP) 0 rfl rfl 4 (by decide) (va_Nw.use rfl (hK0.2 _ jn_33)) (fun _ h9 => h9) rfl dX8_seats_33 ?_
    refine va_getN (D := D) (ci := 4) (v := .int ((M 0) 0 3)) (C := RX2) (T := TX2) (N := 7) (host := "TheatreSeasons") hx hb hts ju_X2 hown hK (sX6_X2 (sTS_0 hP)) 0 rfl rfl 0 (by decide) (va_Nw.use rfl (hK0.2 _ jn_10)) (fun _ h9 => h9) rfl dX8_seats_36 ?_
    refine lv_icmp_ge (tgt := 80) hx hb dX8_seats_39 (by decide) (fun c4 => ?_) (fun c4 => ?_)
    · have hV := jT1 hV c4
      refine lv_iload_n hx hb dX8_seats_80 rfl (lv_at hl 3 rfl) ?_
      cases hV
      exact xRet C rfl dX8_seats_81 rfl rfl rfl (by decide) (by decide) hP hS
    · have hV := jF1 hV c4
      refine lv_aload_n hx hb dX8_seats_42 rfl (lv_at hl 0 rfl) ?_
      refine va_get (D := D) (ci := 10) (v := .ref (B 0 0)) (C := RX8) (T := TX8) (N := 8) hx hb hts ju_X8 hown hK hP 0 rfl rfl 0 (by decide) (hts _ jq_1_19) (fun _ h9 => h9) rfl dX8_seats_43 ?_
      refine va_getN (D := D) (ci := 8) (v := .ref (B 0 37)) (C := RX6) (T := TX6) (N := 7) (host := "TheatreSeasons") hx hb hts ju_X6 hown hK (sTS_0 hP) 0 rfl rfl 4 (by decide) (va_Nw.use rfl (hK0.2 _ jn_33)) (fun _ h9 => h9) rfl dX8_seats_46 ?_
      refine va_getN (D := D) (ci := 4) (v := .ref (B 0 18)) (C := RX2) (T := TX2) (N := 7) (host := "TheatreSeasons") hx hb hts ju_X2 hown hK (sX6_X2 (sTS_0 hP)) 0 rfl rfl 3 (by decide) (va_Nw.use rfl (hK0.2 _ jn_16)) (fun _ h9 => h9) rfl dX8_seats_49 ?_
      refine lv_iload hx hb dX8_seats_52 (lv_at hl 4 rfl) ?_
      refine jVpI C dX8_seats_54 (kt_X5_get l D G (B 0 18) (B 0 19) 24 (Nat.le_of_ble_eq_true rfl) (M 0 9) v4) jy_X5_get jq_7_5 jq_6_13 jq_6_14 ⟨rfl, rfl, Nat.le_of_ble_eq_true rfl, Nat.le_of_ble_eq_true rfl⟩ ⟨Nat.le_of_ble_eq_true rfl, Nat.le_of_ble_eq_true rfl⟩ (sX2_9 (sX6_X2 (sTS_0 hP)))  (ci := 7) (iw := 0) rfl rfl rfl hl (rest := []) rfl (Nat.le_of_ble_eq_true rfl) ?_
      refine lv_iload_n hx hb dX8_seats_57 rfl (lv_at hl 1 rfl) ?_
      refine lv_icmp_ne (tgt := 74) hx hb dX8_seats_58 (by decide) (fun c3 => ?_) (fun c3 => ?_)
      · have hV := jF1 hV c3
        refine lv_iinc (v := (v4 + 1)) (lv' := [(4, .int (v4 + 1)), (0, .ref (B 9 0)), (1, .int v1), (2, .int v2), (3, .int v3)]) hx hb dX8_seats_74 hl (k := 4) rfl rfl (by decide) rfl (fun ls hl => ?_)
        refine lv_goto (tgt := 27) hx hb dX8_seats_77 (by decide) ?_
        exact ih M v1 v2 v3 (v4 + 1) _ _ _ hP hD hS (lv_sub hl [1, 2, 3, 4, 0] rfl) hV
      · have hV := jT1 hV c3
        refine lv_iload_n hx hb dX8_seats_61 rfl (lv_at hl 3 rfl) ?_
        refine lv_aload_n hx hb dX8_seats_62 rfl (lv_at hl 0 rfl) ?_
        refine va_get (D := D) (ci := 10) (v := .ref (B 0 0)) (C := RX8) (T := TX8) (N := 8) hx hb hts ju_X8 hown hK hP 0 rfl rfl 0 (by decide) (hts _ jq_1_19) (fun _ h9 => h9) rfl dX8_seats_63 ?_
        refine lv_iload hx hb dX8_seats_66 (lv_at hl 4 rfl) ?_
        refine lv_iload_n hx hb dX8_seats_68 rfl (lv_at hl 2 rfl) ?_
        obtain ⟨r2, hr2, hV⟩ := jBind hV
        refine jVpI C dX8_seats_69 (k_X6_seatsAt l D G (B 0) N (M 0) v4 v2 r2 hr2) jy_X6_seatsAt jq_18_19 jq_6_9 jq_6_10 ⟨rfl, rfl, Nat.le_of_ble_eq_true rfl, Nat.le_of_ble_eq_true rfl⟩ ⟨Nat.le_of_ble_eq_true rfl, Nat.le_of_ble_eq_true rfl⟩ (sTS_0 hP)  (ci := 8) (iw := 0) rfl rfl rfl hl (rest := [.int v3]) rfl (Nat.le_of_ble_eq_true rfl) ?_
        refine lv_iadd hx hb dX8_seats_72 ?_
        refine lv_istore_n (lv' := [(3, .int (v3 + r2)), (0, .ref (B 9 0)), (1, .int v1), (2, .int v2), (4, .int v4)]) hx hb dX8_seats_73 rfl hl (by decide) rfl (fun ls hl => ?_)
        refine lv_iinc (v := (v4 + 1)) (lv' := [(4, .int (v4 + 1)), (3, .int (v3 + r2)), (0, .ref (B 9 0)), (1, .int v1), (2, .int v2)]) hx hb dX8_seats_74 hl (k := 4) rfl rfl (by decide) rfl (fun ls hl => ?_)
        refine lv_goto (tgt := 27) hx hb dX8_seats_77 (by decide) ?_
        exact ih M v1 v2 (v3 + r2) (v4 + 1) _ _ _ hP hD hS (lv_sub hl [2, 3, 4, 1, 0] rfl) hV
def F_X8_seats (N : Nat)  (M : Nat → Nat → Nat → Int32) (v1 v2 : Int32) : Option (Int32 × Int32 × (Nat → Nat → Nat → Int32)) := (if (jIn v1 0 29) = 0 then (if (ckArgument (0 : Int32)) = 0 then (D_X8_seats_27 N   N M v1 v2 (0 : Int32) (0 : Int32)) else (some ((ckArgument (0 : Int32)), (0 : Int32), M))) else (if (jIn v2 0 2) = 0 then (if (ckArgument (0 : Int32)) = 0 then (D_X8_seats_27 N   N M v1 v2 (0 : Int32) (0 : Int32)) else (some ((ckArgument (0 : Int32)), (0 : Int32), M))) else (if (ckArgument (1 : Int32)) = 0 then (D_X8_seats_27 N   N M v1 v2 (0 : Int32) (0 : Int32)) else (some ((ckArgument (1 : Int32)), (0 : Int32), M)))))
set_option maxHeartbeats 4000000 in
set_option maxRecDepth 100000 in
theorem k_X8_seats (l : Launch) (hl0 : l.stackTraces = false) (D : va_G) (G : Nat → ClassId) (B : Nat → Nat → Nat) (ks va : Nat → Nat) (N : Nat) (M : Nat → Nat → Nat → Int32) (v1 v2 : Int32) (r : (Int32 × Int32 × (Nat → Nat → Nat → Int32))) (hV : F_X8_seats N  M v1 v2 = some r) : xM l yX8_seats (jws yX8_seats cX8_seats 5 (some .int)) ({ frames := 8, cells := 1, slots := 6, locals := 120 } : Room) [.ref (B 9 0), .int v1, .int v2] D G ks va (wTS B G M) (wTS B G r.2.2) r.1 (some (.int r.2.1)) := by
  refine xM_of (by decide +kernel) (Nat.le_of_ble_eq_true rfl) (fun p e s m args below meth c ls A C hno hP hD hA hZ hl => ?_)
  have C : Cx p s m args meth c cX8_seats 5 RX8 (some .int) D G := C
  have hS : va_S A s.heap s.heap [] := va_S.rf
  obtain ⟨hx, hb, hr, hml, hts, hown, hlocks, hK0⟩ := id C
  have hK := hK0.1
  have hl : lv_has ls 5 [(0, .ref (B 9 0)), (1, .int v1), (2, .int v2)] := hl
  rw [F_X8_seats] at hV
  refine lv_iload_n hx hb dX8_seats_0 rfl (lv_at hl 1 rfl) ?_
  refine jSpI C dX8_seats_1 (kt_X8_isDate l D G    v1) jy_X8_isDate jq_19_12 jq_13_3 ⟨rfl, rfl, Nat.le_of_ble_eq_true rfl, Nat.le_of_ble_eq_true rfl⟩ ⟨Nat.le_of_ble_eq_true rfl, Nat.le_of_ble_eq_true rfl⟩ jE  hl (rest := []) rfl (Nat.le_of_ble_eq_true rfl) ?_
  refine lv_if_eq (tgt := 18) hx hb dX8_seats_4 (by decide) (fun c11 => ?_) (fun c11 => ?_)
  · have hV := jT1 hV c11
    refine lv_iconst (v := 0) hx hb dX8_seats_18 (by decide) ?_
    refine jSx C dX8_seats_19 (kx_X8_checkArgument l hl0 D G ks va (0 : Int32)) jy_X8_checkArgument jq_12_0 jq_12_1 ⟨Nat.le_of_ble_eq_true rfl, Nat.le_of_ble_eq_true rfl⟩ ⟨Nat.le_of_ble_eq_true rfl, Nat.le_of_ble_eq_true rfl⟩ hZ jE (jDnd.mpr ⟨List.nodup_nil, fun q h => nomatch h⟩) hA hS hl (rest := []) rfl (Nat.le_of_ble_eq_true rfl) (fun H locs hQ hz hkp hS => ⟨fun hk => ?_, fun hk ce q hce hcv hcl => ?_⟩)
    · have hP : va_P D vwCl (wTS B G M) H := hP.kept (fun k q hq => hkp q.1 (hP k q hq).lt (fun h => h.elim (fun ⟨_, _, h⟩ => by simp at h) (fun h => Nat.lt_irrefl _ (Nat.lt_of_lt_of_le (hP k q hq).lt h))))
      have hV := jT1 hV hk
      refine W.eq (g2 := F0 m 22 ls []) rfl ?_
      refine lv_iconst (v := 0) hx hb dX8_seats_22 (by decide) ?_
      refine lv_istore_n (lv' := [(3, .int (0 : Int32)), (0, .ref (B 9 0)), (1, .int v1), (2, .int v2)]) hx hb dX8_seats_23 rfl hl (by decide) rfl (fun ls hl => ?_)
      refine lv_iconst (v := 0) hx hb dX8_seats_24 (by decide) ?_
      refine lv_istore (lv' := [(4, .int (0 : Int32)), (3, .int (0 : Int32)), (0, .ref (B 9 0)), (1, .int v1), (2, .int v2)]) hx hb dX8_seats_25 hl (by decide) rfl (fun ls hl => ?_)
      exact B_X8_seats_27 C hA ks va hZ hno hl0 N B r   N M v1 v2 (0 : Int32) (0 : Int32) _ _ _ hP hD hS (lv_sub hl [2, 3, 4, 1, 0] rfl) hV
    · have hP : va_P D vwCl (wTS B G M) H := hP.kept (fun k q hq => hkp q.1 (hP k q hq).lt (fun h => h.elim (fun ⟨_, _, h⟩ => by simp at h) (fun h => Nat.lt_irrefl _ (Nat.lt_of_lt_of_le (hP k q hq).lt h))))
      have hV := jF1 hV hk
      cases hV
      exact xOut C hno hk hce hcv hcl (by decide) (by decide) hP hS
  · have hV := jF1 hV c11
    refine lv_iload_n hx hb dX8_seats_7 rfl (lv_at hl 2 rfl) ?_
    refine jSpI C dX8_seats_8 (kt_X8_isSeatKind l D G    v2) jy_X8_isSeatKind jq_20_23 jq_21_0 ⟨rfl, rfl, Nat.le_of_ble_eq_true rfl, Nat.le_of_ble_eq_true rfl⟩ ⟨Nat.le_of_ble_eq_true rfl, Nat.le_of_ble_eq_true rfl⟩ jE  hl (rest := []) rfl (Nat.le_of_ble_eq_true rfl) ?_
    refine lv_if_eq (tgt := 18) hx hb dX8_seats_11 (by decide) (fun c10 => ?_) (fun c10 => ?_)
    · have hV := jT1 hV c10
      refine lv_iconst (v := 0) hx hb dX8_seats_18 (by decide) ?_
      refine jSx C dX8_seats_19 (kx_X8_checkArgument l hl0 D G ks va (0 : Int32)) jy_X8_checkArgument jq_12_0 jq_12_1 ⟨Nat.le_of_ble_eq_true rfl, Nat.le_of_ble_eq_true rfl⟩ ⟨Nat.le_of_ble_eq_true rfl, Nat.le_of_ble_eq_true rfl⟩ hZ jE (jDnd.mpr ⟨List.nodup_nil, fun q h => nomatch h⟩) hA hS hl (rest := []) rfl (Nat.le_of_ble_eq_true rfl) (fun H locs hQ hz hkp hS => ⟨fun hk => ?_, fun hk ce q hce hcv hcl => ?_⟩)
      · have hP : va_P D vwCl (wTS B G M) H := hP.kept (fun k q hq => hkp q.1 (hP k q hq).lt (fun h => h.elim (fun ⟨_, _, h⟩ => by simp at h) (fun h => Nat.lt_irrefl _ (Nat.lt_of_lt_of_le (hP k q hq).lt h))))
        have hV := jT1 hV hk
        refine W.eq (g2 := F0 m 22 ls []) rfl ?_
        refine lv_iconst (v := 0) hx hb dX8_seats_22 (by decide) ?_
        refine lv_istore_n (lv' := [(3, .int (0 : Int32)), (0, .ref (B 9 0)), (1, .int v1), (2, .int v2)]) hx hb dX8_seats_23 rfl hl (by decide) rfl (fun ls hl => ?_)
        refine lv_iconst (v := 0) hx hb dX8_seats_24 (by decide) ?_
        refine lv_istore (lv' := [(4, .int (0 : Int32)), (3, .int (0 : Int32)), (0, .ref (B 9 0)), (1, .int v1), (2, .int v2)]) hx hb dX8_seats_25 hl (by decide) rfl (fun ls hl => ?_)
        exact B_X8_seats_27 C hA ks va hZ hno hl0 N B r   N M v1 v2 (0 : Int32) (0 : Int32) _ _ _ hP hD hS (lv_sub hl [2, 3, 4, 1, 0] rfl) hV
      · have hP : va_P D vwCl (wTS B G M) H := hP.kept (fun k q hq => hkp q.1 (hP k q hq).lt (fun h => h.elim (fun ⟨_, _, h⟩ => by simp at h) (fun h => Nat.lt_irrefl _ (Nat.lt_of_lt_of_le (hP k q hq).lt h))))
        have hV := jF1 hV hk
        cases hV
        exact xOut C hno hk hce hcv hcl (by decide) (by decide) hP hS
    · have hV := jF1 hV c10
      refine lv_iconst (v := 1) hx hb dX8_seats_14 (by decide) ?_
      refine lv_goto (tgt := 19) hx hb dX8_seats_15 (by decide) ?_
      refine jSx C dX8_seats_19 (kx_X8_checkArgument l hl0 D G ks va (1 : Int32)) jy_X8_checkArgument jq_12_0 jq_12_1 ⟨Nat.le_of_ble_eq_true rfl, Nat.le_of_ble_eq_true rfl⟩ ⟨Nat.le_of_ble_eq_true rfl, Nat.le_of_ble_eq_true rfl⟩ hZ jE (jDnd.mpr ⟨List.nodup_nil, fun q h => nomatch h⟩) hA hS hl (rest := []) rfl (Nat.le_of_ble_eq_true rfl) (fun H locs hQ hz hkp hS => ⟨fun hk => ?_, fun hk ce q hce hcv hcl => ?_⟩)
      · have hP : va_P D vwCl (wTS B G M) H := hP.kept (fun k q hq => hkp q.1 (hP k q hq).lt (fun h => h.elim (fun ⟨_, _, h⟩ => by simp at h) (fun h => Nat.lt_irrefl _ (Nat.lt_of_lt_of_le (hP k q hq).lt h))))
        have hV := jT1 hV hk
        refine W.eq (g2 := F0 m 22 ls []) rfl ?_
        refine lv_iconst (v := 0) hx hb dX8_seats_22 (by decide) ?_
        refine lv_istore_n (lv' := [(3, .int (0 : Int32)), (0, .ref (B 9 0)), (1, .int v1), (2, .int v2)]) hx hb dX8_seats_23 rfl hl (by decide) rfl (fun ls hl => ?_)
        refine lv_iconst (v := 0) hx hb dX8_seats_24 (by decide) ?_
        refine lv_istore (lv' := [(4, .int (0 : Int32)), (3, .int (0 : Int32)), (0, .ref (B 9 0)), (1, .int v1), (2, .int v2)]) hx hb dX8_seats_25 hl (by decide) rfl (fun ls hl => ?_)
        exact B_X8_seats_27 C hA ks va hZ hno hl0 N B r   N M v1 v2 (0 : Int32) (0 : Int32) _ _ _ hP hD hS (lv_sub hl [2, 3, 4, 1, 0] rfl) hV
      · have hP : va_P D vwCl (wTS B G M) H := hP.kept (fun k q hq => hkp q.1 (hP k q hq).lt (fun h => h.elim (fun ⟨_, _, h⟩ => by simp at h) (fun h => Nat.lt_irrefl _ (Nat.lt_of_lt_of_le (hP k q hq).lt h))))
        have hV := jF1 hV hk
        cases hV
        exact xOut C hno hk hce hcv hcl (by decide) (by decide) hP hS
theorem jy_X8_seatsAgain : jY yX8_seatsAgain cX8_seatsAgain 5 (some .int) 2 := ⟨by decide +kernel, jq_21_5, jq_1_2⟩
def D_X8_seatsAgain_27 (N : Nat)  : Nat → (Nat → Nat → Nat → Int32) → Int32 → Int32 → Int32 → Int32 → Option (Int32 × Int32 × (Nat → Nat → Nat → Int32))
  | 0, _, _, _, _, _ => none
  | n + 1, M, v1, v2, v3, v4 => (if (3 : Int32) ≤ v4 then (some ((0 : Int32), v3, M)) else ((F_X6_seatsOnStage N (M 0) v4 v1 v2).bind (fun r1 => (D_X8_seatsAgain_27 N   n M v1 v2 (v3 + r1) (v4 + 1)))))
set_option maxHeartbeats 4000000 in
set_option maxRecDepth 100000 in
theorem B_X8_seatsAgain_27 {p : Program} {l : Launch} {e : Env} {s : State} {m : MethodId} {args : Array Value} {below : List Frame} {meth : Method} {c : Code} {D : va_G} {G : Nat → ClassId} {A : Nat → Prop} (C : Cx p s m args meth c cX8_seatsAgain 5 RX8 (some .int) D G) (hA : ∀ q : Nat, s.heap.size ≤ q → A q) (ks va : Nat → Nat) (hZ : jZ ks va A s s.heap) (hno : ∀ x ∈ c.exceptionTable.toList, False) (hl0 : l.stackTraces = false) (N : Nat) (B : Nat → Nat → Nat) (r : (Int32 × Int32 × (Nat → Nat → Nat → Int32))) : (∀ (n : Nat) (M : Nat → Nat → Nat → Int32) (v1 : Int32) (v2 : Int32) (v3 : Int32) (v4 : Int32) (ls : Array Slot) (H : Heap) (locs : List Loc), va_P D vwCl (wTS B G M) H → va_D A (wTS B G M) → va_S A s.heap H locs → lv_has ls 5 [(0, .ref (B 9 0)), (1, .int v1), (2, .int v2), (3, .int v3), (4, .int v4)] → D_X8_seatsAgain_27 N   n M v1 v2 v3 v4 = some r → W p l e ({ frames := 8, cells := 1, slots := 6, locals := 120 } : Room) s m args below meth c H locs 1 6 (vx_MQ below (xQ D (wTS B G r.2.2) r.1 (some (.int r.2.1)) A) (xX D (wTS B G r.2.2) r.1 A) args s 1 6 A) (F0 m 27 ls [])) := by
  have C := C
  obtain ⟨hx, hb, hr, hml, hts, hown, hlocks, hK0⟩ := id C
  have hK := hK0.1
  intro n
  induction n with
  | zero =>
    intro M v1 v2 v3 v4 ls H locs hP hD hS hl hV
    rw [D_X8_seatsAgain_27] at hV
    cases hV
  | succ n ih =>
    intro M v1 v2 v3 v4 ls H locs hP hD hS hl hV
    rw [D_X8_seatsAgain_27] at hV
    refine lv_iload hx hb dX8_seatsAgain_27 (lv_at hl 4 rfl) ?_
    refine lv_iconst (v := 3) hx hb dX8_seatsAgain_29 (by decide) ?_
    refine lv_icmp_ge (tgt := 53) hx hb dX8_seatsAgain_30 (by decide) (fun c2 => ?_) (fun c2 => ?_)
    · have hV := jT1 hV c2
      refine lv_iload_n hx hb dX8_seatsAgain_53 rfl (lv_at hl 3 rfl) ?_
      cases hV
      exact xRet C rfl dX8_seatsAgain_54 rfl rfl rfl (by decide) (by decide) hP hS
    · have hV := jF1 hV c2
      refine lv_iload_n hx hb dX8_seatsAgain_33 rfl (lv_at hl 3 rfl) ?_
      refine lv_aload_n hx hb dX8_seatsAgain_34 rfl (lv_at hl 0 rfl) ?_
      refine va_get (D := D) (ci := 10) (v := .ref (B 0 0)) (C := RX8) (T := TX8) (N := 8) hx hb hts ju_X8 hown hK hP 0 rfl rfl 0 (by decide) (hts _ jq_1_19) (fun _ h9 => h9) rfl dX8_seatsAgain_35 ?_
      refine lv_iload hx hb dX8_seatsAgain_38 (lv_at hl 4 rfl) ?_
      refine lv_iload_n hx hb dX8_seatsAgain_40 rfl (lv_at hl 1 rfl) ?_
      refine lv_iload_n hx hb dX8_seatsAgain_41 rfl (lv_at hl 2 rfl) ?_
      obtain ⟨r1, hr1, hV⟩ := jBind hV
      refine jVpI C dX8_seatsAgain_42 (k_X6_seatsOnStage l D G (B 0) N (M 0) v4 v1 v2 r1 hr1) jy_X6_seatsOnStage jq_21_6 jq_21_7 jq_21_8 ⟨rfl, rfl, Nat.le_of_ble_eq_true rfl, Nat.le_of_ble_eq_true rfl⟩ ⟨Nat.le_of_ble_eq_true rfl, Nat.le_of_ble_eq_true rfl⟩ (sTS_0 hP)  (ci := 8) (iw := 0) rfl rfl rfl hl (rest := [.int v3]) rfl (Nat.le_of_ble_eq_true rfl) ?_
      refine lv_iadd hx hb dX8_seatsAgain_45 ?_
      refine lv_istore_n (lv' := [(3, .int (v3 + r1)), (0, .ref (B 9 0)), (1, .int v1), (2, .int v2), (4, .int v4)]) hx hb dX8_seatsAgain_46 rfl hl (by decide) rfl (fun ls hl => ?_)
      refine lv_iinc (v := (v4 + 1)) (lv' := [(4, .int (v4 + 1)), (3, .int (v3 + r1)), (0, .ref (B 9 0)), (1, .int v1), (2, .int v2)]) hx hb dX8_seatsAgain_47 hl (k := 4) rfl rfl (by decide) rfl (fun ls hl => ?_)
      refine lv_goto (tgt := 27) hx hb dX8_seatsAgain_50 (by decide) ?_
      exact ih M v1 v2 (v3 + r1) (v4 + 1) _ _ _ hP hD hS (lv_sub hl [2, 3, 4, 1, 0] rfl) hV
def F_X8_seatsAgain (N : Nat)  (M : Nat → Nat → Nat → Int32) (v1 v2 : Int32) : Option (Int32 × Int32 × (Nat → Nat → Nat → Int32)) := (if (jIn v1 0 29) = 0 then (if (ckArgument (0 : Int32)) = 0 then (D_X8_seatsAgain_27 N   N M v1 v2 (0 : Int32) (0 : Int32)) else (some ((ckArgument (0 : Int32)), (0 : Int32), M))) else (if (jIn v2 0 2) = 0 then (if (ckArgument (0 : Int32)) = 0 then (D_X8_seatsAgain_27 N   N M v1 v2 (0 : Int32) (0 : Int32)) else (some ((ckArgument (0 : Int32)), (0 : Int32), M))) else (if (ckArgument (1 : Int32)) = 0 then (D_X8_seatsAgain_27 N   N M v1 v2 (0 : Int32) (0 : Int32)) else (some ((ckArgument (1 : Int32)), (0 : Int32), M)))))
set_option maxHeartbeats 4000000 in
set_option maxRecDepth 100000 in
theorem k_X8_seatsAgain (l : Launch) (hl0 : l.stackTraces = false) (D : va_G) (G : Nat → ClassId) (B : Nat → Nat → Nat) (ks va : Nat → Nat) (N : Nat) (M : Nat → Nat → Nat → Int32) (v1 v2 : Int32) (r : (Int32 × Int32 × (Nat → Nat → Nat → Int32))) (hV : F_X8_seatsAgain N  M v1 v2 = some r) : xM l yX8_seatsAgain (jws yX8_seatsAgain cX8_seatsAgain 5 (some .int)) ({ frames := 8, cells := 1, slots := 6, locals := 120 } : Room) [.ref (B 9 0), .int v1, .int v2] D G ks va (wTS B G M) (wTS B G r.2.2) r.1 (some (.int r.2.1)) := by
  refine xM_of (by decide +kernel) (Nat.le_of_ble_eq_true rfl) (fun p e s m args below meth c ls A C hno hP hD hA hZ hl => ?_)
  have C : Cx p s m args meth c cX8_seatsAgain 5 RX8 (some .int) D G := C
  have hS : va_S A s.heap s.heap [] := va_S.rf
  obtain ⟨hx, hb, hr, hml, hts, hown, hlocks, hK0⟩ := id C
  have hK := hK0.1
  have hl : lv_has ls 5 [(0, .ref (B 9 0)), (1, .int v1), (2, .int v2)] := hl
  rw [F_X8_seatsAgain] at hV
  refine lv_iload_n hx hb dX8_seatsAgain_0 rfl (lv_at hl 1 rfl) ?_
  refine jSpI C dX8_seatsAgain_1 (kt_X8_isDate l D G    v1) jy_X8_isDate jq_19_12 jq_13_3 ⟨rfl, rfl, Nat.le_of_ble_eq_true rfl, Nat.le_of_ble_eq_true rfl⟩ ⟨Nat.le_of_ble_eq_true rfl, Nat.le_of_ble_eq_true rfl⟩ jE  hl (rest := []) rfl (Nat.le_of_ble_eq_true rfl) ?_
  refine lv_if_eq (tgt := 18) hx hb dX8_seatsAgain_4 (by decide) (fun c9 => ?_) (fun c9 => ?_)
  · have hV := jT1 hV c9
    refine lv_iconst (v := 0) hx hb dX8_seatsAgain_18 (by decide) ?_
    refine jSx C dX8_seatsAgain_19 (kx_X8_checkArgument l hl0 D G ks va (0 : Int32)) jy_X8_checkArgument jq_12_0 jq_12_1 ⟨Nat.le_of_ble_eq_true rfl, Nat.le_of_ble_eq_true rfl⟩ ⟨Nat.le_of_ble_eq_true rfl, Nat.le_of_ble_eq_true rfl⟩ hZ jE (jDnd.mpr ⟨List.nodup_nil, fun q h => nomatch h⟩) hA hS hl (rest := []) rfl (Nat.le_of_ble_eq_true rfl) (fun H locs hQ hz hkp hS => ⟨fun hk => ?_, fun hk ce q hce hcv hcl => ?_⟩)
    · have hP : va_P D vwCl (wTS B G M) H := hP.kept (fun k q hq => hkp q.1 (hP k q hq).lt (fun h => h.elim (fun ⟨_, _, h⟩ => by simp at h) (fun h => Nat.lt_irrefl _ (Nat.lt_of_lt_of_le (hP k q hq).lt h))))
      have hV := jT1 hV hk
      refine W.eq (g2 := F0 m 22 ls []) rfl ?_
      refine lv_iconst (v := 0) hx hb dX8_seatsAgain_22 (by decide) ?_
      refine lv_istore_n (lv' := [(3, .int (0 : Int32)), (0, .ref (B 9 0)), (1, .int v1), (2, .int v2)]) hx hb dX8_seatsAgain_23 rfl hl (by decide) rfl (fun ls hl => ?_)
      refine lv_iconst (v := 0) hx hb dX8_seatsAgain_24 (by decide) ?_
      refine lv_istore (lv' := [(4, .int (0 : Int32)), (3, .int (0 : Int32)), (0, .ref (B 9 0)), (1, .int v1), (2, .int v2)]) hx hb dX8_seatsAgain_25 hl (by decide) rfl (fun ls hl => ?_)
      exact B_X8_seatsAgain_27 C hA ks va hZ hno hl0 N B r   N M v1 v2 (0 : Int32) (0 : Int32) _ _ _ hP hD hS (lv_sub hl [2, 3, 4, 1, 0] rfl) hV
    · have hP : va_P D vwCl (wTS B G M) H := hP.kept (fun k q hq => hkp q.1 (hP k q hq).lt (fun h => h.elim (fun ⟨_, _, h⟩ => by simp at h) (fun h => Nat.lt_irrefl _ (Nat.lt_of_lt_of_le (hP k q hq).lt h))))
      have hV := jF1 hV hk
      cases hV
      exact xOut C hno hk hce hcv hcl (by decide) (by decide) hP hS
  · have hV := jF1 hV c9
    refine lv_iload_n hx hb dX8_seatsAgain_7 rfl (lv_at hl 2 rfl) ?_
    refine jSpI C dX8_seatsAgain_8 (kt_X8_isSeatKind l D G    v2) jy_X8_isSeatKind jq_20_23 jq_21_0 ⟨rfl, rfl, Nat.le_of_ble_eq_true rfl, Nat.le_of_ble_eq_true rfl⟩ ⟨Nat.le_of_ble_eq_true rfl, Nat.le_of_ble_eq_true rfl⟩ jE  hl (rest := []) rfl (Nat.le_of_ble_eq_true rfl) ?_
    refine lv_if_eq (tgt := 18) hx hb dX8_seatsAgain_11 (by decide) (fun c8 => ?_) (fun c8 => ?_)
    · have hV := jT1 hV c8
      refine lv_iconst (v := 0) hx hb dX8_seatsAgain_18 (by decide) ?_
      refine jSx C dX8_seatsAgain_19 (kx_X8_checkArgument l hl0 D G ks va (0 : Int32)) jy_X8_checkArgument jq_12_0 jq_12_1 ⟨Nat.le_of_ble_eq_true rfl, Nat.le_of_ble_eq_true rfl⟩ ⟨Nat.le_of_ble_eq_true rfl, Nat.le_of_ble_eq_true rfl⟩ hZ jE (jDnd.mpr ⟨List.nodup_nil, fun q h => nomatch h⟩) hA hS hl (rest := []) rfl (Nat.le_of_ble_eq_true rfl) (fun H locs hQ hz hkp hS => ⟨fun hk => ?_, fun hk ce q hce hcv hcl => ?_⟩)
      · have hP : va_P D vwCl (wTS B G M) H := hP.kept (fun k q hq => hkp q.1 (hP k q hq).lt (fun h => h.elim (fun ⟨_, _, h⟩ => by simp at h) (fun h => Nat.lt_irrefl _ (Nat.lt_of_lt_of_le (hP k q hq).lt h))))
        have hV := jT1 hV hk
        refine W.eq (g2 := F0 m 22 ls []) rfl ?_
        refine lv_iconst (v := 0) hx hb dX8_seatsAgain_22 (by decide) ?_
        refine lv_istore_n (lv' := [(3, .int (0 : Int32)), (0, .ref (B 9 0)), (1, .int v1), (2, .int v2)]) hx hb dX8_seatsAgain_23 rfl hl (by decide) rfl (fun ls hl => ?_)
        refine lv_iconst (v := 0) hx hb dX8_seatsAgain_24 (by decide) ?_
        refine lv_istore (lv' := [(4, .int (0 : Int32)), (3, .int (0 : Int32)), (0, .ref (B 9 0)), (1, .int v1), (2, .int v2)]) hx hb dX8_seatsAgain_25 hl (by decide) rfl (fun ls hl => ?_)
        exact B_X8_seatsAgain_27 C hA ks va hZ hno hl0 N B r   N M v1 v2 (0 : Int32) (0 : Int32) _ _ _ hP hD hS (lv_sub hl [2, 3, 4, 1, 0] rfl) hV
      · have hP : va_P D vwCl (wTS B G M) H := hP.kept (fun k q hq => hkp q.1 (hP k q hq).lt (fun h => h.elim (fun ⟨_, _, h⟩ => by simp at h) (fun h => Nat.lt_irrefl _ (Nat.lt_of_lt_of_le (hP k q hq).lt h))))
        have hV := jF1 hV hk
        cases hV
        exact xOut C hno hk hce hcv hcl (by decide) (by decide) hP hS
    · have hV := jF1 hV c8
      refine lv_iconst (v := 1) hx hb dX8_seatsAgain_14 (by decide) ?_
      refine lv_goto (tgt := 19) hx hb dX8_seatsAgain_15 (by decide) ?_
      refine jSx C dX8_seatsAgain_19 (kx_X8_checkArgument l hl0 D G ks va (1 : Int32)) jy_X8_checkArgument jq_12_0 jq_12_1 ⟨Nat.le_of_ble_eq_true rfl, Nat.le_of_ble_eq_true rfl⟩ ⟨Nat.le_of_ble_eq_true rfl, Nat.le_of_ble_eq_true rfl⟩ hZ jE (jDnd.mpr ⟨List.nodup_nil, fun q h => nomatch h⟩) hA hS hl (rest := []) rfl (Nat.le_of_ble_eq_true rfl) (fun H locs hQ hz hkp hS => ⟨fun hk => ?_, fun hk ce q hce hcv hcl => ?_⟩)
      · have hP : va_P D vwCl (wTS B G M) H := hP.kept (fun k q hq => hkp q.1 (hP k q hq).lt (fun h => h.elim (fun ⟨_, _, h⟩ => by simp at h) (fun h => Nat.lt_irrefl _ (Nat.lt_of_lt_of_le (hP k q hq).lt h))))
        have hV := jT1 hV hk
        refine W.eq (g2 := F0 m 22 ls []) rfl ?_
        refine lv_iconst (v := 0) hx hb dX8_seatsAgain_22 (by decide) ?_
        refine lv_istore_n (lv' := [(3, .int (0 : Int32)), (0, .ref (B 9 0)), (1, .int v1), (2, .int v2)]) hx hb dX8_seatsAgain_23 rfl hl (by decide) rfl (fun ls hl => ?_)
        refine lv_iconst (v := 0) hx hb dX8_seatsAgain_24 (by decide) ?_
        refine lv_istore (lv' := [(4, .int (0 : Int32)), (3, .int (0 : Int32)), (0, .ref (B 9 0)), (1, .int v1), (2, .int v2)]) hx hb dX8_seatsAgain_25 hl (by decide) rfl (fun ls hl => ?_)
        exact B_X8_seatsAgain_27 C hA ks va hZ hno hl0 N B r   N M v1 v2 (0 : Int32) (0 : Int32) _ _ _ hP hD hS (lv_sub hl [2, 3, 4, 1, 0] rfl) hV
      · have hP : va_P D vwCl (wTS B G M) H := hP.kept (fun k q hq => hkp q.1 (hP k q hq).lt (fun h => h.elim (fun ⟨_, _, h⟩ => by simp at h) (fun h => Nat.lt_irrefl _ (Nat.lt_of_lt_of_le (hP k q hq).lt h))))
        have hV := jF1 hV hk
        cases hV
        exact xOut C hno hk hce hcv hcl (by decide) (by decide) hP hS
theorem jy_X8_subscribe : jY yX8_subscribe cX8_subscribe 2 (some .int) 1 := ⟨by decide +kernel, jq_15_3, jq_1_2⟩
def F_X8_subscribe (N : Nat)  (M : Nat → Nat → Nat → Int32) (v1 : Int32) : Option (Int32 × Int32 × (Nat → Nat → Nat → Int32)) := (jlet (hOpen M) (fun M2 => ((F_X6_makeSubscription N (M2 0) v1).bind (fun r3 => (jlet (u1 M2 0 r3.2) (fun M4 => ((F_X8_closeChange N M4 r3.1).bind (fun r5 => (if r5.1 = 0 then (some ((0 : Int32), r5.2.1, r5.2.2)) else (some (r5.1, (0 : Int32), r5.2.2)))))))))))
set_option maxHeartbeats 4000000 in
set_option maxRecDepth 100000 in
theorem k_X8_subscribe (l : Launch) (hl0 : l.stackTraces = false) (D : va_G) (G : Nat → ClassId) (B : Nat → Nat → Nat) (ks va : Nat → Nat) (N : Nat) (M : Nat → Nat → Nat → Int32) (v1 : Int32) (r : (Int32 × Int32 × (Nat → Nat → Nat → Int32))) (hV : F_X8_subscribe N  M v1 = some r) : xM l yX8_subscribe (jws yX8_subscribe cX8_subscribe 2 (some .int)) ({ frames := 9, cells := 3, slots := 18, locals := 211 } : Room) [.ref (B 9 0), .int v1] D G ks va (wTS B G M) (wTS B G r.2.2) r.1 (some (.int r.2.1)) := by
  refine xM_of (by decide +kernel) (Nat.le_of_ble_eq_true rfl) (fun p e s m args below meth c ls A C hno hP hD hA hZ hl => ?_)
  have C : Cx p s m args meth c cX8_subscribe 2 RX8 (some .int) D G := C
  have hS : va_S A s.heap s.heap [] := va_S.rf
  obtain ⟨hx, hb, hr, hml, hts, hown, hlocks, hK0⟩ := id C
  have hK := hK0.1
  have hl : lv_has ls 2 [(0, .ref (B 9 0)), (1, .int v1)] := hl
  rw [F_X8_subscribe] at hV
  refine lv_aload_n hx hb dX8_subscribe_0 rfl (lv_at hl 0 rfl) ?_
  refine va_get (D := D) (ci := 10) (v := .ref (B 9 1)) (C := RX8) (T := TX8) (N := 8) hx hb hts ju_X8 hown hK hP 0 rfl rfl 2 (by decide) (hts _ jq_2_0) (fun _ h9 => h9) rfl dX8_subscribe_1 ?_
  refine lv_aload_n hx hb dX8_subscribe_4 rfl (lv_at hl 0 rfl) ?_
  refine va_get (D := D) (ci := 10) (v := .ref (B 0 0)) (C := RX8) (T := TX8) (N := 8) hx hb hts ju_X8 hown hK hP 0 rfl rfl 0 (by decide) (hts _ jq_1_19) (fun _ h9 => h9) rfl dX8_subscribe_5 ?_
  refine jVmV C dX8_subscribe_8 (kt_X0_open l D G B  M ) jy_X0_open jq_8_14 jq_8_15 jq_8_16 ⟨rfl, rfl, Nat.le_of_ble_eq_true rfl, Nat.le_of_ble_eq_true rfl⟩ ⟨Nat.le_of_ble_eq_true rfl, Nat.le_of_ble_eq_true rfl⟩ hP hD hA hS (ci := 2) (iw := 1) rfl rfl rfl hl (rest := []) rfl (Nat.le_of_ble_eq_true rfl) (fun H locs hQ hz hkp hS => ?_)
  obtain ⟨M2, e7, hV⟩ := jLet hV
  have hP : va_P D vwCl (wTS B G M2) H := by rw [e7]; exact jHist hP hD hkp hQ
  have hD : va_D A (wTS B G M2) := jD (w := (wTS B G M)) (dTS _ _) hD
  refine lv_aload_n hx hb dX8_subscribe_11 rfl (lv_at hl 0 rfl) ?_
  refine lv_aload_n hx hb dX8_subscribe_12 rfl (lv_at hl 0 rfl) ?_
  refine va_get (D := D) (ci := 10) (v := .ref (B 0 0)) (C := RX8) (T := TX8) (N := 8) hx hb hts ju_X8 hown hK hP 0 rfl rfl 0 (by decide) (hts _ jq_1_19) (fun _ h9 => h9) rfl dX8_subscribe_13 ?_
  refine lv_iload_n hx hb dX8_subscribe_16 rfl (lv_at hl 1 rfl) ?_
  obtain ⟨r3, hr3, hV⟩ := jBind hV
  refine jVmI C dX8_subscribe_17 (k_X6_makeSubscription l D G (B 0) N (M2 0) v1 r3 hr3) jy_X6_makeSubscription jq_15_4 jq_15_5 jq_15_6 ⟨rfl, rfl, Nat.le_of_ble_eq_true rfl, Nat.le_of_ble_eq_true rfl⟩ ⟨Nat.le_of_ble_eq_true rfl, Nat.le_of_ble_eq_true rfl⟩ (sTS_0 hP) (dTS_0 hD) hA hS (ci := 8) (iw := 0) rfl rfl rfl hl (rest := [.ref (B 9 0)]) rfl (Nat.le_of_ble_eq_true rfl) (fun H locs hQ hz hkp hS => ?_)
  obtain ⟨M4, e6, hV⟩ := jLet hV
  have hP : va_P D vwCl (wTS B G M4) H := by rw [e6]; exact jTS_0 hP hD hkp hQ
  have hD : va_D A (wTS B G M4) := jD (w := (wTS B G M2)) (dTS _ _) hD
  obtain ⟨r5, hr5, hV⟩ := jBind hV
  refine jVx C dX8_subscribe_20 (k_X8_closeChange l hl0 D G B ks va N M4 r3.1 r5 hr5) jy_X8_closeChange jq_11_3 jq_11_4 jq_11_5 ⟨Nat.le_of_ble_eq_true rfl, Nat.le_of_ble_eq_true rfl⟩ ⟨Nat.le_of_ble_eq_true rfl, Nat.le_of_ble_eq_true rfl⟩ hZ hP hD hA hS (ci := 10) (iw := 0) rfl rfl rfl hl (rest := []) rfl (Nat.le_of_ble_eq_true rfl) (fun H locs hQ hz hkp hS => ⟨fun hk => ?_, fun hk ce q hce hcv hcl => ?_⟩)
  · have hP : va_P D vwCl (wTS B G r5.2.2) H := hQ
    have hD : va_D A (wTS B G r5.2.2) := jD (w := (wTS B G M4)) (dTS _ _) hD
    have hV := jT1 hV hk
    refine W.eq (g2 := F0 m 23 ls [.int r5.2.1]) rfl ?_
    cases hV
    exact xRet C rfl dX8_subscribe_23 rfl rfl rfl (by decide) (by decide) hP hS
  · have hP : va_P D vwCl (wTS B G r5.2.2) H := hQ
    have hD : va_D A (wTS B G r5.2.2) := jD (w := (wTS B G M4)) (dTS _ _) hD
    have hV := jF1 hV hk
    cases hV
    exact xOut C hno hk hce hcv hcl (by decide) (by decide) hP hS
theorem jy_X8_hold : jY yX8_hold cX8_hold 3 (some .int) 2 := ⟨by decide +kernel, jq_15_19, jq_1_2⟩
def F_X8_hold (N : Nat)  (M : Nat → Nat → Nat → Int32) (v1 v2 : Int32) : Option (Int32 × Int32 × (Nat → Nat → Nat → Int32)) := (jlet (hOpen M) (fun M2 => ((F_X6_holdSeats N (M2 0) v1 v2).bind (fun r3 => (jlet (u1 M2 0 r3.2) (fun M4 => ((F_X8_closeChange N M4 r3.1).bind (fun r5 => (if r5.1 = 0 then (some ((0 : Int32), r5.2.1, r5.2.2)) else (some (r5.1, (0 : Int32), r5.2.2)))))))))))
set_option maxHeartbeats 4000000 in
set_option maxRecDepth 100000 in
theorem k_X8_hold (l : Launch) (hl0 : l.stackTraces = false) (D : va_G) (G : Nat → ClassId) (B : Nat → Nat → Nat) (ks va : Nat → Nat) (N : Nat) (M : Nat → Nat → Nat → Int32) (v1 v2 : Int32) (r : (Int32 × Int32 × (Nat → Nat → Nat → Int32))) (hV : F_X8_hold N  M v1 v2 = some r) : xM l yX8_hold (jws yX8_hold cX8_hold 3 (some .int)) ({ frames := 9, cells := 3, slots := 18, locals := 211 } : Room) [.ref (B 9 0), .int v1, .int v2] D G ks va (wTS B G M) (wTS B G r.2.2) r.1 (some (.int r.2.1)) := by
  refine xM_of (by decide +kernel) (Nat.le_of_ble_eq_true rfl) (fun p e s m args below meth c ls A C hno hP hD hA hZ hl => ?_)
  have C : Cx p s m args meth c cX8_hold 3 RX8 (some .int) D G := C
  have hS : va_S A s.heap s.heap [] := va_S.rf
  obtain ⟨hx, hb, hr, hml, hts, hown, hlocks, hK0⟩ := id C
  have hK := hK0.1
  have hl : lv_has ls 3 [(0, .ref (B 9 0)), (1, .int v1), (2, .int v2)] := hl
  rw [F_X8_hold] at hV
  refine lv_aload_n hx hb dX8_hold_0 rfl (lv_at hl 0 rfl) ?_
  refine va_get (D := D) (ci := 10) (v := .ref (B 9 1)) (C := RX8) (T := TX8) (N := 8) hx hb hts ju_X8 hown hK hP 0 rfl rfl 2 (by decide) (hts _ jq_2_0) (fun _ h9 => h9) rfl dX8_hold_1 ?_
  refine lv_aload_n hx hb dX8_hold_4 rfl (lv_at hl 0 rfl) ?_
  refine va_get (D := D) (ci := 10) (v := .ref (B 0 0)) (C := RX8) (T := TX8) (N := 8) hx hb hts ju_X8 hown hK hP 0 rfl rfl 0 (by decide) (hts _ jq_1_19) (fun _ h9 => h9) rfl dX8_hold_5 ?_
  refine jVmV C dX8_hold_8 (kt_X0_open l D G B  M ) jy_X0_open jq_8_14 jq_8_15 jq_8_16 ⟨rfl, rfl, Nat.le_of_ble_eq_true rfl, Nat.le_of_ble_eq_true rfl⟩ ⟨Nat.le_of_ble_eq_true rfl, Nat.le_of_ble_eq_true rfl⟩ hP hD hA hS (ci := 2) (iw := 1) rfl rfl rfl hl (rest := []) rfl (Nat.le_of_ble_eq_true rfl) (fun H locs hQ hz hkp hS => ?_)
  obtain ⟨M2, e7, hV⟩ := jLet hV
  have hP : va_P D vwCl (wTS B G M2) H := by rw [e7]; exact jHist hP hD hkp hQ
  have hD : va_D A (wTS B G M2) := jD (w := (wTS B G M)) (dTS _ _) hD
  refine lv_aload_n hx hb dX8_hold_11 rfl (lv_at hl 0 rfl) ?_
  refine lv_aload_n hx hb dX8_hold_12 rfl (lv_at hl 0 rfl) ?_
  refine va_get (D := D) (ci := 10) (v := .ref (B 0 0)) (C := RX8) (T := TX8) (N := 8) hx hb hts ju_X8 hown hK hP 0 rfl rfl 0 (by decide) (hts _ jq_1_19) (fun _ h9 => h9) rfl dX8_hold_13 ?_
  refine lv_iload_n hx hb dX8_hold_16 rfl (lv_at hl 1 rfl) ?_
  refine lv_iload_n hx hb dX8_hold_17 rfl (lv_at hl 2 rfl) ?_
  obtain ⟨r3, hr3, hV⟩ := jBind hV
  refine jVmI C dX8_hold_18 (k_X6_holdSeats l D G (B 0) N (M2 0) v1 v2 r3 hr3) jy_X6_holdSeats jq_15_20 jq_15_21 jq_15_22 ⟨rfl, rfl, Nat.le_of_ble_eq_true rfl, Nat.le_of_ble_eq_true rfl⟩ ⟨Nat.le_of_ble_eq_true rfl, Nat.le_of_ble_eq_true rfl⟩ (sTS_0 hP) (dTS_0 hD) hA hS (ci := 8) (iw := 0) rfl rfl rfl hl (rest := [.ref (B 9 0)]) rfl (Nat.le_of_ble_eq_true rfl) (fun H locs hQ hz hkp hS => ?_)
  obtain ⟨M4, e6, hV⟩ := jLet hV
  have hP : va_P D vwCl (wTS B G M4) H := by rw [e6]; exact jTS_0 hP hD hkp hQ
  have hD : va_D A (wTS B G M4) := jD (w := (wTS B G M2)) (dTS _ _) hD
  obtain ⟨r5, hr5, hV⟩ := jBind hV
  refine jVx C dX8_hold_21 (k_X8_closeChange l hl0 D G B ks va N M4 r3.1 r5 hr5) jy_X8_closeChange jq_11_3 jq_11_4 jq_11_5 ⟨Nat.le_of_ble_eq_true rfl, Nat.le_of_ble_eq_true rfl⟩ ⟨Nat.le_of_ble_eq_true rfl, Nat.le_of_ble_eq_true rfl⟩ hZ hP hD hA hS (ci := 10) (iw := 0) rfl rfl rfl hl (rest := []) rfl (Nat.le_of_ble_eq_true rfl) (fun H locs hQ hz hkp hS => ⟨fun hk => ?_, fun hk ce q hce hcv hcl => ?_⟩)
  · have hP : va_P D vwCl (wTS B G r5.2.2) H := hQ
    have hD : va_D A (wTS B G r5.2.2) := jD (w := (wTS B G M4)) (dTS _ _) hD
    have hV := jT1 hV hk
    refine W.eq (g2 := F0 m 24 ls [.int r5.2.1]) rfl ?_
    cases hV
    exact xRet C rfl dX8_hold_24 rfl rfl rfl (by decide) (by decide) hP hS
  · have hP : va_P D vwCl (wTS B G r5.2.2) H := hQ
    have hD : va_D A (wTS B G r5.2.2) := jD (w := (wTS B G M4)) (dTS _ _) hD
    have hV := jF1 hV hk
    cases hV
    exact xOut C hno hk hce hcv hcl (by decide) (by decide) hP hS
theorem jy_X8_subscription : jY yX8_subscription cX8_subscription 4 (some .int) 2 := ⟨by decide +kernel, jq_19_3, jq_1_2⟩
def F_X8_subscription (N : Nat)  (M : Nat → Nat → Nat → Int32) (v1 v2 : Int32) : Option (Int32 × Int32 × (Nat → Nat → Nat → Int32)) := ((F_X7_has N (M 0) v1).bind (fun r1 => (if (ckIndex r1) = 0 then ((F_X2_heldFor N (M 0) v1).bind (fun r3 => (if v2 = 0 then (some ((0 : Int32), (rg 10 (M 0 13) v1), M)) else (if v2 = 1 then (some ((0 : Int32), (bcnt r3), M)) else (if v2 = 2 then (some ((0 : Int32), (rg 10 (M 0 14) v1), M)) else (if v2 = 3 then (some ((0 : Int32), r3, M)) else (some ((2 : Int32), (0 : Int32), M)))))))) else (some ((ckIndex r1), (0 : Int32), M)))))
set_option maxHeartbeats 4000000 in
set_option maxRecDepth 100000 in
theorem k_X8_subscription (l : Launch) (hl0 : l.stackTraces = false) (D : va_G) (G : Nat → ClassId) (B : Nat → Nat → Nat) (ks va : Nat → Nat) (N : Nat) (M : Nat → Nat → Nat → Int32) (v1 v2 : Int32) (r : (Int32 × Int32 × (Nat → Nat → Nat → Int32))) (hV : F_X8_subscription N  M v1 v2 = some r) : xM l yX8_subscription (jws yX8_subscription cX8_subscription 4 (some .int)) ({ frames := 8, cells := 2, slots := 12, locals := 120 } : Room) [.ref (B 9 0), .int v1, .int v2] D G ks va (wTS B G M) (wTS B G r.2.2) r.1 (some (.int r.2.1)) := by
  refine xM_of (by decide +kernel) (Nat.le_of_ble_eq_true rfl) (fun p e s m args below meth c ls A C hno hP hD hA hZ hl => ?_)
  have C : Cx p s m args meth c cX8_subscription 4 RX8 (some .int) D G := C
  have hS : va_S A s.heap s.heap [] := va_S.rf
  obtain ⟨hx, hb, hr, hml, hts, hown, hlocks, hK0⟩ := id C
  have hK := hK0.1
  have hl : lv_has ls 4 [(0, .ref (B 9 0)), (1, .int v1), (2, .int v2)] := hl
  rw [F_X8_subscription] at hV
  refine lv_aload_n hx hb dX8_subscription_0 rfl (lv_at hl 0 rfl) ?_
  refine va_get (D := D) (ci := 10) (v := .ref (B 0 0)) (C := RX8) (T := TX8) (N := 8) hx hb hts ju_X8 hown hK hP 0 rfl rfl 0 (by decide) (hts _ jq_1_19) (fun _ h9 => h9) rfl dX8_subscription_1 ?_
  refine va_getN (D := D) (ci := 8) (v := .ref (B 0 38)) (C := RX6) (T := TX6) (N := 7) (host := "TheatreSeasons") hx hb hts ju_X6 hown hK (sTS_0 hP) 0 rfl rfl 5 (by decide) (va_Nw.use rfl (hK0.2 _ jn_34)) (fun _ h9 => h9) rfl dX8_subscription_4 ?_
  refine lv_iload_n hx hb dX8_subscription_7 rfl (lv_at hl 1 rfl) ?_
  obtain ⟨r1, hr1, hV⟩ := jBind hV
  refine jVpI C dX8_subscription_8 (k_X7_has l D G (B 0) N (M 0) v1 r1 hr1) jy_X7_has jq_19_4 jq_16_1 jq_16_2 ⟨rfl, rfl, Nat.le_of_ble_eq_true rfl, Nat.le_of_ble_eq_true rfl⟩ ⟨Nat.le_of_ble_eq_true rfl, Nat.le_of_ble_eq_true rfl⟩ (sX6_X7 (sTS_0 hP))  (ci := 9) (iw := 0) rfl rfl rfl hl (rest := []) rfl (Nat.le_of_ble_eq_true rfl) ?_
  refine jSx C dX8_subscription_11 (kx_X8_checkIndex l hl0 D G ks va r1) jy_X8_checkIndex jq_11_19 jq_11_20 ⟨Nat.le_of_ble_eq_true rfl, Nat.le_of_ble_eq_true rfl⟩ ⟨Nat.le_of_ble_eq_true rfl, Nat.le_of_ble_eq_true rfl⟩ hZ jE (jDnd.mpr ⟨List.nodup_nil, fun q h => nomatch h⟩) hA hS hl (rest := []) rfl (Nat.le_of_ble_eq_true rfl) (fun H locs hQ hz hkp hS => ⟨fun hk => ?_, fun hk ce q hce hcv hcl => ?_⟩)
  · have hP : va_P D vwCl (wTS B G M) H := hP.kept (fun k q hq => hkp q.1 (hP k q hq).lt (fun h => h.elim (fun ⟨_, _, h⟩ => by simp at h) (fun h => Nat.lt_irrefl _ (Nat.lt_of_lt_of_le (hP k q hq).lt h))))
    have hV := jT1 hV hk
    refine W.eq (g2 := F0 m 14 ls []) rfl ?_
    refine lv_aload_n hx hb dX8_subscription_14 rfl (lv_at hl 0 rfl) ?_
    refine va_get (D := D) (ci := 10) (v := .ref (B 0 0)) (C := RX8) (T := TX8) (N := 8) hx hb hts ju_X8 hown hK hP 0 rfl rfl 0 (by decide) (hts _ jq_1_19) (fun _ h9 => h9) rfl dX8_subscription_15 ?_
    refine va_getN (D := D) (ci := 8) (v := .ref (B 0 37)) (C := RX6) (T := TX6) (N := 7) (host := "TheatreSeasons") hx hb hts ju_X6 hown hK (sTS_0 hP) 0 rfl rfl 4 (by decide) (va_Nw.use rfl (hK0.2 _ jn_33)) (fun _ h9 => h9) rfl dX8_subscription_18 ?_
    refine lv_iload_n hx hb dX8_subscription_21 rfl (lv_at hl 1 rfl) ?_
    obtain ⟨r3, hr3, hV⟩ := jBind hV
    refine jVpI C dX8_subscription_22 (k_X2_heldFor l D G (B 0) N (M 0) v1 r3 hr3) jy_X2_heldFor jq_19_5 jq_16_19 jq_16_20 ⟨rfl, rfl, Nat.le_of_ble_eq_true rfl, Nat.le_of_ble_eq_true rfl⟩ ⟨Nat.le_of_ble_eq_true rfl, Nat.le_of_ble_eq_true rfl⟩ (sX6_X2 (sTS_0 hP))  (ci := 4) (iw := 0) rfl rfl rfl hl (rest := []) rfl (Nat.le_of_ble_eq_true rfl) ?_
    refine lv_istore_n (lv' := [(3, .int r3), (0, .ref (B 9 0)), (1, .int v1), (2, .int v2)]) hx hb dX8_subscription_25 rfl hl (by decide) rfl (fun ls hl => ?_)
    refine lv_iload_n hx hb dX8_subscription_26 rfl (lv_at hl 3 rfl) ?_
    by_cases c4_0 : v2 = 0
    · have hV := jT1 hV c4_0
      refine lv_tableIn (tgt := 56) hx hb dX8_subscription_27 (by rw [c4_0]; decide) (by rw [c4_0]; decide) (by rw [c4_0]; rfl) (by decide) ?_
      refine lv_aload_n hx hb dX8_subscription_56 rfl (lv_at hl 1 rfl) ?_
      refine va_get (D := D) (ci := 10) (v := .ref (B 0 0)) (C := RX8) (T := TX8) (N := 8) hx hb hts ju_X8 hown hK hP 0 rfl rfl 0 (by decide) (hts _ jq_1_19) (fun _ h9 => h9) rfl dX8_subscription_57 ?_
      refine va_getN (D := D) (ci := 8) (v := .ref (B 0 38)) (C := RX6) (T := TX6) (N := 7) (host := "TheatreSeasons") hx hb hts ju_X6 hown hK (sTS_0 hP) 0 rfl rfl 5 (by decide) (va_Nw.use rfl (hK0.2 _ jn_34)) (fun _ h9 => h9) rfl dX8_subscription_60 ?_
      refine va_getN (D := D) (ci := 9) (v := .ref (B 0 26)) (C := RX7) (T := TX7) (N := 3) (host := "TheatreSeasons") hx hb hts ju_X7 hown hK (sX6_X7 (sTS_0 hP)) 0 rfl rfl 1 (by decide) (va_Nw.use rfl (hK0.2 _ jn_23)) (fun _ h9 => h9) rfl dX8_subscription_63 ?_
      refine lv_iload_n hx hb dX8_subscription_66 rfl (lv_at hl 2 rfl) ?_
      refine jVpI C dX8_subscription_67 (kt_X5_get l D G (B 0 26) (B 0 27) 10 (Nat.le_of_ble_eq_true rfl) (M 0 13) v1) jy_X5_get jq_7_5 jq_6_13 jq_6_14 ⟨rfl, rfl, Nat.le_of_ble_eq_true rfl, Nat.le_of_ble_eq_true rfl⟩ ⟨Nat.le_of_ble_eq_true rfl, Nat.le_of_ble_eq_true rfl⟩ (sX7_13 (sX6_X7 (sTS_0 hP)))  (ci := 7) (iw := 0) rfl rfl rfl hl (rest := []) rfl (Nat.le_of_ble_eq_true rfl) ?_
      cases hV
      exact xRet C rfl dX8_subscription_70 rfl rfl rfl (by decide) (by decide) hP hS
    · have hV := jF1 hV c4_0
      by_cases c4_1 : v2 = 1
      · have hV := jT1 hV c4_1
        refine lv_tableIn (tgt := 71) hx hb dX8_subscription_27 (by rw [c4_1]; decide) (by rw [c4_1]; decide) (by rw [c4_1]; rfl) (by decide) ?_
        refine lv_iload_n hx hb dX8_subscription_71 rfl (lv_at hl 0 rfl) ?_
        refine jSpI C dX8_subscription_72 (kt_bitCount l D G r3) jy_J6_bitCount_0f7a4 jq_19_6 jq_17_0 ⟨rfl, rfl, Nat.le_of_ble_eq_true rfl, Nat.le_of_ble_eq_true rfl⟩ ⟨Nat.le_of_ble_eq_true rfl, Nat.le_of_ble_eq_true rfl⟩ jE hl (rest := []) rfl (Nat.le_of_ble_eq_true rfl) ?_
        cases hV
        exact xRet C rfl dX8_subscription_75 rfl rfl rfl (by decide) (by decide) hP hS
      · have hV := jF1 hV c4_1
        by_cases c4_2 : v2 = 2
        · have hV := jT1 hV c4_2
          refine lv_tableIn (tgt := 76) hx hb dX8_subscription_27 (by rw [c4_2]; decide) (by rw [c4_2]; decide) (by rw [c4_2]; rfl) (by decide) ?_
          refine lv_aload_n hx hb dX8_subscription_76 rfl (lv_at hl 1 rfl) ?_
          refine va_get (D := D) (ci := 10) (v := .ref (B 0 0)) (C := RX8) (T := TX8) (N := 8) hx hb hts ju_X8 hown hK hP 0 rfl rfl 0 (by decide) (hts _ jq_1_19) (fun _ h9 => h9) rfl dX8_subscription_77 ?_
          refine va_getN (D := D) (ci := 8) (v := .ref (B 0 38)) (C := RX6) (T := TX6) (N := 7) (host := "TheatreSeasons") hx hb hts ju_X6 hown hK (sTS_0 hP) 0 rfl rfl 5 (by decide) (va_Nw.use rfl (hK0.2 _ jn_34)) (fun _ h9 => h9) rfl dX8_subscription_80 ?_
          refine va_getN (D := D) (ci := 9) (v := .ref (B 0 28)) (C := RX7) (T := TX7) (N := 3) (host := "TheatreSeasons") hx hb hts ju_X7 hown hK (sX6_X7 (sTS_0 hP)) 0 rfl rfl 2 (by decide) (va_Nw.use rfl (hK0.2 _ jn_24)) (fun _ h9 => h9) rfl dX8_subscription_83 ?_
          refine lv_iload_n hx hb dX8_subscription_86 rfl (lv_at hl 2 rfl) ?_
          refine jVpI C dX8_subscription_87 (kt_X5_get l D G (B 0 28) (B 0 29) 10 (Nat.le_of_ble_eq_true rfl) (M 0 14) v1) jy_X5_get jq_7_5 jq_6_13 jq_6_14 ⟨rfl, rfl, Nat.le_of_ble_eq_true rfl, Nat.le_of_ble_eq_true rfl⟩ ⟨Nat.le_of_ble_eq_true rfl, Nat.le_of_ble_eq_true rfl⟩ (sX7_14 (sX6_X7 (sTS_0 hP)))  (ci := 7) (iw := 0) rfl rfl rfl hl (rest := []) rfl (Nat.le_of_ble_eq_true rfl) ?_
          cases hV
          exact xRet C rfl dX8_subscription_90 rfl rfl rfl (by decide) (by decide) hP hS
        · have hV := jF1 hV c4_2
          by_cases c4_3 : v2 = 3
          · have hV := jT1 hV c4_3
            refine lv_tableIn (tgt := 91) hx hb dX8_subscription_27 (by rw [c4_3]; decide) (by rw [c4_3]; decide) (by rw [c4_3]; rfl) (by decide) ?_
            refine lv_iload_n hx hb dX8_subscription_91 rfl (lv_at hl 0 rfl) ?_
            cases hV
            exact xRet C rfl dX8_subscription_92 rfl rfl rfl (by decide) (by decide) hP hS
          · have hV := jF1 hV c4_3
            refine jTabDef (tgt := 93) hx hb dX8_subscription_27 (fun k h1 h2 h3 => ?_) (by decide) ?_
            · rcases (show k = 0 ∨ k = 1 ∨ k = 2 ∨ k = 3 by omega) with rfl | rfl | rfl | rfl <;> first | rfl | exact absurd (Int32.toInt_inj.mp (h3.trans (by decide))) c4_0 | exact absurd (Int32.toInt_inj.mp (h3.trans (by decide))) c4_1 | exact absurd (Int32.toInt_inj.mp (h3.trans (by decide))) c4_2 | exact absurd (Int32.toInt_inj.mp (h3.trans (by decide))) c4_3
            · obtain ⟨sa5, hsa5⟩ := hZ.2.2.2.2.2.2 _ jms_245
              cases hV
              exact xThrow C hno hl0 (by decide) (by decide) jq_6_2 jq_6_3 hsa5 (xat_118 C) xgd_118_114 hZ hS hA hP hl dX8_subscription_93 dX8_subscription_96 dX8_subscription_97 dX8_subscription_99 dX8_subscription_102 (rest := []) (Nat.le_of_ble_eq_true rfl) (Nat.le_of_ble_eq_true rfl) (Nat.le_of_ble_eq_true rfl) (Nat.le_of_ble_eq_true rfl) (by decide) (by decide) (show (2 : Int32) ≠ 0 by decide) (show exN 2 = "java/lang/IllegalArgumentException" by decide)
  · have hP : va_P D vwCl (wTS B G M) H := hP.kept (fun k q hq => hkp q.1 (hP k q hq).lt (fun h => h.elim (fun ⟨_, _, h⟩ => by simp at h) (fun h => Nat.lt_irrefl _ (Nat.lt_of_lt_of_le (hP k q hq).lt h))))
    have hV := jF1 hV hk
    cases hV
    exact xOut C hno hk hce hcv hcl (by decide) (by decide) hP hS
theorem jy_X8_reason : jY yX8_reason cX8_reason 2 (some .int) 1 := ⟨by decide +kernel, jq_14_21, jq_1_2⟩
def F_X8_reason (N : Nat)  (M : Nat → Nat → Nat → Int32) (v1 : Int32) : Option (Int32 × Int32 × (Nat → Nat → Nat → Int32)) := (if (M 9 0 1) = (-1 : Int32) then (some ((5 : Int32), (0 : Int32), M)) else (if v1 = 0 then (some ((0 : Int32), (M 9 0 1), M)) else (some ((0 : Int32), (M 9 0 2), M))))
set_option maxHeartbeats 4000000 in
set_option maxRecDepth 100000 in
theorem k_X8_reason (l : Launch) (hl0 : l.stackTraces = false) (D : va_G) (G : Nat → ClassId) (B : Nat → Nat → Nat) (ks va : Nat → Nat) (N : Nat) (M : Nat → Nat → Nat → Int32) (v1 : Int32) (r : (Int32 × Int32 × (Nat → Nat → Nat → Int32))) (hV : F_X8_reason N  M v1 = some r) : xM l yX8_reason (jws yX8_reason cX8_reason 2 (some .int)) ({ frames := 7, cells := 1, slots := 6, locals := 100 } : Room) [.ref (B 9 0), .int v1] D G ks va (wTS B G M) (wTS B G r.2.2) r.1 (some (.int r.2.1)) := by
  refine xM_of (by decide +kernel) (Nat.le_of_ble_eq_true rfl) (fun p e s m args below meth c ls A C hno hP hD hA hZ hl => ?_)
  have C : Cx p s m args meth c cX8_reason 2 RX8 (some .int) D G := C
  have hS : va_S A s.heap s.heap [] := va_S.rf
  obtain ⟨hx, hb, hr, hml, hts, hown, hlocks, hK0⟩ := id C
  have hK := hK0.1
  have hl : lv_has ls 2 [(0, .ref (B 9 0)), (1, .int v1)] := hl
  rw [F_X8_reason] at hV
  refine lv_aload_n hx hb dX8_reason_0 rfl (lv_at hl 0 rfl) ?_
  refine va_get (D := D) (ci := 10) (v := .int (M 9 0 1)) (C := RX8) (T := TX8) (N := 8) hx hb hts ju_X8 hown hK hP 0 rfl rfl 5 (by decide) (hts _ jq_2_5) (fun _ h9 => h9) rfl dX8_reason_1 ?_
  refine lv_iconst (v := -1) hx hb dX8_reason_4 (by decide) ?_
  refine lv_icmp_ne (tgt := 19) hx hb dX8_reason_5 (by decide) (fun c3 => ?_) (fun c3 => ?_)
  · have hV := jF1 hV c3
    refine lv_iload_n hx hb dX8_reason_19 rfl (lv_at hl 1 rfl) ?_
    refine lv_if_eq (tgt := 30) hx hb dX8_reason_20 (by decide) (fun c1 => ?_) (fun c1 => ?_)
    · have hV := jT1 hV c1
      refine lv_aload_n hx hb dX8_reason_30 rfl (lv_at hl 0 rfl) ?_
      refine va_get (D := D) (ci := 10) (v := .int (M 9 0 1)) (C := RX8) (T := TX8) (N := 8) hx hb hts ju_X8 hown hK hP 0 rfl rfl 5 (by decide) (hts _ jq_2_5) (fun _ h9 => h9) rfl dX8_reason_31 ?_
      cases hV
      exact xRet C rfl dX8_reason_34 rfl rfl rfl (by decide) (by decide) hP hS
    · have hV := jF1 hV c1
      refine lv_aload_n hx hb dX8_reason_23 rfl (lv_at hl 0 rfl) ?_
      refine va_get (D := D) (ci := 10) (v := .int (M 9 0 2)) (C := RX8) (T := TX8) (N := 8) hx hb hts ju_X8 hown hK hP 0 rfl rfl 6 (by decide) (hts _ jq_2_6) (fun _ h9 => h9) rfl dX8_reason_24 ?_
      refine lv_goto (tgt := 34) hx hb dX8_reason_27 (by decide) ?_
      cases hV
      exact xRet C rfl dX8_reason_34 rfl rfl rfl (by decide) (by decide) hP hS
  · have hV := jT1 hV c3
    obtain ⟨sa2, hsa2⟩ := hZ.2.2.2.2.2.2 _ jms_257
    cases hV
    exact xThrowWN C hno hl0 (by decide) (by decide) jqn_0 jq_14_23 hsa2 (xat_175 C) xgd_175_171 hZ hS hA hP hl dX8_reason_8 dX8_reason_11 dX8_reason_12 dX8_reason_15 dX8_reason_18 (rest := []) (Nat.le_of_ble_eq_true rfl) (Nat.le_of_ble_eq_true rfl) (Nat.le_of_ble_eq_true rfl) (Nat.le_of_ble_eq_true rfl) (by decide) (by decide) (show (5 : Int32) ≠ 0 by decide) (show exN 5 = "java/util/NoSuchElementException" by decide)
theorem jy_X8_account : jY yX8_account cX8_account 2 (some .int) 1 := ⟨by decide +kernel, jq_6_1, jq_1_2⟩
def F_X8_account (N : Nat)  (M : Nat → Nat → Nat → Int32) (v1 : Int32) : Option (Int32 × Int32 × (Nat → Nat → Nat → Int32)) := (if v1 = 0 then (some ((0 : Int32), ((M 0) 0 2), M)) else (if v1 = 1 then (some ((0 : Int32), ((M 0) 0 3), M)) else (if v1 = 2 then (some ((0 : Int32), ((M 0) 0 4), M)) else (if v1 = 3 then (some ((0 : Int32), ((M 0) 0 5), M)) else (if v1 = 4 then ((F_X6_seatsOfAll N (M 0) (0 : Int32)).bind (fun r9 => (some ((0 : Int32), r9, M)))) else (if v1 = 5 then ((F_X6_seatsOfAll N (M 0) (1 : Int32)).bind (fun r8 => (some ((0 : Int32), r8, M)))) else (if v1 = 6 then ((F_X6_seatsOfAll N (M 0) (2 : Int32)).bind (fun r7 => (some ((0 : Int32), r7, M)))) else (if v1 = 7 then (some ((0 : Int32), ((M 0) 0 0), M)) else (if v1 = 8 then (some ((0 : Int32), ((M 0) 0 1), M)) else (if v1 = 9 then ((F_X6_takingsOfAll N (M 0) ).bind (fun r6 => (some ((0 : Int32), r6, M)))) else (if v1 = 10 then (some ((0 : Int32), (rg 3 (M 0 1) (0 : Int32)), M)) else (if v1 = 11 then (some ((0 : Int32), (rg 3 (M 0 1) (1 : Int32)), M)) else (if v1 = 12 then (some ((0 : Int32), (rg 3 (M 0 1) (2 : Int32)), M)) else (if v1 = 13 then (some ((0 : Int32), (M 9 0 5), M)) else (if v1 = 14 then (some ((0 : Int32), (M 9 0 4), M)) else (some ((2 : Int32), (0 : Int32), M)))))))))))))))))
set_option maxHeartbeats 4000000 in
set_option maxRecDepth 100000 in
theorem k_X8_account (l : Launch) (hl0 : l.stackTraces = false) (D : va_G) (G : Nat → ClassId) (B : Nat → Nat → Nat) (ks va : Nat → Nat) (N : Nat) (M : Nat → Nat → Nat → Int32) (v1 : Int32) (r : (Int32 × Int32 × (Nat → Nat → Nat → Int32))) (hV : F_X8_account N  M v1 = some r) : xM l yX8_account (jws yX8_account cX8_account 2 (some .int)) ({ frames := 7, cells := 1, slots := 6, locals := 100 } : Room) [.ref (B 9 0), .int v1] D G ks va (wTS B G M) (wTS B G r.2.2) r.1 (some (.int r.2.1)) := by
  refine xM_of (by decide +kernel) (Nat.le_of_ble_eq_true rfl) (fun p e s m args below meth c ls A C hno hP hD hA hZ hl => ?_)
  have C : Cx p s m args meth c cX8_account 2 RX8 (some .int) D G := C
  have hS : va_S A s.heap s.heap [] := va_S.rf
  obtain ⟨hx, hb, hr, hml, hts, hown, hlocks, hK0⟩ := id C
  have hK := hK0.1
  have hl : lv_has ls 2 [(0, .ref (B 9 0)), (1, .int v1)] := hl
  rw [F_X8_account] at hV
  refine lv_iload_n hx hb dX8_account_0 rfl (lv_at hl 1 rfl) ?_
  by_cases c1_0 : v1 = 0
  · have hV := jT1 hV c1_0
    refine lv_tableIn (tgt := 76) hx hb dX8_account_1 (by rw [c1_0]; decide) (by rw [c1_0]; decide) (by rw [c1_0]; rfl) (by decide) ?_
    refine lv_aload_n hx hb dX8_account_76 rfl (lv_at hl 0 rfl) ?_
    refine va_get (D := D) (ci := 10) (v := .ref (B 0 0)) (C := RX8) (T := TX8) (N := 8) hx hb hts ju_X8 hown hK hP 0 rfl rfl 0 (by decide) (hts _ jq_1_19) (fun _ h9 => h9) rfl dX8_account_77 ?_
    refine va_getN (D := D) (ci := 8) (v := .ref (B 0 36)) (C := RX6) (T := TX6) (N := 7) (host := "TheatreSeasons") hx hb hts ju_X6 hown hK (sTS_0 hP) 0 rfl rfl 3 (by decide) (va_Nw.use rfl (hK0.2 _ jn_32)) (fun _ h9 => h9) rfl dX8_account_80 ?_
    refine va_getN (D := D) (ci := 5) (v := .int ((M 0) 0 2)) (C := RX3) (T := TX3) (N := 6) (host := "TheatreSeasons") hx hb hts ju_X3 hown hK (sX6_X3 (sTS_0 hP)) 0 rfl rfl 0 (by decide) (va_Nw.use rfl (hK0.2 _ jn_1)) (fun _ h9 => h9) rfl dX8_account_83 ?_
    cases hV
    exact xRet C rfl dX8_account_86 rfl rfl rfl (by decide) (by decide) hP hS
  · have hV := jF1 hV c1_0
    by_cases c1_1 : v1 = 1
    · have hV := jT1 hV c1_1
      refine lv_tableIn (tgt := 87) hx hb dX8_account_1 (by rw [c1_1]; decide) (by rw [c1_1]; decide) (by rw [c1_1]; rfl) (by decide) ?_
      refine lv_aload_n hx hb dX8_account_87 rfl (lv_at hl 0 rfl) ?_
      refine va_get (D := D) (ci := 10) (v := .ref (B 0 0)) (C := RX8) (T := TX8) (N := 8) hx hb hts ju_X8 hown hK hP 0 rfl rfl 0 (by decide) (hts _ jq_1_19) (fun _ h9 => h9) rfl dX8_account_88 ?_
      refine va_getN (D := D) (ci := 8) (v := .ref (B 0 37)) (C := RX6) (T := TX6) (N := 7) (host := "TheatreSeasons") hx hb hts ju_X6 hown hK (sTS_0 hP) 0 rfl rfl 4 (by decide) (va_Nw.use rfl (hK0.2 _ jn_33)) (fun _ h9 => h9) rfl dX8_account_91 ?_
      refine va_getN (D := D) (ci := 4) (v := .int ((M 0) 0 3)) (C := RX2) (T := TX2) (N := 7) (host := "TheatreSeasons") hx hb hts ju_X2 hown hK (sX6_X2 (sTS_0 hP)) 0 rfl rfl 0 (by decide) (va_Nw.use rfl (hK0.2 _ jn_10)) (fun _ h9 => h9) rfl dX8_account_94 ?_
      cases hV
      exact xRet C rfl dX8_account_97 rfl rfl rfl (by decide) (by decide) hP hS
    · have hV := jF1 hV c1_1
      by_cases c1_2 : v1 = 2
      · have hV := jT1 hV c1_2
        refine lv_tableIn (tgt := 98) hx hb dX8_account_1 (by rw [c1_2]; decide) (by rw [c1_2]; decide) (by rw [c1_2]; rfl) (by decide) ?_
        refine lv_aload_n hx hb dX8_account_98 rfl (lv_at hl 0 rfl) ?_
        refine va_get (D := D) (ci := 10) (v := .ref (B 0 0)) (C := RX8) (T := TX8) (N := 8) hx hb hts ju_X8 hown hK hP 0 rfl rfl 0 (by decide) (hts _ jq_1_19) (fun _ h9 => h9) rfl dX8_account_99 ?_
        refine va_getN (D := D) (ci := 8) (v := .ref (B 0 38)) (C := RX6) (T := TX6) (N := 7) (host := "TheatreSeasons") hx hb hts ju_X6 hown hK (sTS_0 hP) 0 rfl rfl 5 (by decide) (va_Nw.use rfl (hK0.2 _ jn_34)) (fun _ h9 => h9) rfl dX8_account_102 ?_
        refine va_getN (D := D) (ci := 9) (v := .int ((M 0) 0 4)) (C := RX7) (T := TX7) (N := 3) (host := "TheatreSeasons") hx hb hts ju_X7 hown hK (sX6_X7 (sTS_0 hP)) 0 rfl rfl 0 (by decide) (va_Nw.use rfl (hK0.2 _ jn_21)) (fun _ h9 => h9) rfl dX8_account_105 ?_
        cases hV
        exact xRet C rfl dX8_account_108 rfl rfl rfl (by decide) (by decide) hP hS
      · have hV := jF1 hV c1_2
        by_cases c1_3 : v1 = 3
        · have hV := jT1 hV c1_3
          refine lv_tableIn (tgt := 109) hx hb dX8_account_1 (by rw [c1_3]; decide) (by rw [c1_3]; decide) (by rw [c1_3]; rfl) (by decide) ?_
          refine lv_aload_n hx hb dX8_account_109 rfl (lv_at hl 0 rfl) ?_
          refine va_get (D := D) (ci := 10) (v := .ref (B 0 0)) (C := RX8) (T := TX8) (N := 8) hx hb hts ju_X8 hown hK hP 0 rfl rfl 0 (by decide) (hts _ jq_1_19) (fun _ h9 => h9) rfl dX8_account_110 ?_
          refine va_getN (D := D) (ci := 8) (v := .ref (B 0 39)) (C := RX6) (T := TX6) (N := 7) (host := "TheatreSeasons") hx hb hts ju_X6 hown hK (sTS_0 hP) 0 rfl rfl 6 (by decide) (va_Nw.use rfl (hK0.2 _ jn_35)) (fun _ h9 => h9) rfl dX8_account_113 ?_
          refine va_getN (D := D) (ci := 6) (v := .int ((M 0) 0 5)) (C := RX4) (T := TX4) (N := 4) (host := "TheatreSeasons") hx hb hts ju_X4 hown hK (sX6_X4 (sTS_0 hP)) 0 rfl rfl 0 (by decide) (va_Nw.use rfl (hK0.2 _ jn_26)) (fun _ h9 => h9) rfl dX8_account_116 ?_
          cases hV
          exact xRet C rfl dX8_account_119 rfl rfl rfl (by decide) (by decide) hP hS
        · have hV := jF1 hV c1_3
          by_cases c1_4 : v1 = 4
          · have hV := jT1 hV c1_4
            refine lv_tableIn (tgt := 120) hx hb dX8_account_1 (by rw [c1_4]; decide) (by rw [c1_4]; decide) (by rw [c1_4]; rfl) (by decide) ?_
            refine lv_aload_n hx hb dX8_account_120 rfl (lv_at hl 0 rfl) ?_
            refine va_get (D := D) (ci := 10) (v := .ref (B 0 0)) (C := RX8) (T := TX8) (N := 8) hx hb hts ju_X8 hown hK hP 0 rfl rfl 0 (by decide) (hts _ jq_1_19) (fun _ h9 => h9) rfl dX8_account_121 ?_
            refine lv_iconst (v := 0) hx hb dX8_account_124 (by decide) ?_
            obtain ⟨r9, hr9, hV⟩ := jBind hV
            refine jVpI C dX8_account_125 (k_X6_seatsOfAll l D G (B 0) N (M 0) (0 : Int32) r9 hr9) jy_X6_seatsOfAll jq_6_4 jq_6_5 jq_6_6 ⟨rfl, rfl, Nat.le_of_ble_eq_true rfl, Nat.le_of_ble_eq_true rfl⟩ ⟨Nat.le_of_ble_eq_true rfl, Nat.le_of_ble_eq_true rfl⟩ (sTS_0 hP)  (ci := 8) (iw := 0) rfl rfl rfl hl (rest := []) rfl (Nat.le_of_ble_eq_true rfl) ?_
            cases hV
            exact xRet C rfl dX8_account_128 rfl rfl rfl (by decide) (by decide) hP hS
          · have hV := jF1 hV c1_4
            by_cases c1_5 : v1 = 5
            · have hV := jT1 hV c1_5
              refine lv_tableIn (tgt := 129) hx hb dX8_account_1 (by rw [c1_5]; decide) (by rw [c1_5]; decide) (by rw [c1_5]; rfl) (by decide) ?_
              refine lv_aload_n hx hb dX8_account_129 rfl (lv_at hl 0 rfl) ?_
              refine va_get (D := D) (ci := 10) (v := .ref (B 0 0)) (C := RX8) (T := TX8) (N := 8) hx hb hts ju_X8 hown hK hP 0 rfl rfl 0 (by decide) (hts _ jq_1_19) (fun _ h9 => h9) rfl dX8_account_130 ?_
              refine lv_iconst (v := 1) hx hb dX8_account_133 (by decide) ?_
              obtain ⟨r8, hr8, hV⟩ := jBind hV
              refine jVpI C dX8_account_134 (k_X6_seatsOfAll l D G (B 0) N (M 0) (1 : Int32) r8 hr8) jy_X6_seatsOfAll jq_6_4 jq_6_5 jq_6_6 ⟨rfl, rfl, Nat.le_of_ble_eq_true rfl, Nat.le_of_ble_eq_true rfl⟩ ⟨Nat.le_of_ble_eq_true rfl, Nat.le_of_ble_eq_true rfl⟩ (sTS_0 hP)  (ci := 8) (iw := 0) rfl rfl rfl hl (rest := []) rfl (Nat.le_of_ble_eq_true rfl) ?_
              cases hV
              exact xRet C rfl dX8_account_137 rfl rfl rfl (by decide) (by decide) hP hS
            · have hV := jF1 hV c1_5
              by_cases c1_6 : v1 = 6
              · have hV := jT1 hV c1_6
                refine lv_tableIn (tgt := 138) hx hb dX8_account_1 (by rw [c1_6]; decide) (by rw [c1_6]; decide) (by rw [c1_6]; rfl) (by decide) ?_
                refine lv_aload_n hx hb dX8_account_138 rfl (lv_at hl 0 rfl) ?_
                refine va_get (D := D) (ci := 10) (v := .ref (B 0 0)) (C := RX8) (T := TX8) (N := 8) hx hb hts ju_X8 hown hK hP 0 rfl rfl 0 (by decide) (hts _ jq_1_19) (fun _ h9 => h9) rfl dX8_account_139 ?_
                refine lv_iconst (v := 2) hx hb dX8_account_142 (by decide) ?_
                obtain ⟨r7, hr7, hV⟩ := jBind hV
                refine jVpI C dX8_account_143 (k_X6_seatsOfAll l D G (B 0) N (M 0) (2 : Int32) r7 hr7) jy_X6_seatsOfAll jq_6_4 jq_6_5 jq_6_6 ⟨rfl, rfl, Nat.le_of_ble_eq_true rfl, Nat.le_of_ble_eq_true rfl⟩ ⟨Nat.le_of_ble_eq_true rfl, Nat.le_of_ble_eq_true rfl⟩ (sTS_0 hP)  (ci := 8) (iw := 0) rfl rfl rfl hl (rest := []) rfl (Nat.le_of_ble_eq_true rfl) ?_
                cases hV
                exact xRet C rfl dX8_account_146 rfl rfl rfl (by decide) (by decide) hP hS
              · have hV := jF1 hV c1_6
                by_cases c1_7 : v1 = 7
                · have hV := jT1 hV c1_7
                  refine lv_tableIn (tgt := 147) hx hb dX8_account_1 (by rw [c1_7]; decide) (by rw [c1_7]; decide) (by rw [c1_7]; rfl) (by decide) ?_
                  refine lv_aload_n hx hb dX8_account_147 rfl (lv_at hl 0 rfl) ?_
                  refine va_get (D := D) (ci := 10) (v := .ref (B 0 0)) (C := RX8) (T := TX8) (N := 8) hx hb hts ju_X8 hown hK hP 0 rfl rfl 0 (by decide) (hts _ jq_1_19) (fun _ h9 => h9) rfl dX8_account_148 ?_
                  refine va_getN (D := D) (ci := 8) (v := .int ((M 0) 0 0)) (C := RX6) (T := TX6) (N := 7) (host := "TheatreSeasons") hx hb hts ju_X6 hown hK (sTS_0 hP) 0 rfl rfl 1 (by decide) (va_Nw.use rfl (hK0.2 _ jn_30)) (fun _ h9 => h9) rfl dX8_account_151 ?_
                  cases hV
                  exact xRet C rfl dX8_account_154 rfl rfl rfl (by decide) (by decide) hP hS
                · have hV := jF1 hV c1_7
                  by_cases c1_8 : v1 = 8
                  · have hV := jT1 hV c1_8
                    refine lv_tableIn (tgt := 155) hx hb dX8_account_1 (by rw [c1_8]; decide) (by rw [c1_8]; decide) (by rw [c1_8]; rfl) (by decide) ?_
                    refine lv_aload_n hx hb dX8_account_155 rfl (lv_at hl 0 rfl) ?_
                    refine va_get (D := D) (ci := 10) (v := .ref (B 0 0)) (C := RX8) (T := TX8) (N := 8) hx hb hts ju_X8 hown hK hP 0 rfl rfl 0 (by decide) (hts _ jq_1_19) (fun _ h9 => h9) rfl dX8_account_156 ?_
                    refine va_getN (D := D) (ci := 8) (v := .int ((M 0) 0 1)) (C := RX6) (T := TX6) (N := 7) (host := "TheatreSeasons") hx hb hts ju_X6 hown hK (sTS_0 hP) 0 rfl rfl 2 (by decide) (va_Nw.use rfl (hK0.2 _ jn_31)) (fun _ h9 => h9) rfl dX8_account_159 ?_
                    cases hV
                    exact xRet C rfl dX8_account_162 rfl rfl rfl (by decide) (by decide) hP hS
                  · have hV := jF1 hV c1_8
                    by_cases c1_9 : v1 = 9
                    · have hV := jT1 hV c1_9
                      refine lv_tableIn (tgt := 163) hx hb dX8_account_1 (by rw [c1_9]; decide) (by rw [c1_9]; decide) (by rw [c1_9]; rfl) (by decide) ?_
                      refine lv_aload_n hx hb dX8_account_163 rfl (lv_at hl 0 rfl) ?_
                      refine va_get (D := D) (ci := 10) (v := .ref (B 0 0)) (C := RX8) (T := TX8) (N := 8) hx hb hts ju_X8 hown hK hP 0 rfl rfl 0 (by decide) (hts _ jq_1_19) (fun _ h9 => h9) rfl dX8_account_164 ?_
                      obtain ⟨r6, hr6, hV⟩ := jBind hV
                      refine jVpI C dX8_account_167 (k_X6_takingsOfAll l D G (B 0) N (M 0)  r6 hr6) jy_X6_takingsOfAll jq_6_21 jq_6_22 jq_6_23 ⟨rfl, rfl, Nat.le_of_ble_eq_true rfl, Nat.le_of_ble_eq_true rfl⟩ ⟨Nat.le_of_ble_eq_true rfl, Nat.le_of_ble_eq_true rfl⟩ (sTS_0 hP)  (ci := 8) (iw := 0) rfl rfl rfl hl (rest := []) rfl (Nat.le_of_ble_eq_true rfl) ?_
                      cases hV
                      exact xRet C rfl dX8_account_170 rfl rfl rfl (by decide) (by decide) hP hS
                    · have hV := jF1 hV c1_9
                      by_cases c1_10 : v1 = 10
                      · have hV := jT1 hV c1_10
                        refine lv_tableIn (tgt := 171) hx hb dX8_account_1 (by rw [c1_10]; decide) (by rw [c1_10]; decide) (by rw [c1_10]; rfl) (by decide) ?_
                        refine lv_aload_n hx hb dX8_account_171 rfl (lv_at hl 0 rfl) ?_
                        refine va_get (D := D) (ci := 10) (v := .ref (B 0 0)) (C := RX8) (T := TX8) (N := 8) hx hb hts ju_X8 hown hK hP 0 rfl rfl 0 (by decide) (hts _ jq_1_19) (fun _ h9 => h9) rfl dX8_account_172 ?_
                        refine va_getN (D := D) (ci := 8) (v := .ref (B 0 2)) (C := RX6) (T := TX6) (N := 7) (host := "TheatreSeasons") hx hb hts ju_X6 hown hK (sTS_0 hP) 0 rfl rfl 0 (by decide) (va_Nw.use rfl (hK0.2 _ jn_29)) (fun _ h9 => h9) rfl dX8_account_175 ?_
                        refine lv_iconst (v := 0) hx hb dX8_account_178 (by decide) ?_
                        refine jVpI C dX8_account_179 (kt_X5_get l D G (B 0 2) (B 0 3) 3 (Nat.le_of_ble_eq_true rfl) (M 0 1) (0 : Int32)) jy_X5_get jq_7_5 jq_6_13 jq_6_14 ⟨rfl, rfl, Nat.le_of_ble_eq_true rfl, Nat.le_of_ble_eq_true rfl⟩ ⟨Nat.le_of_ble_eq_true rfl, Nat.le_of_ble_eq_true rfl⟩ (sX6_1 (sTS_0 hP))  (ci := 7) (iw := 0) rfl rfl rfl hl (rest := []) rfl (Nat.le_of_ble_eq_true rfl) ?_
                        cases hV
                        exact xRet C rfl dX8_account_182 rfl rfl rfl (by decide) (by decide) hP hS
                      · have hV := jF1 hV c1_10
                        by_cases c1_11 : v1 = 11
                        · have hV := jT1 hV c1_11
                          refine lv_tableIn (tgt := 183) hx hb dX8_account_1 (by rw [c1_11]; decide) (by rw [c1_11]; decide) (by rw [c1_11]; rfl) (by decide) ?_
                          refine lv_aload_n hx hb dX8_account_183 rfl (lv_at hl 0 rfl) ?_
                          refine va_get (D := D) (ci := 10) (v := .ref (B 0 0)) (C := RX8) (T := TX8) (N := 8) hx hb hts ju_X8 hown hK hP 0 rfl rfl 0 (by decide) (hts _ jq_1_19) (fun _ h9 => h9) rfl dX8_account_184 ?_
                          refine va_getN (D := D) (ci := 8) (v := .ref (B 0 2)) (C := RX6) (T := TX6) (N := 7) (host := "TheatreSeasons") hx hb hts ju_X6 hown hK (sTS_0 hP) 0 rfl rfl 0 (by decide) (va_Nw.use rfl (hK0.2 _ jn_29)) (fun _ h9 => h9) rfl dX8_account_187 ?_
                          refine lv_iconst (v := 1) hx hb dX8_account_190 (by decide) ?_
                          refine jVpI C dX8_account_191 (kt_X5_get l D G (B 0 2) (B 0 3) 3 (Nat.le_of_ble_eq_true rfl) (M 0 1) (1 : Int32)) jy_X5_get jq_7_5 jq_6_13 jq_6_14 ⟨rfl, rfl, Nat.le_of_ble_eq_true rfl, Nat.le_of_ble_eq_true rfl⟩ ⟨Nat.le_of_ble_eq_true rfl, Nat.le_of_ble_eq_true rfl⟩ (sX6_1 (sTS_0 hP))  (ci := 7) (iw := 0) rfl rfl rfl hl (rest := []) rfl (Nat.le_of_ble_eq_true rfl) ?_
                          cases hV
                          exact xRet C rfl dX8_account_194 rfl rfl rfl (by decide) (by decide) hP hS
                        · have hV := jF1 hV c1_11
                          by_cases c1_12 : v1 = 12
                          · have hV := jT1 hV c1_12
                            refine lv_tableIn (tgt := 195) hx hb dX8_account_1 (by rw [c1_12]; decide) (by rw [c1_12]; decide) (by rw [c1_12]; rfl) (by decide) ?_
                            refine lv_aload_n hx hb dX8_account_195 rfl (lv_at hl 0 rfl) ?_
                            refine va_get (D := D) (ci := 10) (v := .ref (B 0 0)) (C := RX8) (T := TX8) (N := 8) hx hb hts ju_X8 hown hK hP 0 rfl rfl 0 (by decide) (hts _ jq_1_19) (fun _ h9 => h9) rfl dX8_account_196 ?_
                            refine va_getN (D := D) (ci := 8) (v := .ref (B 0 2)) (C := RX6) (T := TX6) (N := 7) (host := "TheatreSeasons") hx hb hts ju_X6 hown hK (sTS_0 hP) 0 rfl rfl 0 (by decide) (va_Nw.use rfl (hK0.2 _ jn_29)) (fun _ h9 => h9) rfl dX8_account_199 ?_
                            refine lv_iconst (v := 2) hx hb dX8_account_202 (by decide) ?_
                            refine jVpI C dX8_account_203 (kt_X5_get l D G (B 0 2) (B 0 3) 3 (Nat.le_of_ble_eq_true rfl) (M 0 1) (2 : Int32)) jy_X5_get jq_7_5 jq_6_13 jq_6_14 ⟨rfl, rfl, Nat.le_of_ble_eq_true rfl, Nat.le_of_ble_eq_true rfl⟩ ⟨Nat.le_of_ble_eq_true rfl, Nat.le_of_ble_eq_true rfl⟩ (sX6_1 (sTS_0 hP))  (ci := 7) (iw := 0) rfl rfl rfl hl (rest := []) rfl (Nat.le_of_ble_eq_true rfl) ?_
                            cases hV
                            exact xRet C rfl dX8_account_206 rfl rfl rfl (by decide) (by decide) hP hS
                          · have hV := jF1 hV c1_12
                            by_cases c1_13 : v1 = 13
                            · have hV := jT1 hV c1_13
                              refine lv_tableIn (tgt := 207) hx hb dX8_account_1 (by rw [c1_13]; decide) (by rw [c1_13]; decide) (by rw [c1_13]; rfl) (by decide) ?_
                              refine lv_aload_n hx hb dX8_account_207 rfl (lv_at hl 0 rfl) ?_
                              refine va_get (D := D) (ci := 10) (v := .ref (B 9 3)) (C := RX8) (T := TX8) (N := 8) hx hb hts ju_X8 hown hK hP 0 rfl rfl 3 (by decide) (hts _ jq_2_4) (fun _ h9 => h9) rfl dX8_account_208 ?_
                              refine va_getN (D := D) (ci := 3) (v := .int (M 9 0 5)) (C := RX1) (T := TX1) (N := 5) (host := "TheatreSeasons") hx hb hts ju_X1 hown hK (sTS_I hP) 0 rfl rfl 1 (by decide) (va_Nw.use rfl (hK0.2 _ jn_37)) (fun _ h9 => h9) rfl dX8_account_211 ?_
                              cases hV
                              exact xRet C rfl dX8_account_214 rfl rfl rfl (by decide) (by decide) hP hS
                            · have hV := jF1 hV c1_13
                              by_cases c1_14 : v1 = 14
                              · have hV := jT1 hV c1_14
                                refine lv_tableIn (tgt := 215) hx hb dX8_account_1 (by rw [c1_14]; decide) (by rw [c1_14]; decide) (by rw [c1_14]; rfl) (by decide) ?_
                                refine lv_aload_n hx hb dX8_account_215 rfl (lv_at hl 0 rfl) ?_
                                refine va_get (D := D) (ci := 10) (v := .ref (B 9 1)) (C := RX8) (T := TX8) (N := 8) hx hb hts ju_X8 hown hK hP 0 rfl rfl 2 (by decide) (hts _ jq_2_0) (fun _ h9 => h9) rfl dX8_account_216 ?_
                                refine va_getN (D := D) (ci := 2) (v := .int (M 9 0 4)) (C := RX0) (T := TX0) (N := 2) (host := "TheatreSeasons") hx hb hts ju_X0 hown hK hP 1 rfl rfl 1 (by decide) (va_Nw.use rfl (hK0.2 _ jn_36)) (fun _ h9 => h9) rfl dX8_account_219 ?_
                                cases hV
                                exact xRet C rfl dX8_account_222 rfl rfl rfl (by decide) (by decide) hP hS
                              · have hV := jF1 hV c1_14
                                refine jTabDef (tgt := 223) hx hb dX8_account_1 (fun k h1 h2 h3 => ?_) (by decide) ?_
                                · rcases (show k = 0 ∨ k = 1 ∨ k = 2 ∨ k = 3 ∨ k = 4 ∨ k = 5 ∨ k = 6 ∨ k = 7 ∨ k = 8 ∨ k = 9 ∨ k = 10 ∨ k = 11 ∨ k = 12 ∨ k = 13 ∨ k = 14 by omega) with rfl | rfl | rfl | rfl | rfl | rfl | rfl | rfl | rfl | rfl | rfl | rfl | rfl | rfl | rfl <;> first | rfl | exact absurd (Int32.toInt_inj.mp (h3.trans (by decide))) c1_0 | exact absurd (Int32.toInt_inj.mp (h3.trans (by decide))) c1_1 | exact absurd (Int32.toInt_inj.mp (h3.trans (by decide))) c1_2 | exact absurd (Int32.toInt_inj.mp (h3.trans (by decide))) c1_3 | exact absurd (Int32.toInt_inj.mp (h3.trans (by decide))) c1_4 | exact absurd (Int32.toInt_inj.mp (h3.trans (by decide))) c1_5 | exact absurd (Int32.toInt_inj.mp (h3.trans (by decide))) c1_6 | exact absurd (Int32.toInt_inj.mp (h3.trans (by decide))) c1_7 | exact absurd (Int32.toInt_inj.mp (h3.trans (by decide))) c1_8 | exact absurd (Int32.toInt_inj.mp (h3.trans (by decide))) c1_9 | exact absurd (Int32.toInt_inj.mp (h3.trans (by decide))) c1_10 | exact absurd (Int32.toInt_inj.mp (h3.trans (by decide))) c1_11 | exact absurd (Int32.toInt_inj.mp (h3.trans (by decide))) c1_12 | exact absurd (Int32.toInt_inj.mp (h3.trans (by decide))) c1_13 | exact absurd (Int32.toInt_inj.mp (h3.trans (by decide))) c1_14
                                · obtain ⟨sa2, hsa2⟩ := hZ.2.2.2.2.2.2 _ jms_282
                                  cases hV
                                  exact xThrowW C hno hl0 (by decide) (by decide) jq_6_2 jq_6_3 hsa2 (xat_118 C) xgd_118_114 hZ hS hA hP hl dX8_account_223 dX8_account_226 dX8_account_227 dX8_account_230 dX8_account_233 (rest := []) (Nat.le_of_ble_eq_true rfl) (Nat.le_of_ble_eq_true rfl) (Nat.le_of_ble_eq_true rfl) (Nat.le_of_ble_eq_true rfl) (by decide) (by decide) (show (2 : Int32) ≠ 0 by decide) (show exN 2 = "java/lang/IllegalArgumentException" by decide)
