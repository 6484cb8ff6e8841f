theorem jy_X6_seatsAt : jY yX6_seatsAt cX6_seatsAt 3 (some .int) 2 := ⟨by decide +kernel, jq_10_8, jq_1_16⟩
def F_X6_seatsAt (N : Nat)  (M : Nat → Nat → Int32) (v1 v2 : Int32) : Option Int32 := (if v2 = 0 then (some (rg 24 (M 10) v1)) else (if v2 = (1 : Int32) then (some (rg 24 (M 11) v1)) else ((F_X2_taken N M v1).bind (fun r3 => (some ((rg 3 (M 1) (rg 24 (M 8) v1)) - r3))))))
set_option maxHeartbeats 4000000 in
set_option maxRecDepth 100000 in
theorem k_X6_seatsAt (l : Launch) (D : va_G) (G : Nat → ClassId) (a : Nat → Nat) (N : Nat) (M : Nat → Nat → Int32) (v1 v2 : Int32) (r : Int32) (hV : F_X6_seatsAt N  M v1 v2 = some r) : pM l yX6_seatsAt (jws yX6_seatsAt cX6_seatsAt 3 (some .int)) ({ frames := 2, cells := 0, slots := 0, locals := 42 } : Room) [.ref (a 0), .int v1, .int v2] D G (wSeas a G M) (some (.int r)) := by
  refine pM_of (by decide +kernel) (Nat.le_of_ble_eq_true rfl) (fun p e s m args below meth c ls C hP hl => ?_)
  have C : Cx p s m args meth c cX6_seatsAt 3 RX6 (some .int) D G := C
  obtain ⟨hx, hb, hr, hml, hts, hown, hlocks, hK0⟩ := id C
  have hK := hK0.1
  have hl : lv_has ls 3 [(0, .ref (a 0)), (1, .int v1), (2, .int v2)] := hl
  rw [F_X6_seatsAt] at hV
  refine lv_iload_n hx hb dX6_seatsAt_0 rfl (lv_at hl 2 rfl) ?_
  refine lv_if_ne (tgt := 16) hx hb dX6_seatsAt_1 (by decide) (fun c7 => ?_) (fun c7 => ?_)
  · have hV := jF1 hV c7
    refine lv_iload_n hx hb dX6_seatsAt_16 rfl (lv_at hl 2 rfl) ?_
    refine lv_iconst (v := 1) hx hb dX6_seatsAt_17 (by decide) ?_
    refine lv_icmp_ne (tgt := 33) hx hb dX6_seatsAt_18 (by decide) (fun c5 => ?_) (fun c5 => ?_)
    · have hV := jF1 hV c5
      refine lv_aload_n hx hb dX6_seatsAt_33 rfl (lv_at hl 0 rfl) ?_
      refine va_get (D := D) (ci := 8) (v := .ref (a 2)) (C := RX6) (T := TX6) (N := 7) hx hb hts ju_X6 hown hK hP 0 rfl rfl 0 (by decide) (hts _ jq_2_13) (fun _ h9 => h9) rfl dX6_seatsAt_34 ?_
      refine lv_aload_n hx hb dX6_seatsAt_37 rfl (lv_at hl 0 rfl) ?_
      refine va_get (D := D) (ci := 8) (v := .ref (a 37)) (C := RX6) (T := TX6) (N := 7) hx hb hts ju_X6 hown hK hP 0 rfl rfl 4 (by decide) (hts _ jq_2_23) (fun _ h9 => h9) rfl dX6_seatsAt_38 ?_
      refine va_getN (D := D) (ci := 4) (v := .ref (a 16)) (C := RX2) (T := TX2) (N := 7) (host := "TheatreSeasons") hx hb hts ju_X2 hown hK (sX6_X2 hP) 0 rfl rfl 2 (by decide) (va_Nw.use rfl (hK0.2 _ jn_13)) (fun _ h9 => h9) rfl dX6_seatsAt_41 ?_
      refine lv_iload_n hx hb dX6_seatsAt_44 rfl (lv_at hl 1 rfl) ?_
      refine jVpI C dX6_seatsAt_45 (kt_X5_get l D G (a 16) (a 17) 24 (Nat.le_of_ble_eq_true rfl) (M 8) v1) jy_X5_get jq_9_5 jq_9_6 jq_9_7 ⟨rfl, rfl, Nat.le_of_ble_eq_true rfl, Nat.le_of_ble_eq_true rfl⟩ ⟨Nat.le_of_ble_eq_true rfl, Nat.le_of_ble_eq_true rfl⟩ (sX2_8 (sX6_X2 hP))  (ci := 7) (iw := 0) rfl rfl rfl hl (rest := [.ref (a 2)]) rfl (Nat.le_of_ble_eq_true rfl) ?_
      refine jVpI C dX6_seatsAt_48 (kt_X5_get l D G (a 2) (a 3) 3 (Nat.le_of_ble_eq_true rfl) (M 1) (rg 24 (M 8) v1)) jy_X5_get jq_9_5 jq_9_6 jq_9_7 ⟨rfl, rfl, Nat.le_of_ble_eq_true rfl, Nat.le_of_ble_eq_true rfl⟩ ⟨Nat.le_of_ble_eq_true rfl, Nat.le_of_ble_eq_true rfl⟩ (sX6_1 hP)  (ci := 7) (iw := 0) rfl rfl rfl hl (rest := []) rfl (Nat.le_of_ble_eq_true rfl) ?_
      refine lv_aload_n hx hb dX6_seatsAt_51 rfl (lv_at hl 0 rfl) ?_
      refine va_get (D := D) (ci := 8) (v := .ref (a 37)) (C := RX6) (T := TX6) (N := 7) hx hb hts ju_X6 hown hK hP 0 rfl rfl 4 (by decide) (hts _ jq_2_23) (fun _ h9 => h9) rfl dX6_seatsAt_52 ?_
      refine lv_iload_n hx hb dX6_seatsAt_55 rfl (lv_at hl 1 rfl) ?_
      obtain ⟨r3, hr3, hV⟩ := jBind hV
      refine jVpI C dX6_seatsAt_56 (k_X2_taken l D G a N M v1 r3 hr3) jy_X2_taken jq_9_9 jq_9_10 jq_9_11 ⟨rfl, rfl, Nat.le_of_ble_eq_true rfl, Nat.le_of_ble_eq_true rfl⟩ ⟨Nat.le_of_ble_eq_true rfl, Nat.le_of_ble_eq_true rfl⟩ (sX6_X2 hP)  (ci := 4) (iw := 0) rfl rfl rfl hl (rest := [.int (rg 3 (M 1) (rg 24 (M 8) v1))]) rfl (Nat.le_of_ble_eq_true rfl) ?_
      refine lv_isub hx hb dX6_seatsAt_59 ?_
      exact pRet C rfl dX6_seatsAt_60 rfl (Option.some.inj hV)
    · have hV := jT1 hV c5
      refine lv_aload_n hx hb dX6_seatsAt_21 rfl (lv_at hl 0 rfl) ?_
      refine va_get (D := D) (ci := 8) (v := .ref (a 37)) (C := RX6) (T := TX6) (N := 7) hx hb hts ju_X6 hown hK hP 0 rfl rfl 4 (by decide) (hts _ jq_2_23) (fun _ h9 => h9) rfl dX6_seatsAt_22 ?_
      refine va_getN (D := D) (ci := 4) (v := .ref (a 22)) (C := RX2) (T := TX2) (N := 7) (host := "TheatreSeasons") hx hb hts ju_X2 hown hK (sX6_X2 hP) 0 rfl rfl 5 (by decide) (va_Nw.use rfl (hK0.2 _ jn_18)) (fun _ h9 => h9) rfl dX6_seatsAt_25 ?_
      refine lv_iload_n hx hb dX6_seatsAt_28 rfl (lv_at hl 1 rfl) ?_
      refine jVpI C dX6_seatsAt_29 (kt_X5_get l D G (a 22) (a 23) 24 (Nat.le_of_ble_eq_true rfl) (M 11) v1) jy_X5_get jq_9_5 jq_9_6 jq_9_7 ⟨rfl, rfl, Nat.le_of_ble_eq_true rfl, Nat.le_of_ble_eq_true rfl⟩ ⟨Nat.le_of_ble_eq_true rfl, Nat.le_of_ble_eq_true rfl⟩ (sX2_11 (sX6_X2 hP))  (ci := 7) (iw := 0) rfl rfl rfl hl (rest := []) rfl (Nat.le_of_ble_eq_true rfl) ?_
      exact pRet C rfl dX6_seatsAt_32 rfl (Option.some.inj hV)
  · have hV := jT1 hV c7
    refine lv_aload_n hx hb dX6_seatsAt_4 rfl (lv_at hl 0 rfl) ?_
    refine va_get (D := D) (ci := 8) (v := .ref (a 37)) (C := RX6) (T := TX6) (N := 7) hx hb hts ju_X6 hown hK hP 0 rfl rfl 4 (by decide) (hts _ jq_2_23) (fun _ h9 => h9) rfl dX6_seatsAt_5 ?_
    refine va_getN (D := D) (ci := 4) (v := .ref (a 20)) (C := RX2) (T := TX2) (N := 7) (host := "TheatreSeasons") hx hb hts ju_X2 hown hK (sX6_X2 hP) 0 rfl rfl 4 (by decide) (va_Nw.use rfl (hK0.2 _ jn_17)) (fun _ h9 => h9) rfl dX6_seatsAt_8 ?_
    refine lv_iload_n hx hb dX6_seatsAt_11 rfl (lv_at hl 1 rfl) ?_
    refine jVpI C dX6_seatsAt_12 (kt_X5_get l D G (a 20) (a 21) 24 (Nat.le_of_ble_eq_true rfl) (M 10) v1) jy_X5_get jq_9_5 jq_9_6 jq_9_7 ⟨rfl, rfl, Nat.le_of_ble_eq_true rfl, Nat.le_of_ble_eq_true rfl⟩ ⟨Nat.le_of_ble_eq_true rfl, Nat.le_of_ble_eq_true rfl⟩ (sX2_10 (sX6_X2 hP))  (ci := 7) (iw := 0) rfl rfl rfl hl (rest := []) rfl (Nat.le_of_ble_eq_true rfl) ?_
    exact pRet C rfl dX6_seatsAt_15 rfl (Option.some.inj hV)
theorem jy_X6_serveRequests : jY yX6_serveRequests cX6_serveRequests 4 none 1 := ⟨by decide +kernel, jq_9_23, jq_1_16⟩
def D_X6_serveRequests_2 (N : Nat)  : Nat → (Nat → Nat → Int32) → Int32 → Int32 → Option (Nat → Nat → Int32)
  | 0, _, _, _ => none
  | n + 1, M, v1, v2 => (if (20 : Int32) ≤ v2 then (some M) else ((F_X4_find N M v1 (0 : Int32)).bind (fun r1 => (if r1 = (-1 : Int32) then (some M) else ((F_X6_seatsAt N M v1 (2 : Int32)).bind (fun r3 => (if (rg 20 (M 16) r1) ≤ r3 then (jlet (u1 M 10 (rs 24 (M 10) v1 (rg 24 (M 10) v1 + (rg 20 (M 16) r1)))) (fun M6 => ((F_X4_removeAt N M6 r1).bind (fun r7 => (jlet (mgX4 M6 r7) (fun M8 => (D_X6_serveRequests_2 N   n M8 v1 (v2 + 1)))))))) else (some M))))))))
set_option maxHeartbeats 4000000 in
set_option maxRecDepth 100000 in
theorem B_X6_serveRequests_2 {p : Program} {l : Launch} {e : Env} {s : State} {m : MethodId} {args : Array Value} {below : List Frame} {meth : Method} {c : Code} {D : va_G} {G : Nat → ClassId} {A : Nat → Prop} (C : Cx p s m args meth c cX6_serveRequests 4 RX6 none D G) (hA : ∀ q : Nat, s.heap.size ≤ q → A q) (N : Nat) (a : Nat → Nat) (r : (Nat → Nat → Int32)) : (∀ (n : Nat) (M : Nat → Nat → Int32) (v1 : Int32) (v2 : Int32) (ls : Array Slot) (H : Heap) (locs : List Loc), va_P D vwCl (wSeas a G M) H → va_D A (wSeas a G M) → va_S A s.heap H locs → lv_has ls 4 [(0, .ref (a 0)), (1, .int v1), (2, .int v2)] → D_X6_serveRequests_2 N   n M v1 v2 = some r → W p l e ({ frames := 3, cells := 0, slots := 0, locals := 65 } : Room) s m args below meth c H locs 0 0 (MQ below (mQ D (wSeas a G r) none A) args s 0 0 A) (F0 m 2 ls [])) := by
  have C := C
  obtain ⟨hx, hb, hr, hml, hts, hown, hlocks, hK0⟩ := id C
  have hK := hK0.1
  intro n
  induction n with
  | zero =>
    intro M v1 v2 ls H locs hP hD hS hl hV
    rw [D_X6_serveRequests_2] at hV
    cases hV
  | succ n ih =>
    intro M v1 v2 ls H locs hP hD hS hl hV
    rw [D_X6_serveRequests_2] at hV
    refine lv_iload_n hx hb dX6_serveRequests_2 rfl (lv_at hl 2 rfl) ?_
    refine lv_bipush (v := 20) hx hb dX6_serveRequests_3 (by decide) ?_
    refine lv_icmp_ge (tgt := 80) hx hb dX6_serveRequests_5 (by decide) (fun c13 => ?_) (fun c13 => ?_)
    · have hV := jT1 hV c13
      cases hV
      exact mRetV C dX6_serveRequests_80 hP hS
    · have hV := jF1 hV c13
      refine lv_aload_n hx hb dX6_serveRequests_8 rfl (lv_at hl 0 rfl) ?_
      refine va_get (D := D) (ci := 8) (v := .ref (a 39)) (C := RX6) (T := TX6) (N := 7) hx hb hts ju_X6 hown hK hP 0 rfl rfl 6 (by decide) (hts _ jq_3_7) (fun _ h9 => h9) rfl dX6_serveRequests_9 ?_
      refine lv_iload_n hx hb dX6_serveRequests_12 rfl (lv_at hl 1 rfl) ?_
      refine lv_iconst (v := 0) hx hb dX6_serveRequests_13 (by decide) ?_
      obtain ⟨r1, hr1, hV⟩ := jBind hV
      refine jVpI C dX6_serveRequests_14 (k_X4_find l D G a N M v1 (0 : Int32) r1 hr1) jy_X4_find jq_10_0 jq_10_1 jq_10_2 ⟨rfl, rfl, Nat.le_of_ble_eq_true rfl, Nat.le_of_ble_eq_true rfl⟩ ⟨Nat.le_of_ble_eq_true rfl, Nat.le_of_ble_eq_true rfl⟩ (sX6_X4 hP)  (ci := 6) (iw := 0) rfl rfl rfl hl (rest := []) rfl (Nat.le_of_ble_eq_true rfl) ?_
      refine lv_istore_n (lv' := [(3, .int r1), (0, .ref (a 0)), (1, .int v1), (2, .int v2)]) hx hb dX6_serveRequests_17 rfl hl (by decide) rfl (fun ls hl => ?_)
      refine lv_iload_n hx hb dX6_serveRequests_18 rfl (lv_at hl 0 rfl) ?_
      refine lv_iconst (v := -1) hx hb dX6_serveRequests_19 (by decide) ?_
      refine lv_icmp_eq (tgt := 43) hx hb dX6_serveRequests_20 (by decide) (fun c12 => ?_) (fun c12 => ?_)
      · have hV := jT1 hV c12
        cases hV
        exact mRetV C dX6_serveRequests_43 hP hS
      · have hV := jF1 hV c12
        refine lv_aload_n hx hb dX6_serveRequests_23 rfl (lv_at hl 1 rfl) ?_
        refine va_get (D := D) (ci := 8) (v := .ref (a 39)) (C := RX6) (T := TX6) (N := 7) hx hb hts ju_X6 hown hK hP 0 rfl rfl 6 (by decide) (hts _ jq_3_7) (fun _ h9 => h9) rfl dX6_serveRequests_24 ?_
        refine va_getN (D := D) (ci := 6) (v := .ref (a 32)) (C := RX4) (T := TX4) (N := 4) (host := "TheatreSeasons") hx hb hts ju_X4 hown hK (sX6_X4 hP) 0 rfl rfl 2 (by decide) (va_Nw.use rfl (hK0.2 _ jn_28)) (fun _ h9 => h9) rfl dX6_serveRequests_27 ?_
        refine lv_iload_n hx hb dX6_serveRequests_30 rfl (lv_at hl 0 rfl) ?_
        refine jVpI C dX6_serveRequests_31 (kt_X5_get l D G (a 32) (a 33) 20 (Nat.le_of_ble_eq_true rfl) (M 16) r1) jy_X5_get jq_9_5 jq_9_6 jq_9_7 ⟨rfl, rfl, Nat.le_of_ble_eq_true rfl, Nat.le_of_ble_eq_true rfl⟩ ⟨Nat.le_of_ble_eq_true rfl, Nat.le_of_ble_eq_true rfl⟩ (sX4_16 (sX6_X4 hP))  (ci := 7) (iw := 0) rfl rfl rfl hl (rest := []) rfl (Nat.le_of_ble_eq_true rfl) ?_
        refine lv_aload_n hx hb dX6_serveRequests_34 rfl (lv_at hl 1 rfl) ?_
        refine lv_iload_n hx hb dX6_serveRequests_35 rfl (lv_at hl 2 rfl) ?_
        refine lv_iconst (v := 2) hx hb dX6_serveRequests_36 (by decide) ?_
        obtain ⟨r3, hr3, hV⟩ := jBind hV
        refine jVpI C dX6_serveRequests_37 (k_X6_seatsAt l D G a N M v1 (2 : Int32) r3 hr3) jy_X6_seatsAt jq_10_5 jq_10_6 jq_10_7 ⟨rfl, rfl, Nat.le_of_ble_eq_true rfl, Nat.le_of_ble_eq_true rfl⟩ ⟨Nat.le_of_ble_eq_true rfl, Nat.le_of_ble_eq_true rfl⟩ hP  (ci := 8) (iw := 0) rfl rfl rfl hl (rest := [.int (rg 20 (M 16) r1)]) rfl (Nat.le_of_ble_eq_true rfl) ?_
        refine lv_icmp_le (tgt := 44) hx hb dX6_serveRequests_40 (by decide) (fun c11 => ?_) (fun c11 => ?_)
        · have hV := jT1 hV c11
          refine lv_aload_n hx hb dX6_serveRequests_44 rfl (lv_at hl 1 rfl) ?_
          refine va_get (D := D) (ci := 8) (v := .ref (a 37)) (C := RX6) (T := TX6) (N := 7) hx hb hts ju_X6 hown hK hP 0 rfl rfl 4 (by decide) (hts _ jq_2_23) (fun _ h9 => h9) rfl dX6_serveRequests_45 ?_
          refine va_getN (D := D) (ci := 4) (v := .ref (a 20)) (C := RX2) (T := TX2) (N := 7) (host := "TheatreSeasons") hx hb hts ju_X2 hown hK (sX6_X2 hP) 0 rfl rfl 4 (by decide) (va_Nw.use rfl (hK0.2 _ jn_17)) (fun _ h9 => h9) rfl dX6_serveRequests_48 ?_
          refine lv_iload_n hx hb dX6_serveRequests_51 rfl (lv_at hl 2 rfl) ?_
          refine lv_aload_n hx hb dX6_serveRequests_52 rfl (lv_at hl 1 rfl) ?_
          refine va_get (D := D) (ci := 8) (v := .ref (a 39)) (C := RX6) (T := TX6) (N := 7) hx hb hts ju_X6 hown hK hP 0 rfl rfl 6 (by decide) (hts _ jq_3_7) (fun _ h9 => h9) rfl dX6_serveRequests_53 ?_
          refine va_getN (D := D) (ci := 6) (v := .ref (a 32)) (C := RX4) (T := TX4) (N := 4) (host := "TheatreSeasons") hx hb hts ju_X4 hown hK (sX6_X4 hP) 0 rfl rfl 2 (by decide) (va_Nw.use rfl (hK0.2 _ jn_28)) (fun _ h9 => h9) rfl dX6_serveRequests_56 ?_
          refine lv_iload_n hx hb dX6_serveRequests_59 rfl (lv_at hl 0 rfl) ?_
          refine jVpI C dX6_serveRequests_60 (kt_X5_get l D G (a 32) (a 33) 20 (Nat.le_of_ble_eq_true rfl) (M 16) r1) jy_X5_get jq_9_5 jq_9_6 jq_9_7 ⟨rfl, rfl, Nat.le_of_ble_eq_true rfl, Nat.le_of_ble_eq_true rfl⟩ ⟨Nat.le_of_ble_eq_true rfl, Nat.le_of_ble_eq_true rfl⟩ (sX4_16 (sX6_X4 hP))  (ci := 7) (iw := 0) rfl rfl rfl hl (rest := [.int v1, .ref (a 20)]) rfl (Nat.le_of_ble_eq_true rfl) ?_
          refine jVmV C dX6_serveRequests_63 (kt_X5_add l D G (a 20) (a 21) 24 (Nat.le_of_ble_eq_true rfl) (M 10) v1 (rg 20 (M 16) r1)) jy_X5_add jq_10_9 jq_10_10 jq_10_11 ⟨rfl, rfl, Nat.le_of_ble_eq_true rfl, Nat.le_of_ble_eq_true rfl⟩ ⟨Nat.le_of_ble_eq_true rfl, Nat.le_of_ble_eq_true rfl⟩ (sX2_10 (sX6_X2 hP)) (dX2_10 (dX6_X2 hD)) hA hS (ci := 7) (iw := 0) rfl rfl rfl hl (rest := []) rfl (Nat.le_of_ble_eq_true rfl) (fun H locs hQ hz hkp hS => ?_)
          obtain ⟨M6, e10, hV⟩ := jLet hV
          have hP : va_P D vwCl (wSeas a G M6) H := by rw [e10]; exact jX6_10 hP hD hkp hQ
          have hD : va_D A (wSeas a G M6) := jD (w := (wSeas a G M)) rfl hD
          refine lv_aload_n hx hb dX6_serveRequests_66 rfl (lv_at hl 1 rfl) ?_
          refine va_get (D := D) (ci := 8) (v := .ref (a 39)) (C := RX6) (T := TX6) (N := 7) hx hb hts ju_X6 hown hK hP 0 rfl rfl 6 (by decide) (hts _ jq_3_7) (fun _ h9 => h9) rfl dX6_serveRequests_67 ?_
          refine lv_iload_n hx hb dX6_serveRequests_70 rfl (lv_at hl 0 rfl) ?_
          obtain ⟨r7, hr7, hV⟩ := jBind hV
          refine jVmV C dX6_serveRequests_71 (k_X4_removeAt l D G a N M6 r1 r7 hr7) jy_X4_removeAt jq_10_15 jq_10_16 jq_10_17 ⟨rfl, rfl, Nat.le_of_ble_eq_true rfl, Nat.le_of_ble_eq_true rfl⟩ ⟨Nat.le_of_ble_eq_true rfl, Nat.le_of_ble_eq_true rfl⟩ (sX6_X4 hP) (dX6_X4 hD) hA hS (ci := 6) (iw := 0) rfl rfl rfl hl (rest := []) rfl (Nat.le_of_ble_eq_true rfl) (fun H locs hQ hz hkp hS => ?_)
          obtain ⟨M8, e9, hV⟩ := jLet hV
          have hP : va_P D vwCl (wSeas a G M8) H := by rw [e9]; exact jX6_X4 hP hD hkp hQ
          have hD : va_D A (wSeas a G M8) := jD (w := (wSeas a G M6)) rfl hD
          refine lv_iinc (v := (v2 + 1)) (lv' := [(2, .int (v2 + 1)), (3, .int r1), (0, .ref (a 0)), (1, .int v1)]) hx hb dX6_serveRequests_74 hl (k := 3) rfl rfl (by decide) rfl (fun ls hl => ?_)
          refine lv_goto (tgt := 2) hx hb dX6_serveRequests_77 (by decide) ?_
          exact ih M8 v1 (v2 + 1) _ _ _ hP hD hS (lv_sub hl [2, 3, 0] rfl) hV
        · have hV := jF1 hV c11
          cases hV
          exact mRetV C dX6_serveRequests_43 hP hS
def F_X6_serveRequests (N : Nat)  (M : Nat → Nat → Int32) (v1 : Int32) : Option (Nat → Nat → Int32) := (D_X6_serveRequests_2 N   N M v1 (0 : Int32))
set_option maxHeartbeats 4000000 in
set_option maxRecDepth 100000 in
theorem k_X6_serveRequests (l : Launch) (D : va_G) (G : Nat → ClassId) (a : Nat → Nat) (N : Nat) (M : Nat → Nat → Int32) (v1 : Int32) (r : (Nat → Nat → Int32)) (hV : F_X6_serveRequests N  M v1 = some r) : mM l yX6_serveRequests (jws yX6_serveRequests cX6_serveRequests 4 none) ({ frames := 3, cells := 0, slots := 0, locals := 65 } : Room) [.ref (a 0), .int v1] D G (wSeas a G M) (wSeas a G r) none := by
  refine mM_of (by decide +kernel) (Nat.le_of_ble_eq_true rfl) (fun p e s m args below meth c ls A C hP hD hA hl => ?_)
  have C : Cx p s m args meth c cX6_serveRequests 4 RX6 none D G := C
  have hS : va_S A s.heap s.heap [] := va_S.rf
  obtain ⟨hx, hb, hr, hml, hts, hown, hlocks, hK0⟩ := id C
  have hK := hK0.1
  have hl : lv_has ls 4 [(0, .ref (a 0)), (1, .int v1)] := hl
  rw [F_X6_serveRequests] at hV
  refine lv_iconst (v := 0) hx hb dX6_serveRequests_0 (by decide) ?_
  refine lv_istore_n (lv' := [(2, .int (0 : Int32)), (0, .ref (a 0)), (1, .int v1)]) hx hb dX6_serveRequests_1 rfl hl (by decide) rfl (fun ls hl => ?_)
  exact B_X6_serveRequests_2 C hA N a r   N M v1 (0 : Int32) _ _ _ hP hD hS (lv_sub hl [1, 2, 0] rfl) hV
theorem jy_X6_serveStage : jY yX6_serveStage cX6_serveStage 3 none 1 := ⟨by decide +kernel, jq_9_19, jq_1_16⟩
def D_X6_serveStage_2 (N : Nat)  : Nat → (Nat → Nat → Int32) → Int32 → Int32 → Option (Nat → Nat → Int32)
  | 0, _, _, _ => none
  | n + 1, M, v1, v2 => (if (M 0 3) ≤ v2 then (some M) else (if (rg 24 (M 8) v2) = v1 then ((F_X6_serveRequests N M v2).bind (fun r2 => (D_X6_serveStage_2 N   n r2 v1 (v2 + 1)))) else (D_X6_serveStage_2 N   n M v1 (v2 + 1))))
set_option maxHeartbeats 4000000 in
set_option maxRecDepth 100000 in
theorem B_X6_serveStage_2 {p : Program} {l : Launch} {e : Env} {s : State} {m : MethodId} {args : Array Value} {below : List Frame} {meth : Method} {c : Code} {D : va_G} {G : Nat → ClassId} {A : Nat → Prop} (C : Cx p s m args meth c cX6_serveStage 3 RX6 none D G) (hA : ∀ q : Nat, s.heap.size ≤ q → A q) (N : Nat) (a : Nat → Nat) (r : (Nat → Nat → Int32)) : (∀ (n : Nat) (M : Nat → Nat → Int32) (v1 : Int32) (v2 : Int32) (ls : Array Slot) (H : Heap) (locs : List Loc), va_P D vwCl (wSeas a G M) H → va_D A (wSeas a G M) → va_S A s.heap H locs → lv_has ls 3 [(0, .ref (a 0)), (1, .int v1), (2, .int v2)] → D_X6_serveStage_2 N   n M v1 v2 = some r → W p l e ({ frames := 4, cells := 0, slots := 0, locals := 88 } : Room) s m args below meth c H locs 0 0 (MQ below (mQ D (wSeas a G r) none A) args s 0 0 A) (F0 m 2 ls [])) := by
  have C := C
  obtain ⟨hx, hb, hr, hml, hts, hown, hlocks, hK0⟩ := id C
  have hK := hK0.1
  intro n
  induction n with
  | zero =>
    intro M v1 v2 ls H locs hP hD hS hl hV
    rw [D_X6_serveStage_2] at hV
    cases hV
  | succ n ih =>
    intro M v1 v2 ls H locs hP hD hS hl hV
    rw [D_X6_serveStage_2] at hV
    refine lv_iload_n hx hb dX6_serveStage_2 rfl (lv_at hl 2 rfl) ?_
    refine lv_aload_n hx hb dX6_serveStage_3 rfl (lv_at hl 0 rfl) ?_
    refine va_get (D := D) (ci := 8) (v := .ref (a 37)) (C := RX6) (T := TX6) (N := 7) hx hb hts ju_X6 hown hK hP 0 rfl rfl 4 (by decide) (hts _ jq_2_23) (fun _ h9 => h9) rfl dX6_serveStage_4 ?_
    refine va_getN (D := D) (ci := 4) (v := .int (M 0 3)) (C := RX2) (T := TX2) (N := 7) (host := "TheatreSeasons") hx hb hts ju_X2 hown hK (sX6_X2 hP) 0 rfl rfl 0 (by decide) (va_Nw.use rfl (hK0.2 _ jn_9)) (fun _ h9 => h9) rfl dX6_serveStage_7 ?_
    refine lv_icmp_ge (tgt := 39) hx hb dX6_serveStage_10 (by decide) (fun c4 => ?_) (fun c4 => ?_)
    · have hV := jT1 hV c4
      cases hV
      exact mRetV C dX6_serveStage_39 hP hS
    · have hV := jF1 hV c4
      refine lv_aload_n hx hb dX6_serveStage_13 rfl (lv_at hl 0 rfl) ?_
      refine va_get (D := D) (ci := 8) (v := .ref (a 37)) (C := RX6) (T := TX6) (N := 7) hx hb hts ju_X6 hown hK hP 0 rfl rfl 4 (by decide) (hts _ jq_2_23) (fun _ h9 => h9) rfl dX6_serveStage_14 ?_
      refine va_getN (D := D) (ci := 4) (v := .ref (a 16)) (C := RX2) (T := TX2) (N := 7) (host := "TheatreSeasons") hx hb hts ju_X2 hown hK (sX6_X2 hP) 0 rfl rfl 2 (by decide) (va_Nw.use rfl (hK0.2 _ jn_13)) (fun _ h9 => h9) rfl dX6_serveStage_17 ?_
      refine lv_iload_n hx hb dX6_serveStage_20 rfl (lv_at hl 2 rfl) ?_
      refine jVpI C dX6_serveStage_21 (kt_X5_get l D G (a 16) (a 17) 24 (Nat.le_of_ble_eq_true rfl) (M 8) v2) jy_X5_get jq_9_5 jq_9_6 jq_9_7 ⟨rfl, rfl, Nat.le_of_ble_eq_true rfl, Nat.le_of_ble_eq_true rfl⟩ ⟨Nat.le_of_ble_eq_true rfl, Nat.le_of_ble_eq_true rfl⟩ (sX2_8 (sX6_X2 hP))  (ci := 7) (iw := 0) rfl rfl rfl hl (rest := []) rfl (Nat.le_of_ble_eq_true rfl) ?_
      refine lv_iload_n hx hb dX6_serveStage_24 rfl (lv_at hl 1 rfl) ?_
      refine lv_icmp_ne (tgt := 33) hx hb dX6_serveStage_25 (by decide) (fun c3 => ?_) (fun c3 => ?_)
      · have hV := jF1 hV c3
        refine lv_iinc (v := (v2 + 1)) (lv' := [(2, .int (v2 + 1)), (0, .ref (a 0)), (1, .int v1)]) hx hb dX6_serveStage_33 hl (k := 2) rfl rfl (by decide) rfl (fun ls hl => ?_)
        refine lv_goto (tgt := 2) hx hb dX6_serveStage_36 (by decide) ?_
        exact ih M v1 (v2 + 1) _ _ _ hP hD hS (lv_sub hl [1, 2, 0] rfl) hV
      · have hV := jT1 hV c3
        refine lv_aload_n hx hb dX6_serveStage_28 rfl (lv_at hl 0 rfl) ?_
        refine lv_iload_n hx hb dX6_serveStage_29 rfl (lv_at hl 2 rfl) ?_
        obtain ⟨r2, hr2, hV⟩ := jBind hV
        refine jVmV C dX6_serveStage_30 (k_X6_serveRequests l D G a N M v2 r2 hr2) jy_X6_serveRequests jq_9_20 jq_9_21 jq_9_22 ⟨rfl, rfl, Nat.le_of_ble_eq_true rfl, Nat.le_of_ble_eq_true rfl⟩ ⟨Nat.le_of_ble_eq_true rfl, Nat.le_of_ble_eq_true rfl⟩ hP hD hA hS (ci := 8) (iw := 0) rfl rfl rfl hl (rest := []) rfl (Nat.le_of_ble_eq_true rfl) (fun H locs hQ hz hkp hS => ?_)
        have hP : va_P D vwCl (wSeas a G r2) H := hQ
        have hD : va_D A (wSeas a G r2) := jD (w := (wSeas a G M)) rfl hD
        refine lv_iinc (v := (v2 + 1)) (lv' := [(2, .int (v2 + 1)), (0, .ref (a 0)), (1, .int v1)]) hx hb dX6_serveStage_33 hl (k := 2) rfl rfl (by decide) rfl (fun ls hl => ?_)
        refine lv_goto (tgt := 2) hx hb dX6_serveStage_36 (by decide) ?_
        exact ih r2 v1 (v2 + 1) _ _ _ hP hD hS (lv_sub hl [1, 2, 0] rfl) hV
def F_X6_serveStage (N : Nat)  (M : Nat → Nat → Int32) (v1 : Int32) : Option (Nat → Nat → Int32) := (D_X6_serveStage_2 N   N M v1 (0 : Int32))
set_option maxHeartbeats 4000000 in
set_option maxRecDepth 100000 in
theorem k_X6_serveStage (l : Launch) (D : va_G) (G : Nat → ClassId) (a : Nat → Nat) (N : Nat) (M : Nat → Nat → Int32) (v1 : Int32) (r : (Nat → Nat → Int32)) (hV : F_X6_serveStage N  M v1 = some r) : mM l yX6_serveStage (jws yX6_serveStage cX6_serveStage 3 none) ({ frames := 4, cells := 0, slots := 0, locals := 88 } : Room) [.ref (a 0), .int v1] D G (wSeas a G M) (wSeas a G r) none := by
  refine mM_of (by decide +kernel) (Nat.le_of_ble_eq_true rfl) (fun p e s m args below meth c ls A C hP hD hA hl => ?_)
  have C : Cx p s m args meth c cX6_serveStage 3 RX6 none D G := C
  have hS : va_S A s.heap s.heap [] := va_S.rf
  obtain ⟨hx, hb, hr, hml, hts, hown, hlocks, hK0⟩ := id C
  have hK := hK0.1
  have hl : lv_has ls 3 [(0, .ref (a 0)), (1, .int v1)] := hl
  rw [F_X6_serveStage] at hV
  refine lv_iconst (v := 0) hx hb dX6_serveStage_0 (by decide) ?_
  refine lv_istore_n (lv' := [(2, .int (0 : Int32)), (0, .ref (a 0)), (1, .int v1)]) hx hb dX6_serveStage_1 rfl hl (by decide) rfl (fun ls hl => ?_)
  exact B_X6_serveStage_2 C hA N a r   N M v1 (0 : Int32) _ _ _ hP hD hS (lv_sub hl [1, 2, 0] rfl) hV
theorem jy_X6_changeSeats : jY yX6_changeSeats cX6_changeSeats 4 (some .int) 2 := ⟨by decide +kernel, jq_8_23, jq_1_16⟩
def D_X6_changeSeats_25 (N : Nat)  : Nat → (Nat → Nat → Int32) → Int32 → Int32 → Int32 → Option (Int32 × (Nat → Nat → Int32))
  | 0, _, _, _, _ => none
  | n + 1, M, v1, v2, v3 => (if (M 0 3) ≤ v3 then (jlet (u1 M 1 (rs 3 (M 1) v1 v2)) (fun M3 => ((F_X6_serveStage N M3 v1).bind (fun r4 => (some ((rg 3 (M 1) v1), r4)))))) else (if (rg 24 (M 8) v3) = v1 then ((F_X2_taken N M v3).bind (fun r7 => (if r7 ≤ v2 then (D_X6_changeSeats_25 N   n M v1 v2 (v3 + 1)) else (some ((jRef (9 : Int32) v3), M))))) else (D_X6_changeSeats_25 N   n M v1 v2 (v3 + 1))))
set_option maxHeartbeats 4000000 in
set_option maxRecDepth 100000 in
theorem B_X6_changeSeats_25 {p : Program} {l : Launch} {e : Env} {s : State} {m : MethodId} {args : Array Value} {below : List Frame} {meth : Method} {c : Code} {D : va_G} {G : Nat → ClassId} {A : Nat → Prop} (C : Cx p s m args meth c cX6_changeSeats 4 RX6 (some .int) D G) (hA : ∀ q : Nat, s.heap.size ≤ q → A q) (N : Nat) (a : Nat → Nat) (r : (Int32 × (Nat → Nat → Int32))) : (∀ (n : Nat) (M : Nat → Nat → Int32) (v1 : Int32) (v2 : Int32) (v3 : Int32) (ls : Array Slot) (H : Heap) (locs : List Loc), va_P D vwCl (wSeas a G M) H → va_D A (wSeas a G M) → va_S A s.heap H locs → lv_has ls 4 [(0, .ref (a 0)), (1, .int v1), (2, .int v2), (3, .int v3)] → D_X6_changeSeats_25 N   n M v1 v2 v3 = some r → W p l e ({ frames := 5, cells := 0, slots := 0, locals := 110 } : Room) s m args below meth c H locs 0 0 (MQ below (mQ D (wSeas a G r.2) (some (.int r.1)) A) args s 0 0 A) (F0 m 25 ls [])) := by
  have C := C
  obtain ⟨hx, hb, hr, hml, hts, hown, hlocks, hK0⟩ := id C
  have hK := hK0.1
  intro n
  induction n with
  | zero =>
    intro M v1 v2 v3 ls H locs hP hD hS hl hV
    rw [D_X6_changeSeats_25] at hV
    cases hV
  | succ n ih =>
    intro M v1 v2 v3 ls H locs hP hD hS hl hV
    rw [D_X6_changeSeats_25] at hV
    refine lv_iload_n hx hb dX6_changeSeats_25 rfl (lv_at hl 3 rfl) ?_
    refine lv_aload_n hx hb dX6_changeSeats_26 rfl (lv_at hl 0 rfl) ?_
    refine va_get (D := D) (ci := 8) (v := .ref (a 37)) (C := RX6) (T := TX6) (N := 7) hx hb hts ju_X6 hown hK hP 0 rfl rfl 4 (by decide) (hts _ jq_2_23) (fun _ h9 => h9) rfl dX6_changeSeats_27 ?_
    refine va_getN (D := D) (ci := 4) (v := .int (M 0 3)) (C := RX2) (T := TX2) (N := 7) (host := "TheatreSeasons") hx hb hts ju_X2 hown hK (sX6_X2 hP) 0 rfl rfl 0 (by decide) (va_Nw.use rfl (hK0.2 _ jn_9)) (fun _ h9 => h9) rfl dX6_changeSeats_30 ?_
    refine lv_icmp_ge (tgt := 76) hx hb dX6_changeSeats_33 (by decide) (fun c11 => ?_) (fun c11 => ?_)
    · have hV := jT1 hV c11
      refine lv_aload_n hx hb dX6_changeSeats_76 rfl (lv_at hl 0 rfl) ?_
      refine va_get (D := D) (ci := 8) (v := .ref (a 2)) (C := RX6) (T := TX6) (N := 7) hx hb hts ju_X6 hown hK hP 0 rfl rfl 0 (by decide) (hts _ jq_2_13) (fun _ h9 => h9) rfl dX6_changeSeats_77 ?_
      refine lv_iload_n hx hb dX6_changeSeats_80 rfl (lv_at hl 1 rfl) ?_
      refine jVpI C dX6_changeSeats_81 (kt_X5_get l D G (a 2) (a 3) 3 (Nat.le_of_ble_eq_true rfl) (M 1) v1) jy_X5_get jq_9_5 jq_9_6 jq_9_7 ⟨rfl, rfl, Nat.le_of_ble_eq_true rfl, Nat.le_of_ble_eq_true rfl⟩ ⟨Nat.le_of_ble_eq_true rfl, Nat.le_of_ble_eq_true rfl⟩ (sX6_1 hP)  (ci := 7) (iw := 0) rfl rfl rfl hl (rest := []) rfl (Nat.le_of_ble_eq_true rfl) ?_
      refine lv_istore_n (lv' := [(3, .int (rg 3 (M 1) v1)), (0, .ref (a 0)), (1, .int v1), (2, .int v2)]) hx hb dX6_changeSeats_84 rfl hl (by decide) rfl (fun ls hl => ?_)
      refine lv_aload_n hx hb dX6_changeSeats_85 rfl (lv_at hl 1 rfl) ?_
      refine va_get (D := D) (ci := 8) (v := .ref (a 2)) (C := RX6) (T := TX6) (N := 7) hx hb hts ju_X6 hown hK hP 0 rfl rfl 0 (by decide) (hts _ jq_2_13) (fun _ h9 => h9) rfl dX6_changeSeats_86 ?_
      refine lv_iload_n hx hb dX6_changeSeats_89 rfl (lv_at hl 2 rfl) ?_
      refine lv_iload_n hx hb dX6_changeSeats_90 rfl (lv_at hl 3 rfl) ?_
      refine jVmV C dX6_changeSeats_91 (kt_X5_set l D G (a 2) (a 3) 3 (Nat.le_of_ble_eq_true rfl) (M 1) v1 v2) jy_X5_set jq_5_2 jq_5_3 jq_5_4 ⟨rfl, rfl, Nat.le_of_ble_eq_true rfl, Nat.le_of_ble_eq_true rfl⟩ ⟨Nat.le_of_ble_eq_true rfl, Nat.le_of_ble_eq_true rfl⟩ (sX6_1 hP) (dX6_1 hD) hA hS (ci := 7) (iw := 0) rfl rfl rfl hl (rest := []) rfl (Nat.le_of_ble_eq_true rfl) (fun H locs hQ hz hkp hS => ?_)
      obtain ⟨M3, e5, hV⟩ := jLet hV
      have hP : va_P D vwCl (wSeas a G M3) H := by rw [e5]; exact jX6_1 hP hD hkp hQ
      have hD : va_D A (wSeas a G M3) := jD (w := (wSeas a G M)) rfl hD
      refine lv_aload_n hx hb dX6_changeSeats_94 rfl (lv_at hl 1 rfl) ?_
      refine lv_iload_n hx hb dX6_changeSeats_95 rfl (lv_at hl 2 rfl) ?_
      obtain ⟨r4, hr4, hV⟩ := jBind hV
      refine jVmV C dX6_changeSeats_96 (k_X6_serveStage l D G a N M3 v1 r4 hr4) jy_X6_serveStage jq_9_16 jq_9_17 jq_9_18 ⟨rfl, rfl, Nat.le_of_ble_eq_true rfl, Nat.le_of_ble_eq_true rfl⟩ ⟨Nat.le_of_ble_eq_true rfl, Nat.le_of_ble_eq_true rfl⟩ hP hD hA hS (ci := 8) (iw := 0) rfl rfl rfl hl (rest := []) rfl (Nat.le_of_ble_eq_true rfl) (fun H locs hQ hz hkp hS => ?_)
      have hP : va_P D vwCl (wSeas a G r4) H := hQ
      have hD : va_D A (wSeas a G r4) := jD (w := (wSeas a G M3)) rfl hD
      refine lv_iload_n hx hb dX6_changeSeats_99 rfl (lv_at hl 0 rfl) ?_
      cases hV
      exact mRet C rfl dX6_changeSeats_100 rfl rfl hP hS
    · have hV := jF1 hV c11
      refine lv_aload_n hx hb dX6_changeSeats_36 rfl (lv_at hl 0 rfl) ?_
      refine va_get (D := D) (ci := 8) (v := .ref (a 37)) (C := RX6) (T := TX6) (N := 7) hx hb hts ju_X6 hown hK hP 0 rfl rfl 4 (by decide) (hts _ jq_2_23) (fun _ h9 => h9) rfl dX6_changeSeats_37 ?_
      refine va_getN (D := D) (ci := 4) (v := .ref (a 16)) (C := RX2) (T := TX2) (N := 7) (host := "TheatreSeasons") hx hb hts ju_X2 hown hK (sX6_X2 hP) 0 rfl rfl 2 (by decide) (va_Nw.use rfl (hK0.2 _ jn_13)) (fun _ h9 => h9) rfl dX6_changeSeats_40 ?_
      refine lv_iload_n hx hb dX6_changeSeats_43 rfl (lv_at hl 3 rfl) ?_
      refine jVpI C dX6_changeSeats_44 (kt_X5_get l D G (a 16) (a 17) 24 (Nat.le_of_ble_eq_true rfl) (M 8) v3) jy_X5_get jq_9_5 jq_9_6 jq_9_7 ⟨rfl, rfl, Nat.le_of_ble_eq_true rfl, Nat.le_of_ble_eq_true rfl⟩ ⟨Nat.le_of_ble_eq_true rfl, Nat.le_of_ble_eq_true rfl⟩ (sX2_8 (sX6_X2 hP))  (ci := 7) (iw := 0) rfl rfl rfl hl (rest := []) rfl (Nat.le_of_ble_eq_true rfl) ?_
      refine lv_iload_n hx hb dX6_changeSeats_47 rfl (lv_at hl 1 rfl) ?_
      refine lv_icmp_ne (tgt := 70) hx hb dX6_changeSeats_48 (by decide) (fun c10 => ?_) (fun c10 => ?_)
      · have hV := jF1 hV c10
        refine lv_iinc (v := (v3 + 1)) (lv' := [(3, .int (v3 + 1)), (0, .ref (a 0)), (1, .int v1), (2, .int v2)]) hx hb dX6_changeSeats_70 hl (k := 3) rfl rfl (by decide) rfl (fun ls hl => ?_)
        refine lv_goto (tgt := 25) hx hb dX6_changeSeats_73 (by decide) ?_
        exact ih M v1 v2 (v3 + 1) _ _ _ hP hD hS (lv_sub hl [1, 2, 3, 0] rfl) hV
      · have hV := jT1 hV c10
        refine lv_aload_n hx hb dX6_changeSeats_51 rfl (lv_at hl 0 rfl) ?_
        refine va_get (D := D) (ci := 8) (v := .ref (a 37)) (C := RX6) (T := TX6) (N := 7) hx hb hts ju_X6 hown hK hP 0 rfl rfl 4 (by decide) (hts _ jq_2_23) (fun _ h9 => h9) rfl dX6_changeSeats_52 ?_
        refine lv_iload_n hx hb dX6_changeSeats_55 rfl (lv_at hl 3 rfl) ?_
        obtain ⟨r7, hr7, hV⟩ := jBind hV
        refine jVpI C dX6_changeSeats_56 (k_X2_taken l D G a N M v3 r7 hr7) jy_X2_taken jq_9_9 jq_9_10 jq_9_11 ⟨rfl, rfl, Nat.le_of_ble_eq_true rfl, Nat.le_of_ble_eq_true rfl⟩ ⟨Nat.le_of_ble_eq_true rfl, Nat.le_of_ble_eq_true rfl⟩ (sX6_X2 hP)  (ci := 4) (iw := 0) rfl rfl rfl hl (rest := []) rfl (Nat.le_of_ble_eq_true rfl) ?_
        refine lv_iload_n hx hb dX6_changeSeats_59 rfl (lv_at hl 2 rfl) ?_
        refine lv_icmp_le (tgt := 70) hx hb dX6_changeSeats_60 (by decide) (fun c9 => ?_) (fun c9 => ?_)
        · have hV := jT1 hV c9
          refine lv_iinc (v := (v3 + 1)) (lv' := [(3, .int (v3 + 1)), (0, .ref (a 0)), (1, .int v1), (2, .int v2)]) hx hb dX6_changeSeats_70 hl (k := 3) rfl rfl (by decide) rfl (fun ls hl => ?_)
          refine lv_goto (tgt := 25) hx hb dX6_changeSeats_73 (by decide) ?_
          exact ih M v1 v2 (v3 + 1) _ _ _ hP hD hS (lv_sub hl [1, 2, 3, 0] rfl) hV
        · have hV := jF1 hV c9
          refine lv_bipush (v := 9) hx hb dX6_changeSeats_63 (by decide) ?_
          refine lv_iload_n hx hb dX6_changeSeats_65 rfl (lv_at hl 3 rfl) ?_
          refine jSpNI C dX6_changeSeats_66 (host := "TheatreSeasons") (kt_X8_refusal l D G    (9 : Int32) v3) jy_X8_refusal jn_49 jq_9_14 ⟨rfl, rfl, Nat.le_of_ble_eq_true rfl, Nat.le_of_ble_eq_true rfl⟩ ⟨Nat.le_of_ble_eq_true rfl, Nat.le_of_ble_eq_true rfl⟩ jE  hl (rest := []) rfl (Nat.le_of_ble_eq_true rfl) ?_
          cases hV
          exact mRet C rfl dX6_changeSeats_69 rfl rfl hP hS
def F_X6_changeSeats (N : Nat)  (M : Nat → Nat → Int32) (v1 v2 : Int32) : Option (Int32 × (Nat → Nat → Int32)) := (if (jIn v1 0 2) = 0 then (some ((-1 : Int32), M)) else (if (jIn v2 (10 : Int32) (99 : Int32)) = 0 then (some ((-2 : Int32), M)) else (D_X6_changeSeats_25 N   N M v1 v2 (0 : Int32))))
set_option maxHeartbeats 4000000 in
set_option maxRecDepth 100000 in
theorem k_X6_changeSeats (l : Launch) (D : va_G) (G : Nat → ClassId) (a : Nat → Nat) (N : Nat) (M : Nat → Nat → Int32) (v1 v2 : Int32) (r : (Int32 × (Nat → Nat → Int32))) (hV : F_X6_changeSeats N  M v1 v2 = some r) : mM l yX6_changeSeats (jws yX6_changeSeats cX6_changeSeats 4 (some .int)) ({ frames := 5, cells := 0, slots := 0, locals := 110 } : Room) [.ref (a 0), .int v1, .int v2] D G (wSeas a G M) (wSeas a G r.2) (some (.int r.1)) := by
  refine mM_of (by decide +kernel) (Nat.le_of_ble_eq_true rfl) (fun p e s m args below meth c ls A C hP hD hA hl => ?_)
  have C : Cx p s m args meth c cX6_changeSeats 4 RX6 (some .int) D G := C
  have hS : va_S A s.heap s.heap [] := va_S.rf
  obtain ⟨hx, hb, hr, hml, hts, hown, hlocks, hK0⟩ := id C
  have hK := hK0.1
  have hl : lv_has ls 4 [(0, .ref (a 0)), (1, .int v1), (2, .int v2)] := hl
  rw [F_X6_changeSeats] at hV
  refine lv_iload_n hx hb dX6_changeSeats_0 rfl (lv_at hl 1 rfl) ?_
  refine jSpNI C dX6_changeSeats_1 (host := "TheatreSeasons") (kt_X8_isStage l D G    v1) jy_X8_isStage jn_47 jq_9_0 ⟨rfl, rfl, Nat.le_of_ble_eq_true rfl, Nat.le_of_ble_eq_true rfl⟩ ⟨Nat.le_of_ble_eq_true rfl, Nat.le_of_ble_eq_true rfl⟩ jE  hl (rest := []) rfl (Nat.le_of_ble_eq_true rfl) ?_
  refine lv_if_ne (tgt := 9) hx hb dX6_changeSeats_4 (by decide) (fun c15 => ?_) (fun c15 => ?_)
  · have hV := jF1 hV c15
    refine lv_iload_n hx hb dX6_changeSeats_9 rfl (lv_at hl 2 rfl) ?_
    refine lv_bipush (v := 10) hx hb dX6_changeSeats_10 (by decide) ?_
    refine lv_bipush (v := 99) hx hb dX6_changeSeats_12 (by decide) ?_
    refine jSpNI C dX6_changeSeats_14 (host := "TheatreSeasons") (kt_X8_isWithin l D G    v2 (10 : Int32) (99 : Int32)) jy_X8_isWithin jn_48 jq_9_3 ⟨rfl, rfl, Nat.le_of_ble_eq_true rfl, Nat.le_of_ble_eq_true rfl⟩ ⟨Nat.le_of_ble_eq_true rfl, Nat.le_of_ble_eq_true rfl⟩ jE  hl (rest := []) rfl (Nat.le_of_ble_eq_true rfl) ?_
    refine lv_if_ne (tgt := 23) hx hb dX6_changeSeats_17 (by decide) (fun c14 => ?_) (fun c14 => ?_)
    · have hV := jF1 hV c14
      refine lv_iconst (v := 0) hx hb dX6_changeSeats_23 (by decide) ?_
      refine lv_istore_n (lv' := [(3, .int (0 : Int32)), (0, .ref (a 0)), (1, .int v1), (2, .int v2)]) hx hb dX6_changeSeats_24 rfl hl (by decide) rfl (fun ls hl => ?_)
      exact B_X6_changeSeats_25 C hA N a r   N M v1 v2 (0 : Int32) _ _ _ hP hD hS (lv_sub hl [1, 2, 3, 0] rfl) hV
    · have hV := jT1 hV c14
      refine lv_bipush (v := -2) hx hb dX6_changeSeats_20 (by decide) ?_
      cases hV
      exact mRet C rfl dX6_changeSeats_22 rfl rfl hP hS
  · have hV := jT1 hV c15
    refine lv_iconst (v := -1) hx hb dX6_changeSeats_7 (by decide) ?_
    cases hV
    exact mRet C rfl dX6_changeSeats_8 rfl rfl hP hS
theorem jy_X6_changeStaff : jY yX6_changeStaff cX6_changeStaff 4 (some .int) 1 := ⟨by decide +kernel, jq_15_22, jq_1_16⟩
def F_X6_changeStaff (N : Nat)  (M : Nat → Nat → Int32) (v1 : Int32) : Option (Int32 × (Nat → Nat → Int32)) := (if (jIn v1 (1 : Int32) (20 : Int32)) = 0 then (some ((-2 : Int32), M)) else ((F_X3_staffRefusalIf N M v1 (-1 : Int32) (0 : Int32)).bind (fun r2 => (if r2 = 0 then (jlet (stF M 0 v1) (fun M3 => (some ((M 0 0), M3)))) else (some (r2, M))))))
set_option maxHeartbeats 4000000 in
set_option maxRecDepth 100000 in
theorem k_X6_changeStaff (l : Launch) (D : va_G) (G : Nat → ClassId) (a : Nat → Nat) (N : Nat) (M : Nat → Nat → Int32) (v1 : Int32) (r : (Int32 × (Nat → Nat → Int32))) (hV : F_X6_changeStaff N  M v1 = some r) : mM l yX6_changeStaff (jws yX6_changeStaff cX6_changeStaff 4 (some .int)) ({ frames := 3, cells := 0, slots := 0, locals := 72 } : Room) [.ref (a 0), .int v1] D G (wSeas a G M) (wSeas a G r.2) (some (.int r.1)) := by
  refine mM_of (by decide +kernel) (Nat.le_of_ble_eq_true rfl) (fun p e s m args below meth c ls A C hP hD hA hl => ?_)
  have C : Cx p s m args meth c cX6_changeStaff 4 RX6 (some .int) D G := C
  have hS : va_S A s.heap s.heap [] := va_S.rf
  obtain ⟨hx, hb, hr, hml, hts, hown, hlocks, hK0⟩ := id C
  have hK := hK0.1
  have hl : lv_has ls 4 [(0, .ref (a 0)), (1, .int v1)] := hl
  rw [F_X6_changeStaff] at hV
  refine lv_iload_n hx hb dX6_changeStaff_0 rfl (lv_at hl 1 rfl) ?_
  refine lv_iconst (v := 1) hx hb dX6_changeStaff_1 (by decide) ?_
  refine lv_bipush (v := 20) hx hb dX6_changeStaff_2 (by decide) ?_
  refine jSpNI C dX6_changeStaff_4 (host := "TheatreSeasons") (kt_X8_isWithin l D G    v1 (1 : Int32) (20 : Int32)) jy_X8_isWithin jn_48 jq_9_3 ⟨rfl, rfl, Nat.le_of_ble_eq_true rfl, Nat.le_of_ble_eq_true rfl⟩ ⟨Nat.le_of_ble_eq_true rfl, Nat.le_of_ble_eq_true rfl⟩ jE  hl (rest := []) rfl (Nat.le_of_ble_eq_true rfl) ?_
  refine lv_if_ne (tgt := 13) hx hb dX6_changeStaff_7 (by decide) (fun c6 => ?_) (fun c6 => ?_)
  · have hV := jF1 hV c6
    refine lv_aload_n hx hb dX6_changeStaff_13 rfl (lv_at hl 0 rfl) ?_
    refine va_get (D := D) (ci := 8) (v := .ref (a 36)) (C := RX6) (T := TX6) (N := 7) hx hb hts ju_X6 hown hK hP 0 rfl rfl 3 (by decide) (hts _ jq_2_19) (fun _ h9 => h9) rfl dX6_changeStaff_14 ?_
    refine lv_iload_n hx hb dX6_changeStaff_17 rfl (lv_at hl 1 rfl) ?_
    refine lv_iconst (v := -1) hx hb dX6_changeStaff_18 (by decide) ?_
    refine lv_iconst (v := 0) hx hb dX6_changeStaff_19 (by decide) ?_
    obtain ⟨r2, hr2, hV⟩ := jBind hV
    refine jVpI C dX6_changeStaff_20 (k_X3_staffRefusalIf l D G a N M v1 (-1 : Int32) (0 : Int32) r2 hr2) jy_X3_staffRefusalIf jq_15_23 jq_16_0 jq_16_1 ⟨rfl, rfl, Nat.le_of_ble_eq_true rfl, Nat.le_of_ble_eq_true rfl⟩ ⟨Nat.le_of_ble_eq_true rfl, Nat.le_of_ble_eq_true rfl⟩ (sX6_X3 hP)  (ci := 5) (iw := 0) rfl rfl rfl hl (rest := []) rfl (Nat.le_of_ble_eq_true rfl) ?_
    refine lv_istore_n (lv' := [(2, .int r2), (0, .ref (a 0)), (1, .int v1)]) hx hb dX6_changeStaff_23 rfl hl (by decide) rfl (fun ls hl => ?_)
    refine lv_iload_n hx hb dX6_changeStaff_24 rfl (lv_at hl 0 rfl) ?_
    refine lv_if_eq (tgt := 30) hx hb dX6_changeStaff_25 (by decide) (fun c5 => ?_) (fun c5 => ?_)
    · have hV := jT1 hV c5
      refine lv_aload_n hx hb dX6_changeStaff_30 rfl (lv_at hl 1 rfl) ?_
      refine va_get (D := D) (ci := 8) (v := .int (M 0 0)) (C := RX6) (T := TX6) (N := 7) hx hb hts ju_X6 hown hK hP 0 rfl rfl 1 (by decide) (hts _ jq_2_14) (fun _ h9 => h9) rfl dX6_changeStaff_31 ?_
      refine lv_istore_n (lv' := [(3, .int (M 0 0)), (2, .int r2), (0, .ref (a 0)), (1, .int v1)]) hx hb dX6_changeStaff_34 rfl hl (by decide) rfl (fun ls hl => ?_)
      refine lv_aload_n hx hb dX6_changeStaff_35 rfl (lv_at hl 2 rfl) ?_
      refine lv_iload_n hx hb dX6_changeStaff_36 rfl (lv_at hl 3 rfl) ?_
      refine va_put (D := D) (ci := 8) (v := .int v1) (ty := .int) (C := RX6) (T := TX6) (N := 7) hx hb hts ju_X6 tyX6 tyX6_ok nmX6 hown hK hP hD hS 0 rfl rfl 1 (by decide) (hts _ jq_2_14) (fun _ h9 => h9) rfl (by decide +kernel) rfl rfl (Nat.le_of_ble_eq_true rfl) dX6_changeStaff_37 (fun H locs hP hD hS => ?_)
      obtain ⟨M3, e4, hV⟩ := jLet hV
      have hP : va_P D vwCl (wSeas a G M3) H := by rw [e4]; exact hP
      have hD : va_D A (wSeas a G M3) := by rw [e4]; exact hD
      refine lv_iload_n hx hb dX6_changeStaff_40 rfl (lv_at hl 0 rfl) ?_
      cases hV
      exact mRet C rfl dX6_changeStaff_41 rfl rfl hP hS
    · have hV := jF1 hV c5
      refine lv_iload_n hx hb dX6_changeStaff_28 rfl (lv_at hl 0 rfl) ?_
      cases hV
      exact mRet C rfl dX6_changeStaff_29 rfl rfl hP hS
  · have hV := jT1 hV c6
    refine lv_bipush (v := -2) hx hb dX6_changeStaff_10 (by decide) ?_
    cases hV
    exact mRet C rfl dX6_changeStaff_12 rfl rfl hP hS
theorem jy_X6_changeRoom : jY yX6_changeRoom cX6_changeRoom 4 (some .int) 1 := ⟨by decide +kernel, jq_18_22, jq_1_16⟩
def F_X6_changeRoom (N : Nat)  (M : Nat → Nat → Int32) (v1 : Int32) : Option (Int32 × (Nat → Nat → Int32)) := (if (jIn v1 (0 : Int32) (99 : Int32)) = 0 then (some ((-2 : Int32), M)) else ((F_X3_roomRefusalIf N M v1 (-1 : Int32) (0 : Int32)).bind (fun r2 => (if r2 = 0 then (jlet (stF M 1 v1) (fun M3 => (some ((M 0 1), M3)))) else (some (r2, M))))))
set_option maxHeartbeats 4000000 in
set_option maxRecDepth 100000 in
theorem k_X6_changeRoom (l : Launch) (D : va_G) (G : Nat → ClassId) (a : Nat → Nat) (N : Nat) (M : Nat → Nat → Int32) (v1 : Int32) (r : (Int32 × (Nat → Nat → Int32))) (hV : F_X6_changeRoom N  M v1 = some r) : mM l yX6_changeRoom (jws yX6_changeRoom cX6_changeRoom 4 (some .int)) ({ frames := 3, cells := 0, slots := 0, locals := 74 } : Room) [.ref (a 0), .int v1] D G (wSeas a G M) (wSeas a G r.2) (some (.int r.1)) := by
  refine mM_of (by decide +kernel) (Nat.le_of_ble_eq_true rfl) (fun p e s m args below meth c ls A C hP hD hA hl => ?_)
  have C : Cx p s m args meth c cX6_changeRoom 4 RX6 (some .int) D G := C
  have hS : va_S A s.heap s.heap [] := va_S.rf
  obtain ⟨hx, hb, hr, hml, hts, hown, hlocks, hK0⟩ := id C
  have hK := hK0.1
  have hl : lv_has ls 4 [(0, .ref (a 0)), (1, .int v1)] := hl
  rw [F_X6_changeRoom] at hV
  refine lv_iload_n hx hb dX6_changeRoom_0 rfl (lv_at hl 1 rfl) ?_
  refine lv_iconst (v := 0) hx hb dX6_changeRoom_1 (by decide) ?_
  refine lv_bipush (v := 99) hx hb dX6_changeRoom_2 (by decide) ?_
  refine jSpNI C dX6_changeRoom_4 (host := "TheatreSeasons") (kt_X8_isWithin l D G    v1 (0 : Int32) (99 : Int32)) jy_X8_isWithin jn_48 jq_9_3 ⟨rfl, rfl, Nat.le_of_ble_eq_true rfl, Nat.le_of_ble_eq_true rfl⟩ ⟨Nat.le_of_ble_eq_true rfl, Nat.le_of_ble_eq_true rfl⟩ jE  hl (rest := []) rfl (Nat.le_of_ble_eq_true rfl) ?_
  refine lv_if_ne (tgt := 13) hx hb dX6_changeRoom_7 (by decide) (fun c6 => ?_) (fun c6 => ?_)
  · have hV := jF1 hV c6
    refine lv_aload_n hx hb dX6_changeRoom_13 rfl (lv_at hl 0 rfl) ?_
    refine va_get (D := D) (ci := 8) (v := .ref (a 36)) (C := RX6) (T := TX6) (N := 7) hx hb hts ju_X6 hown hK hP 0 rfl rfl 3 (by decide) (hts _ jq_2_19) (fun _ h9 => h9) rfl dX6_changeRoom_14 ?_
    refine lv_iload_n hx hb dX6_changeRoom_17 rfl (lv_at hl 1 rfl) ?_
    refine lv_iconst (v := -1) hx hb dX6_changeRoom_18 (by decide) ?_
    refine lv_iconst (v := 0) hx hb dX6_changeRoom_19 (by decide) ?_
    obtain ⟨r2, hr2, hV⟩ := jBind hV
    refine jVpI C dX6_changeRoom_20 (k_X3_roomRefusalIf l D G a N M v1 (-1 : Int32) (0 : Int32) r2 hr2) jy_X3_roomRefusalIf jq_18_23 jq_19_0 jq_19_1 ⟨rfl, rfl, Nat.le_of_ble_eq_true rfl, Nat.le_of_ble_eq_true rfl⟩ ⟨Nat.le_of_ble_eq_true rfl, Nat.le_of_ble_eq_true rfl⟩ (sX6_X3 hP)  (ci := 5) (iw := 0) rfl rfl rfl hl (rest := []) rfl (Nat.le_of_ble_eq_true rfl) ?_
    refine lv_istore_n (lv' := [(2, .int r2), (0, .ref (a 0)), (1, .int v1)]) hx hb dX6_changeRoom_23 rfl hl (by decide) rfl (fun ls hl => ?_)
    refine lv_iload_n hx hb dX6_changeRoom_24 rfl (lv_at hl 0 rfl) ?_
    refine lv_if_eq (tgt := 30) hx hb dX6_changeRoom_25 (by decide) (fun c5 => ?_) (fun c5 => ?_)
    · have hV := jT1 hV c5
      refine lv_aload_n hx hb dX6_changeRoom_30 rfl (lv_at hl 1 rfl) ?_
      refine va_get (D := D) (ci := 8) (v := .int (M 0 1)) (C := RX6) (T := TX6) (N := 7) hx hb hts ju_X6 hown hK hP 0 rfl rfl 2 (by decide) (hts _ jq_2_15) (fun _ h9 => h9) rfl dX6_changeRoom_31 ?_
      refine lv_istore_n (lv' := [(3, .int (M 0 1)), (2, .int r2), (0, .ref (a 0)), (1, .int v1)]) hx hb dX6_changeRoom_34 rfl hl (by decide) rfl (fun ls hl => ?_)
      refine lv_aload_n hx hb dX6_changeRoom_35 rfl (lv_at hl 2 rfl) ?_
      refine lv_iload_n hx hb dX6_changeRoom_36 rfl (lv_at hl 3 rfl) ?_
      refine va_put (D := D) (ci := 8) (v := .int v1) (ty := .int) (C := RX6) (T := TX6) (N := 7) hx hb hts ju_X6 tyX6 tyX6_ok nmX6 hown hK hP hD hS 0 rfl rfl 2 (by decide) (hts _ jq_2_15) (fun _ h9 => h9) rfl (by decide +kernel) rfl rfl (Nat.le_of_ble_eq_true rfl) dX6_changeRoom_37 (fun H locs hP hD hS => ?_)
      obtain ⟨M3, e4, hV⟩ := jLet hV
      have hP : va_P D vwCl (wSeas a G M3) H := by rw [e4]; exact hP
      have hD : va_D A (wSeas a G M3) := by rw [e4]; exact hD
      refine lv_iload_n hx hb dX6_changeRoom_40 rfl (lv_at hl 0 rfl) ?_
      cases hV
      exact mRet C rfl dX6_changeRoom_41 rfl rfl hP hS
    · have hV := jF1 hV c5
      refine lv_iload_n hx hb dX6_changeRoom_28 rfl (lv_at hl 0 rfl) ?_
      cases hV
      exact mRet C rfl dX6_changeRoom_29 rfl rfl hP hS
  · have hV := jT1 hV c6
    refine lv_bipush (v := -2) hx hb dX6_changeRoom_10 (by decide) ?_
    cases hV
    exact mRet C rfl dX6_changeRoom_12 rfl rfl hP hS
theorem jy_X6_makeProduction : jY yX6_makeProduction cX6_makeProduction 6 (some .int) 4 := ⟨by decide +kernel, jq_20_1, jq_1_16⟩
def D_X6_makeProduction_46 (N : Nat)  (M : Nat → Nat → Int32) (v1 : Int32) (v2 : Int32) (v3 : Int32) (v4 : Int32) (s0 : Int32) : Option (Int32 × (Nat → Nat → Int32)) := (if s0 = 0 then (some ((-2 : Int32), M)) else (if (8 : Int32) ≤ (M 0 2) then (some ((-3 : Int32), M)) else ((F_X3_add N M v1 v2 v3 v4).bind (fun r1 => (jlet (mgX3 M r1.2) (fun M2 => (some (r1.1, M2))))))))
set_option maxHeartbeats 4000000 in
set_option maxRecDepth 100000 in
theorem B_X6_makeProduction_46 {p : Program} {l : Launch} {e : Env} {s : State} {m : MethodId} {args : Array Value} {below : List Frame} {meth : Method} {c : Code} {D : va_G} {G : Nat → ClassId} {A : Nat → Prop} (C : Cx p s m args meth c cX6_makeProduction 6 RX6 (some .int) D G) (hA : ∀ q : Nat, s.heap.size ≤ q → A q) (N : Nat) (a : Nat → Nat) (r : (Int32 × (Nat → Nat → Int32))) : (∀ (M : Nat → Nat → Int32) (v1 : Int32) (v2 : Int32) (v3 : Int32) (v4 : Int32) (s0 : Int32) (ls : Array Slot) (H : Heap) (locs : List Loc), va_P D vwCl (wSeas a G M) H → va_D A (wSeas a G M) → va_S A s.heap H locs → lv_has ls 6 [(0, .ref (a 0)), (1, .int v1), (2, .int v2), (3, .int v3), (4, .int v4)] → D_X6_makeProduction_46 N   M v1 v2 v3 v4 s0 = some r → W p l e ({ frames := 2, cells := 0, slots := 0, locals := 47 } : Room) s m args below meth c H locs 0 0 (MQ below (mQ D (wSeas a G r.2) (some (.int r.1)) A) args s 0 0 A) (F0 m 46 ls [.int s0])) := by
  have C := C
  obtain ⟨hx, hb, hr, hml, hts, hown, hlocks, hK0⟩ := id C
  have hK := hK0.1
  intro M v1 v2 v3 v4 s0 ls H locs hP hD hS hl hV
  rw [D_X6_makeProduction_46] at hV
  refine lv_istore (lv' := [(5, .int s0), (0, .ref (a 0)), (1, .int v1), (2, .int v2), (3, .int v3), (4, .int v4)]) hx hb dX6_makeProduction_46 hl (by decide) rfl (fun ls hl => ?_)
  refine lv_iload hx hb dX6_makeProduction_48 (lv_at hl 0 rfl) ?_
  refine lv_if_ne (tgt := 56) hx hb dX6_makeProduction_50 (by decide) (fun c5 => ?_) (fun c5 => ?_)
  · have hV := jF1 hV c5
    refine lv_aload_n hx hb dX6_makeProduction_56 rfl (lv_at hl 1 rfl) ?_
    refine va_get (D := D) (ci := 8) (v := .ref (a 36)) (C := RX6) (T := TX6) (N := 7) hx hb hts ju_X6 hown hK hP 0 rfl rfl 3 (by decide) (hts _ jq_2_19) (fun _ h9 => h9) rfl dX6_makeProduction_57 ?_
    refine va_getN (D := D) (ci := 5) (v := .int (M 0 2)) (C := RX3) (T := TX3) (N := 6) (host := "TheatreSeasons") hx hb hts ju_X3 hown hK (sX6_X3 hP) 0 rfl rfl 0 (by decide) (va_Nw.use rfl (hK0.2 _ jn_0)) (fun _ h9 => h9) rfl dX6_makeProduction_60 ?_
    refine lv_bipush (v := 8) hx hb dX6_makeProduction_63 (by decide) ?_
    refine lv_icmp_ge (tgt := 83) hx hb dX6_makeProduction_65 (by decide) (fun c4 => ?_) (fun c4 => ?_)
    · have hV := jT1 hV c4
      refine lv_bipush (v := -3) hx hb dX6_makeProduction_83 (by decide) ?_
      cases hV
      exact mRet C rfl dX6_makeProduction_85 rfl rfl hP hS
    · have hV := jF1 hV c4
      refine lv_aload_n hx hb dX6_makeProduction_68 rfl (lv_at hl 1 rfl) ?_
      refine va_get (D := D) (ci := 8) (v := .ref (a 36)) (C := RX6) (T := TX6) (N := 7) hx hb hts ju_X6 hown hK hP 0 rfl rfl 3 (by decide) (hts _ jq_2_19) (fun _ h9 => h9) rfl dX6_makeProduction_69 ?_
      refine lv_iload_n hx hb dX6_makeProduction_72 rfl (lv_at hl 2 rfl) ?_
      refine lv_iload_n hx hb dX6_makeProduction_73 rfl (lv_at hl 3 rfl) ?_
      refine lv_iload_n hx hb dX6_makeProduction_74 rfl (lv_at hl 4 rfl) ?_
      refine lv_iload hx hb dX6_makeProduction_75 (lv_at hl 5 rfl) ?_
      obtain ⟨r1, hr1, hV⟩ := jBind hV
      refine jVmI C dX6_makeProduction_77 (k_X3_add l D G a N M v1 v2 v3 v4 r1 hr1) jy_X3_add jq_20_2 jq_20_3 jq_20_4 ⟨rfl, rfl, Nat.le_of_ble_eq_true rfl, Nat.le_of_ble_eq_true rfl⟩ ⟨Nat.le_of_ble_eq_true rfl, Nat.le_of_ble_eq_true rfl⟩ (sX6_X3 hP) (dX6_X3 hD) hA hS (ci := 5) (iw := 0) rfl rfl rfl hl (rest := []) rfl (Nat.le_of_ble_eq_true rfl) (fun H locs hQ hz hkp hS => ?_)
      obtain ⟨M2, e3, hV⟩ := jLet hV
      have hP : va_P D vwCl (wSeas a G M2) H := by rw [e3]; exact jX6_X3 hP hD hkp hQ
      have hD : va_D A (wSeas a G M2) := jD (w := (wSeas a G M)) rfl hD
      refine lv_goto (tgt := 85) hx hb dX6_makeProduction_80 (by decide) ?_
      cases hV
      exact mRet C rfl dX6_makeProduction_85 rfl rfl hP hS
  · have hV := jT1 hV c5
    refine lv_bipush (v := -2) hx hb dX6_makeProduction_53 (by decide) ?_
    cases hV
    exact mRet C rfl dX6_makeProduction_55 rfl rfl hP hS
def F_X6_makeProduction (N : Nat)  (M : Nat → Nat → Int32) (v1 v2 v3 v4 : Int32) : Option (Int32 × (Nat → Nat → Int32)) := (if (jIn v1 (1 : Int32) (9 : Int32)) = 0 then (D_X6_makeProduction_46 N   M v1 v2 v3 v4 (0 : Int32)) else (if (jIn v2 (1 : Int32) (6 : Int32)) = 0 then (D_X6_makeProduction_46 N   M v1 v2 v3 v4 (0 : Int32)) else (if (jIn v3 (1 : Int32) (50 : Int32)) = 0 then (D_X6_makeProduction_46 N   M v1 v2 v3 v4 (0 : Int32)) else (if (jIn v4 (0 : Int32) (100 : Int32)) = 0 then (D_X6_makeProduction_46 N   M v1 v2 v3 v4 (0 : Int32)) else (D_X6_makeProduction_46 N   M v1 v2 v3 v4 (1 : Int32))))))
set_option maxHeartbeats 4000000 in
set_option maxRecDepth 100000 in
theorem k_X6_makeProduction (l : Launch) (D : va_G) (G : Nat → ClassId) (a : Nat → Nat) (N : Nat) (M : Nat → Nat → Int32) (v1 v2 v3 v4 : Int32) (r : (Int32 × (Nat → Nat → Int32))) (hV : F_X6_makeProduction N  M v1 v2 v3 v4 = some r) : mM l yX6_makeProduction (jws yX6_makeProduction cX6_makeProduction 6 (some .int)) ({ frames := 2, cells := 0, slots := 0, locals := 47 } : Room) [.ref (a 0), .int v1, .int v2, .int v3, .int v4] D G (wSeas a G M) (wSeas a G r.2) (some (.int r.1)) := by
  refine mM_of (by decide +kernel) (Nat.le_of_ble_eq_true rfl) (fun p e s m args below meth c ls A C hP hD hA hl => ?_)
  have C : Cx p s m args meth c cX6_makeProduction 6 RX6 (some .int) D G := C
  have hS : va_S A s.heap s.heap [] := va_S.rf
  obtain ⟨hx, hb, hr, hml, hts, hown, hlocks, hK0⟩ := id C
  have hK := hK0.1
  have hl : lv_has ls 6 [(0, .ref (a 0)), (1, .int v1), (2, .int v2), (3, .int v3), (4, .int v4)] := hl
  rw [F_X6_makeProduction] at hV
  refine lv_iload_n hx hb dX6_makeProduction_0 rfl (lv_at hl 1 rfl) ?_
  refine lv_iconst (v := 1) hx hb dX6_makeProduction_1 (by decide) ?_
  refine lv_bipush (v := 9) hx hb dX6_makeProduction_2 (by decide) ?_
  refine jSpNI C dX6_makeProduction_4 (host := "TheatreSeasons") (kt_X8_isWithin l D G    v1 (1 : Int32) (9 : Int32)) jy_X8_isWithin jn_48 jq_9_3 ⟨rfl, rfl, Nat.le_of_ble_eq_true rfl, Nat.le_of_ble_eq_true rfl⟩ ⟨Nat.le_of_ble_eq_true rfl, Nat.le_of_ble_eq_true rfl⟩ jE  hl (rest := []) rfl (Nat.le_of_ble_eq_true rfl) ?_
  refine lv_if_eq (tgt := 45) hx hb dX6_makeProduction_7 (by decide) (fun c13 => ?_) (fun c13 => ?_)
  · have hV := jT1 hV c13
    refine lv_iconst (v := 0) hx hb dX6_makeProduction_45 (by decide) ?_
    exact B_X6_makeProduction_46 C hA N a r   M v1 v2 v3 v4 (0 : Int32) _ _ _ hP hD hS (lv_sub hl [0, 1, 2, 3, 4] rfl) hV
  · have hV := jF1 hV c13
    refine lv_iload_n hx hb dX6_makeProduction_10 rfl (lv_at hl 2 rfl) ?_
    refine lv_iconst (v := 1) hx hb dX6_makeProduction_11 (by decide) ?_
    refine lv_bipush (v := 6) hx hb dX6_makeProduction_12 (by decide) ?_
    refine jSpNI C dX6_makeProduction_14 (host := "TheatreSeasons") (kt_X8_isWithin l D G    v2 (1 : Int32) (6 : Int32)) jy_X8_isWithin jn_48 jq_9_3 ⟨rfl, rfl, Nat.le_of_ble_eq_true rfl, Nat.le_of_ble_eq_true rfl⟩ ⟨Nat.le_of_ble_eq_true rfl, Nat.le_of_ble_eq_true rfl⟩ jE  hl (rest := []) rfl (Nat.le_of_ble_eq_true rfl) ?_
    refine lv_if_eq (tgt := 45) hx hb dX6_makeProduction_17 (by decide) (fun c12 => ?_) (fun c12 => ?_)
    · have hV := jT1 hV c12
      refine lv_iconst (v := 0) hx hb dX6_makeProduction_45 (by decide) ?_
      exact B_X6_makeProduction_46 C hA N a r   M v1 v2 v3 v4 (0 : Int32) _ _ _ hP hD hS (lv_sub hl [0, 1, 2, 3, 4] rfl) hV
    · have hV := jF1 hV c12
      refine lv_iload_n hx hb dX6_makeProduction_20 rfl (lv_at hl 3 rfl) ?_
      refine lv_iconst (v := 1) hx hb dX6_makeProduction_21 (by decide) ?_
      refine lv_bipush (v := 50) hx hb dX6_makeProduction_22 (by decide) ?_
      refine jSpNI C dX6_makeProduction_24 (host := "TheatreSeasons") (kt_X8_isWithin l D G    v3 (1 : Int32) (50 : Int32)) jy_X8_isWithin jn_48 jq_9_3 ⟨rfl, rfl, Nat.le_of_ble_eq_true rfl, Nat.le_of_ble_eq_true rfl⟩ ⟨Nat.le_of_ble_eq_true rfl, Nat.le_of_ble_eq_true rfl⟩ jE  hl (rest := []) rfl (Nat.le_of_ble_eq_true rfl) ?_
      refine lv_if_eq (tgt := 45) hx hb dX6_makeProduction_27 (by decide) (fun c11 => ?_) (fun c11 => ?_)
      · have hV := jT1 hV c11
        refine lv_iconst (v := 0) hx hb dX6_makeProduction_45 (by decide) ?_
        exact B_X6_makeProduction_46 C hA N a r   M v1 v2 v3 v4 (0 : Int32) _ _ _ hP hD hS (lv_sub hl [0, 1, 2, 3, 4] rfl) hV
      · have hV := jF1 hV c11
        refine lv_iload hx hb dX6_makeProduction_30 (lv_at hl 4 rfl) ?_
        refine lv_iconst (v := 0) hx hb dX6_makeProduction_32 (by decide) ?_
        refine lv_bipush (v := 100) hx hb dX6_makeProduction_33 (by decide) ?_
        refine jSpNI C dX6_makeProduction_35 (host := "TheatreSeasons") (kt_X8_isWithin l D G    v4 (0 : Int32) (100 : Int32)) jy_X8_isWithin jn_48 jq_9_3 ⟨rfl, rfl, Nat.le_of_ble_eq_true rfl, Nat.le_of_ble_eq_true rfl⟩ ⟨Nat.le_of_ble_eq_true rfl, Nat.le_of_ble_eq_true rfl⟩ jE  hl (rest := []) rfl (Nat.le_of_ble_eq_true rfl) ?_
        refine lv_if_eq (tgt := 45) hx hb dX6_makeProduction_38 (by decide) (fun c10 => ?_) (fun c10 => ?_)
        · have hV := jT1 hV c10
          refine lv_iconst (v := 0) hx hb dX6_makeProduction_45 (by decide) ?_
          exact B_X6_makeProduction_46 C hA N a r   M v1 v2 v3 v4 (0 : Int32) _ _ _ hP hD hS (lv_sub hl [0, 1, 2, 3, 4] rfl) hV
        · have hV := jF1 hV c10
          refine lv_iconst (v := 1) hx hb dX6_makeProduction_41 (by decide) ?_
          refine lv_goto (tgt := 46) hx hb dX6_makeProduction_42 (by decide) ?_
          exact B_X6_makeProduction_46 C hA N a r   M v1 v2 v3 v4 (1 : Int32) _ _ _ hP hD hS (lv_sub hl [0, 1, 2, 3, 4] rfl) hV
theorem jy_X6_datesWith : jY yX6_datesWith cX6_datesWith 5 (some .int) 3 := ⟨by decide +kernel, jq_23_14, jq_1_16⟩
def F_X6_datesWith (N : Nat)  (M : Nat → Nat → Int32) (v1 v2 v3 : Int32) : Option Int32 := ((F_X2_has N M v1).bind (fun r2 => (if r2 = 0 then (some ((rg 8 (M 6) v2) ||| ((1 : Int32) <<< (v3 &&& 31)))) else (jlet ((rg 8 (M 6) v2) &&& (((1 : Int32) <<< ((rg 24 (M 9) v1) &&& 31)) ^^^ (-1 : Int32))) (fun x4 => (some (x4 ||| ((1 : Int32) <<< (v3 &&& 31)))))))))
set_option maxHeartbeats 4000000 in
set_option maxRecDepth 100000 in
theorem k_X6_datesWith (l : Launch) (D : va_G) (G : Nat → ClassId) (a : Nat → Nat) (N : Nat) (M : Nat → Nat → Int32) (v1 v2 v3 : Int32) (r : Int32) (hV : F_X6_datesWith N  M v1 v2 v3 = some r) : pM l yX6_datesWith (jws yX6_datesWith cX6_datesWith 5 (some .int)) ({ frames := 2, cells := 0, slots := 0, locals := 43 } : Room) [.ref (a 0), .int v1, .int v2, .int v3] D G (wSeas a G M) (some (.int r)) := by
  refine pM_of (by decide +kernel) (Nat.le_of_ble_eq_true rfl) (fun p e s m args below meth c ls C hP hl => ?_)
  have C : Cx p s m args meth c cX6_datesWith 5 RX6 (some .int) D G := C
  obtain ⟨hx, hb, hr, hml, hts, hown, hlocks, hK0⟩ := id C
  have hK := hK0.1
  have hl : lv_has ls 5 [(0, .ref (a 0)), (1, .int v1), (2, .int v2), (3, .int v3)] := hl
  rw [F_X6_datesWith] at hV
  refine lv_aload_n hx hb dX6_datesWith_0 rfl (lv_at hl 0 rfl) ?_
  refine va_get (D := D) (ci := 8) (v := .ref (a 36)) (C := RX6) (T := TX6) (N := 7) hx hb hts ju_X6 hown hK hP 0 rfl rfl 3 (by decide) (hts _ jq_2_19) (fun _ h9 => h9) rfl dX6_datesWith_1 ?_
  refine va_getN (D := D) (ci := 5) (v := .ref (a 12)) (C := RX3) (T := TX3) (N := 6) (host := "TheatreSeasons") hx hb hts ju_X3 hown hK (sX6_X3 hP) 0 rfl rfl 5 (by decide) (va_Nw.use rfl (hK0.2 _ jn_8)) (fun _ h9 => h9) rfl dX6_datesWith_4 ?_
  refine lv_iload_n hx hb dX6_datesWith_7 rfl (lv_at hl 2 rfl) ?_
  refine jVpI C dX6_datesWith_8 (kt_X5_get l D G (a 12) (a 13) 8 (Nat.le_of_ble_eq_true rfl) (M 6) v2) jy_X5_get jq_9_5 jq_9_6 jq_9_7 ⟨rfl, rfl, Nat.le_of_ble_eq_true rfl, Nat.le_of_ble_eq_true rfl⟩ ⟨Nat.le_of_ble_eq_true rfl, Nat.le_of_ble_eq_true rfl⟩ (sX3_6 (sX6_X3 hP))  (ci := 7) (iw := 0) rfl rfl rfl hl (rest := []) rfl (Nat.le_of_ble_eq_true rfl) ?_
  refine lv_istore (lv' := [(4, .int (rg 8 (M 6) v2)), (0, .ref (a 0)), (1, .int v1), (2, .int v2), (3, .int v3)]) hx hb dX6_datesWith_11 hl (by decide) rfl (fun ls hl => ?_)
  refine lv_aload_n hx hb dX6_datesWith_13 rfl (lv_at hl 1 rfl) ?_
  refine va_get (D := D) (ci := 8) (v := .ref (a 37)) (C := RX6) (T := TX6) (N := 7) hx hb hts ju_X6 hown hK hP 0 rfl rfl 4 (by decide) (hts _ jq_2_23) (fun _ h9 => h9) rfl dX6_datesWith_14 ?_
  refine lv_iload_n hx hb dX6_datesWith_17 rfl (lv_at hl 2 rfl) ?_
  obtain ⟨r2, hr2, hV⟩ := jBind hV
  refine jVpI C dX6_datesWith_18 (k_X2_has l D G a N M v1 r2 hr2) jy_X2_has jq_23_15 jq_23_16 jq_23_17 ⟨rfl, rfl, Nat.le_of_ble_eq_true rfl, Nat.le_of_ble_eq_true rfl⟩ ⟨Nat.le_of_ble_eq_true rfl, Nat.le_of_ble_eq_true rfl⟩ (sX6_X2 hP)  (ci := 4) (iw := 0) rfl rfl rfl hl (rest := []) rfl (Nat.le_of_ble_eq_true rfl) ?_
  refine lv_if_eq (tgt := 44) hx hb dX6_datesWith_21 (by decide) (fun c6 => ?_) (fun c6 => ?_)
  · have hV := jT1 hV c6
    refine lv_iload hx hb dX6_datesWith_44 (lv_at hl 0 rfl) ?_
    refine lv_iconst (v := 1) hx hb dX6_datesWith_46 (by decide) ?_
    refine lv_iload_n hx hb dX6_datesWith_47 rfl (lv_at hl 4 rfl) ?_
    refine lv_ishl hx hb dX6_datesWith_48 ?_
    refine lv_ior hx hb dX6_datesWith_49 ?_
    exact pRet C rfl dX6_datesWith_50 rfl (Option.some.inj hV)
  · have hV := jF1 hV c6
    refine lv_iload hx hb dX6_datesWith_24 (lv_at hl 0 rfl) ?_
    refine lv_iconst (v := 1) hx hb dX6_datesWith_26 (by decide) ?_
    refine lv_aload_n hx hb dX6_datesWith_27 rfl (lv_at hl 1 rfl) ?_
    refine va_get (D := D) (ci := 8) (v := .ref (a 37)) (C := RX6) (T := TX6) (N := 7) hx hb hts ju_X6 hown hK hP 0 rfl rfl 4 (by decide) (hts _ jq_2_23) (fun _ h9 => h9) rfl dX6_datesWith_28 ?_
    refine va_getN (D := D) (ci := 4) (v := .ref (a 18)) (C := RX2) (T := TX2) (N := 7) (host := "TheatreSeasons") hx hb hts ju_X2 hown hK (sX6_X2 hP) 0 rfl rfl 3 (by decide) (va_Nw.use rfl (hK0.2 _ jn_15)) (fun _ h9 => h9) rfl dX6_datesWith_31 ?_
    refine lv_iload_n hx hb dX6_datesWith_34 rfl (lv_at hl 2 rfl) ?_
    refine jVpI C dX6_datesWith_35 (kt_X5_get l D G (a 18) (a 19) 24 (Nat.le_of_ble_eq_true rfl) (M 9) v1) jy_X5_get jq_9_5 jq_9_6 jq_9_7 ⟨rfl, rfl, Nat.le_of_ble_eq_true rfl, Nat.le_of_ble_eq_true rfl⟩ ⟨Nat.le_of_ble_eq_true rfl, Nat.le_of_ble_eq_true rfl⟩ (sX2_9 (sX6_X2 hP))  (ci := 7) (iw := 0) rfl rfl rfl hl (rest := [.int (1 : Int32), .int (rg 8 (M 6) v2)]) rfl (Nat.le_of_ble_eq_true rfl) ?_
    refine lv_ishl hx hb dX6_datesWith_38 ?_
    refine lv_iconst (v := -1) hx hb dX6_datesWith_39 (by decide) ?_
    refine lv_ixor hx hb dX6_datesWith_40 ?_
    refine lv_iand hx hb dX6_datesWith_41 ?_
    obtain ⟨x4, e5, hV⟩ := jLet hV
    rw [← e5]
    refine lv_istore (lv' := [(4, .int x4), (0, .ref (a 0)), (1, .int v1), (2, .int v2), (3, .int v3)]) hx hb dX6_datesWith_42 hl (by decide) rfl (fun ls hl => ?_)
    refine lv_iload hx hb dX6_datesWith_44 (lv_at hl 0 rfl) ?_
    refine lv_iconst (v := 1) hx hb dX6_datesWith_46 (by decide) ?_
    refine lv_iload_n hx hb dX6_datesWith_47 rfl (lv_at hl 4 rfl) ?_
    refine lv_ishl hx hb dX6_datesWith_48 ?_
    refine lv_ior hx hb dX6_datesWith_49 ?_
    exact pRet C rfl dX6_datesWith_50 rfl (Option.some.inj hV)
theorem jy_X6_placingRefusal : jY yX6_placingRefusal cX6_placingRefusal 8 (some .int) 4 := ⟨by decide +kernel, jq_23_6, jq_1_16⟩
def F_X6_placingRefusal (N : Nat)  (M : Nat → Nat → Int32) (v1 v2 v3 v4 : Int32) : Option Int32 := ((F_X2_findOther N M v1 v2 v3 v4).bind (fun r1 => (if r1 = (-1 : Int32) then ((F_X6_datesWith N M v1 v2 v4).bind (fun r2 => ((F_X3_staffRefusalIf N M (M 0 0) v2 r2).bind (fun r3 => (if r3 = 0 then ((F_X3_roomRefusalIf N M (M 0 1) v2 r2).bind (fun r4 => (some r4))) else (some r3)))))) else (some (jRef (1 : Int32) r1)))))
set_option maxHeartbeats 4000000 in
set_option maxRecDepth 100000 in
theorem k_X6_placingRefusal (l : Launch) (D : va_G) (G : Nat → ClassId) (a : Nat → Nat) (N : Nat) (M : Nat → Nat → Int32) (v1 v2 v3 v4 : Int32) (r : Int32) (hV : F_X6_placingRefusal N  M v1 v2 v3 v4 = some r) : pM l yX6_placingRefusal (jws yX6_placingRefusal cX6_placingRefusal 8 (some .int)) ({ frames := 3, cells := 0, slots := 0, locals := 74 } : Room) [.ref (a 0), .int v1, .int v2, .int v3, .int v4] D G (wSeas a G M) (some (.int r)) := by
  refine pM_of (by decide +kernel) (Nat.le_of_ble_eq_true rfl) (fun p e s m args below meth c ls C hP hl => ?_)
  have C : Cx p s m args meth c cX6_placingRefusal 8 RX6 (some .int) D G := C
  obtain ⟨hx, hb, hr, hml, hts, hown, hlocks, hK0⟩ := id C
  have hK := hK0.1
  have hl : lv_has ls 8 [(0, .ref (a 0)), (1, .int v1), (2, .int v2), (3, .int v3), (4, .int v4)] := hl
  rw [F_X6_placingRefusal] at hV
  refine lv_aload_n hx hb dX6_placingRefusal_0 rfl (lv_at hl 0 rfl) ?_
  refine va_get (D := D) (ci := 8) (v := .ref (a 37)) (C := RX6) (T := TX6) (N := 7) hx hb hts ju_X6 hown hK hP 0 rfl rfl 4 (by decide) (hts _ jq_2_23) (fun _ h9 => h9) rfl dX6_placingRefusal_1 ?_
  refine lv_iload_n hx hb dX6_placingRefusal_4 rfl (lv_at hl 1 rfl) ?_
  refine lv_iload_n hx hb dX6_placingRefusal_5 rfl (lv_at hl 2 rfl) ?_
  refine lv_iload_n hx hb dX6_placingRefusal_6 rfl (lv_at hl 3 rfl) ?_
  refine lv_iload hx hb dX6_placingRefusal_7 (lv_at hl 4 rfl) ?_
  obtain ⟨r1, hr1, hV⟩ := jBind hV
  refine jVpI C dX6_placingRefusal_9 (k_X2_findOther l D G a N M v1 v2 v3 v4 r1 hr1) jy_X2_findOther jq_23_7 jq_23_8 jq_23_9 ⟨rfl, rfl, Nat.le_of_ble_eq_true rfl, Nat.le_of_ble_eq_true rfl⟩ ⟨Nat.le_of_ble_eq_true rfl, Nat.le_of_ble_eq_true rfl⟩ (sX6_X2 hP)  (ci := 4) (iw := 0) rfl rfl rfl hl (rest := []) rfl (Nat.le_of_ble_eq_true rfl) ?_
  refine lv_istore (lv' := [(5, .int r1), (0, .ref (a 0)), (1, .int v1), (2, .int v2), (3, .int v3), (4, .int v4)]) hx hb dX6_placingRefusal_12 hl (by decide) rfl (fun ls hl => ?_)
  refine lv_iload hx hb dX6_placingRefusal_14 (lv_at hl 0 rfl) ?_
  refine lv_iconst (v := -1) hx hb dX6_placingRefusal_16 (by decide) ?_
  refine lv_icmp_eq (tgt := 27) hx hb dX6_placingRefusal_17 (by decide) (fun c7 => ?_) (fun c7 => ?_)
  · have hV := jT1 hV c7
    refine lv_aload_n hx hb dX6_placingRefusal_27 rfl (lv_at hl 1 rfl) ?_
    refine lv_iload_n hx hb dX6_placingRefusal_28 rfl (lv_at hl 2 rfl) ?_
    refine lv_iload_n hx hb dX6_placingRefusal_29 rfl (lv_at hl 3 rfl) ?_
    refine lv_iload hx hb dX6_placingRefusal_30 (lv_at hl 5 rfl) ?_
    obtain ⟨r2, hr2, hV⟩ := jBind hV
    refine jVpI C dX6_placingRefusal_32 (k_X6_datesWith l D G a N M v1 v2 v4 r2 hr2) jy_X6_datesWith jq_23_11 jq_23_12 jq_23_13 ⟨rfl, rfl, Nat.le_of_ble_eq_true rfl, Nat.le_of_ble_eq_true rfl⟩ ⟨Nat.le_of_ble_eq_true rfl, Nat.le_of_ble_eq_true rfl⟩ hP  (ci := 8) (iw := 0) rfl rfl rfl hl (rest := []) rfl (Nat.le_of_ble_eq_true rfl) ?_
    refine lv_istore (lv' := [(6, .int r2), (5, .int r1), (0, .ref (a 0)), (1, .int v1), (2, .int v2), (3, .int v3), (4, .int v4)]) hx hb dX6_placingRefusal_35 hl (by decide) rfl (fun ls hl => ?_)
    refine lv_aload_n hx hb dX6_placingRefusal_37 rfl (lv_at hl 2 rfl) ?_
    refine va_get (D := D) (ci := 8) (v := .ref (a 36)) (C := RX6) (T := TX6) (N := 7) hx hb hts ju_X6 hown hK hP 0 rfl rfl 3 (by decide) (hts _ jq_2_19) (fun _ h9 => h9) rfl dX6_placingRefusal_38 ?_
    refine lv_aload_n hx hb dX6_placingRefusal_41 rfl (lv_at hl 2 rfl) ?_
    refine va_get (D := D) (ci := 8) (v := .int (M 0 0)) (C := RX6) (T := TX6) (N := 7) hx hb hts ju_X6 hown hK hP 0 rfl rfl 1 (by decide) (hts _ jq_2_14) (fun _ h9 => h9) rfl dX6_placingRefusal_42 ?_
    refine lv_iload_n hx hb dX6_placingRefusal_45 rfl (lv_at hl 4 rfl) ?_
    refine lv_iload hx hb dX6_placingRefusal_46 (lv_at hl 0 rfl) ?_
    obtain ⟨r3, hr3, hV⟩ := jBind hV
    refine jVpI C dX6_placingRefusal_48 (k_X3_staffRefusalIf l D G a N M (M 0 0) v2 r2 r3 hr3) jy_X3_staffRefusalIf jq_15_23 jq_16_0 jq_16_1 ⟨rfl, rfl, Nat.le_of_ble_eq_true rfl, Nat.le_of_ble_eq_true rfl⟩ ⟨Nat.le_of_ble_eq_true rfl, Nat.le_of_ble_eq_true rfl⟩ (sX6_X3 hP)  (ci := 5) (iw := 0) rfl rfl rfl hl (rest := []) rfl (Nat.le_of_ble_eq_true rfl) ?_
    refine lv_istore (lv' := [(7, .int r3), (6, .int r2), (5, .int r1), (0, .ref (a 0)), (1, .int v1), (2, .int v2), (3, .int v3), (4, .int v4)]) hx hb dX6_placingRefusal_51 hl (by decide) rfl (fun ls hl => ?_)
    refine lv_iload hx hb dX6_placingRefusal_53 (lv_at hl 0 rfl) ?_
    refine lv_if_eq (tgt := 61) hx hb dX6_placingRefusal_55 (by decide) (fun c5 => ?_) (fun c5 => ?_)
    · have hV := jT1 hV c5
      refine lv_aload_n hx hb dX6_placingRefusal_61 rfl (lv_at hl 3 rfl) ?_
      refine va_get (D := D) (ci := 8) (v := .ref (a 36)) (C := RX6) (T := TX6) (N := 7) hx hb hts ju_X6 hown hK hP 0 rfl rfl 3 (by decide) (hts _ jq_2_19) (fun _ h9 => h9) rfl dX6_placingRefusal_62 ?_
      refine lv_aload_n hx hb dX6_placingRefusal_65 rfl (lv_at hl 3 rfl) ?_
      refine va_get (D := D) (ci := 8) (v := .int (M 0 1)) (C := RX6) (T := TX6) (N := 7) hx hb hts ju_X6 hown hK hP 0 rfl rfl 2 (by decide) (hts _ jq_2_15) (fun _ h9 => h9) rfl dX6_placingRefusal_66 ?_
      refine lv_iload_n hx hb dX6_placingRefusal_69 rfl (lv_at hl 5 rfl) ?_
      refine lv_iload hx hb dX6_placingRefusal_70 (lv_at hl 1 rfl) ?_
      obtain ⟨r4, hr4, hV⟩ := jBind hV
      refine jVpI C dX6_placingRefusal_72 (k_X3_roomRefusalIf l D G a N M (M 0 1) v2 r2 r4 hr4) jy_X3_roomRefusalIf jq_18_23 jq_19_0 jq_19_1 ⟨rfl, rfl, Nat.le_of_ble_eq_true rfl, Nat.le_of_ble_eq_true rfl⟩ ⟨Nat.le_of_ble_eq_true rfl, Nat.le_of_ble_eq_true rfl⟩ (sX6_X3 hP)  (ci := 5) (iw := 0) rfl rfl rfl hl (rest := []) rfl (Nat.le_of_ble_eq_true rfl) ?_
      exact pRet C rfl dX6_placingRefusal_75 rfl (Option.some.inj hV)
    · have hV := jF1 hV c5
      refine lv_iload hx hb dX6_placingRefusal_58 (lv_at hl 0 rfl) ?_
      exact pRet C rfl dX6_placingRefusal_60 rfl (Option.some.inj hV)
  · have hV := jF1 hV c7
    refine lv_iconst (v := 1) hx hb dX6_placingRefusal_20 (by decide) ?_
    refine lv_iload hx hb dX6_placingRefusal_21 (lv_at hl 0 rfl) ?_
    refine jSpNI C dX6_placingRefusal_23 (host := "TheatreSeasons") (kt_X8_refusal l D G    (1 : Int32) r1) jy_X8_refusal jn_49 jq_9_14 ⟨rfl, rfl, Nat.le_of_ble_eq_true rfl, Nat.le_of_ble_eq_true rfl⟩ ⟨Nat.le_of_ble_eq_true rfl, Nat.le_of_ble_eq_true rfl⟩ jE  hl (rest := []) rfl (Nat.le_of_ble_eq_true rfl) ?_
    exact pRet C rfl dX6_placingRefusal_26 rfl (Option.some.inj hV)
theorem jy_X6_makePerformance : jY yX6_makePerformance cX6_makePerformance 5 (some .int) 3 := ⟨by decide +kernel, jq_22_23, jq_1_16⟩
def F_X6_makePerformance (N : Nat)  (M : Nat → Nat → Int32) (v1 v2 v3 : Int32) : Option (Int32 × (Nat → Nat → Int32)) := ((F_X3_has N M v1).bind (fun r1 => (if r1 = 0 then (some ((-1 : Int32), M)) else (if (jIn v2 0 2) = 0 then (some ((-1 : Int32), M)) else (if (jIn v3 0 29) = 0 then (some ((-2 : Int32), M)) else (if (M 0 3) < (24 : Int32) then ((F_X6_placingRefusal N M (-1 : Int32) v1 v2 v3).bind (fun r4 => (if r4 = 0 then ((F_X6_datesWith N M (-1 : Int32) v1 v3).bind (fun r5 => (jlet (u1 M 6 (rs 8 (M 6) v1 r5)) (fun M7 => ((F_X2_add N M7 v1 v2 v3).bind (fun r8 => (jlet (mgX2 M7 r8.2) (fun M9 => (some (r8.1, M9)))))))))) else (some (r4, M))))) else (some ((-3 : Int32), M))))))))
set_option maxHeartbeats 4000000 in
set_option maxRecDepth 100000 in
theorem k_X6_makePerformance (l : Launch) (D : va_G) (G : Nat → ClassId) (a : Nat → Nat) (N : Nat) (M : Nat → Nat → Int32) (v1 v2 v3 : Int32) (r : (Int32 × (Nat → Nat → Int32))) (hV : F_X6_makePerformance N  M v1 v2 v3 = some r) : mM l yX6_makePerformance (jws yX6_makePerformance cX6_makePerformance 5 (some .int)) ({ frames := 4, cells := 0, slots := 0, locals := 101 } : Room) [.ref (a 0), .int v1, .int v2, .int v3] D G (wSeas a G M) (wSeas a G r.2) (some (.int r.1)) := by
  refine mM_of (by decide +kernel) (Nat.le_of_ble_eq_true rfl) (fun p e s m args below meth c ls A C hP hD hA hl => ?_)
  have C : Cx p s m args meth c cX6_makePerformance 5 RX6 (some .int) D G := C
  have hS : va_S A s.heap s.heap [] := va_S.rf
  obtain ⟨hx, hb, hr, hml, hts, hown, hlocks, hK0⟩ := id C
  have hK := hK0.1
  have hl : lv_has ls 5 [(0, .ref (a 0)), (1, .int v1), (2, .int v2), (3, .int v3)] := hl
  rw [F_X6_makePerformance] at hV
  refine lv_aload_n hx hb dX6_makePerformance_0 rfl (lv_at hl 0 rfl) ?_
  refine va_get (D := D) (ci := 8) (v := .ref (a 36)) (C := RX6) (T := TX6) (N := 7) hx hb hts ju_X6 hown hK hP 0 rfl rfl 3 (by decide) (hts _ jq_2_19) (fun _ h9 => h9) rfl dX6_makePerformance_1 ?_
  refine lv_iload_n hx hb dX6_makePerformance_4 rfl (lv_at hl 1 rfl) ?_
  obtain ⟨r1, hr1, hV⟩ := jBind hV
  refine jVpI C dX6_makePerformance_5 (k_X3_has l D G a N M v1 r1 hr1) jy_X3_has jq_23_0 jq_20_23 jq_21_0 ⟨rfl, rfl, Nat.le_of_ble_eq_true rfl, Nat.le_of_ble_eq_true rfl⟩ ⟨Nat.le_of_ble_eq_true rfl, Nat.le_of_ble_eq_true rfl⟩ (sX6_X3 hP)  (ci := 5) (iw := 0) rfl rfl rfl hl (rest := []) rfl (Nat.le_of_ble_eq_true rfl) ?_
  refine lv_if_eq (tgt := 18) hx hb dX6_makePerformance_8 (by decide) (fun c16 => ?_) (fun c16 => ?_)
  · have hV := jT1 hV c16
    refine lv_iconst (v := -1) hx hb dX6_makePerformance_18 (by decide) ?_
    cases hV
    exact mRet C rfl dX6_makePerformance_19 rfl rfl hP hS
  · have hV := jF1 hV c16
    refine lv_iload_n hx hb dX6_makePerformance_11 rfl (lv_at hl 2 rfl) ?_
    refine jSpNI C dX6_makePerformance_12 (host := "TheatreSeasons") (kt_X8_isStage l D G    v2) jy_X8_isStage jn_47 jq_9_0 ⟨rfl, rfl, Nat.le_of_ble_eq_true rfl, Nat.le_of_ble_eq_true rfl⟩ ⟨Nat.le_of_ble_eq_true rfl, Nat.le_of_ble_eq_true rfl⟩ jE  hl (rest := []) rfl (Nat.le_of_ble_eq_true rfl) ?_
    refine lv_if_ne (tgt := 20) hx hb dX6_makePerformance_15 (by decide) (fun c15 => ?_) (fun c15 => ?_)
    · have hV := jF1 hV c15
      refine lv_iload_n hx hb dX6_makePerformance_20 rfl (lv_at hl 3 rfl) ?_
      refine jSpNI C dX6_makePerformance_21 (host := "TheatreSeasons") (kt_X8_isDate l D G    v3) jy_X8_isDate jn_53 jq_23_1 ⟨rfl, rfl, Nat.le_of_ble_eq_true rfl, Nat.le_of_ble_eq_true rfl⟩ ⟨Nat.le_of_ble_eq_true rfl, Nat.le_of_ble_eq_true rfl⟩ jE  hl (rest := []) rfl (Nat.le_of_ble_eq_true rfl) ?_
      refine lv_if_ne (tgt := 30) hx hb dX6_makePerformance_24 (by decide) (fun c14 => ?_) (fun c14 => ?_)
      · have hV := jF1 hV c14
        refine lv_aload_n hx hb dX6_makePerformance_30 rfl (lv_at hl 0 rfl) ?_
        refine va_get (D := D) (ci := 8) (v := .ref (a 37)) (C := RX6) (T := TX6) (N := 7) hx hb hts ju_X6 hown hK hP 0 rfl rfl 4 (by decide) (hts _ jq_2_23) (fun _ h9 => h9) rfl dX6_makePerformance_31 ?_
        refine va_getN (D := D) (ci := 4) (v := .int (M 0 3)) (C := RX2) (T := TX2) (N := 7) (host := "TheatreSeasons") hx hb hts ju_X2 hown hK (sX6_X2 hP) 0 rfl rfl 0 (by decide) (va_Nw.use rfl (hK0.2 _ jn_9)) (fun _ h9 => h9) rfl dX6_makePerformance_34 ?_
        refine lv_bipush (v := 24) hx hb dX6_makePerformance_37 (by decide) ?_
        refine lv_icmp_lt (tgt := 45) hx hb dX6_makePerformance_39 (by decide) (fun c13 => ?_) (fun c13 => ?_)
        · have hV := jT1 hV c13
          refine lv_aload_n hx hb dX6_makePerformance_45 rfl (lv_at hl 0 rfl) ?_
          refine lv_iconst (v := -1) hx hb dX6_makePerformance_46 (by decide) ?_
          refine lv_iload_n hx hb dX6_makePerformance_47 rfl (lv_at hl 1 rfl) ?_
          refine lv_iload_n hx hb dX6_makePerformance_48 rfl (lv_at hl 2 rfl) ?_
          refine lv_iload_n hx hb dX6_makePerformance_49 rfl (lv_at hl 3 rfl) ?_
          obtain ⟨r4, hr4, hV⟩ := jBind hV
          refine jVpI C dX6_makePerformance_50 (k_X6_placingRefusal l D G a N M (-1 : Int32) v1 v2 v3 r4 hr4) jy_X6_placingRefusal jq_23_3 jq_23_4 jq_23_5 ⟨rfl, rfl, Nat.le_of_ble_eq_true rfl, Nat.le_of_ble_eq_true rfl⟩ ⟨Nat.le_of_ble_eq_true rfl, Nat.le_of_ble_eq_true rfl⟩ hP  (ci := 8) (iw := 0) rfl rfl rfl hl (rest := []) rfl (Nat.le_of_ble_eq_true rfl) ?_
          refine lv_istore (lv' := [(4, .int r4), (0, .ref (a 0)), (1, .int v1), (2, .int v2), (3, .int v3)]) hx hb dX6_makePerformance_53 hl (by decide) rfl (fun ls hl => ?_)
          refine lv_iload hx hb dX6_makePerformance_55 (lv_at hl 0 rfl) ?_
          refine lv_if_eq (tgt := 63) hx hb dX6_makePerformance_57 (by decide) (fun c12 => ?_) (fun c12 => ?_)
          · have hV := jT1 hV c12
            refine lv_aload_n hx hb dX6_makePerformance_63 rfl (lv_at hl 1 rfl) ?_
            refine va_get (D := D) (ci := 8) (v := .ref (a 36)) (C := RX6) (T := TX6) (N := 7) hx hb hts ju_X6 hown hK hP 0 rfl rfl 3 (by decide) (hts _ jq_2_19) (fun _ h9 => h9) rfl dX6_makePerformance_64 ?_
            refine va_getN (D := D) (ci := 5) (v := .ref (a 12)) (C := RX3) (T := TX3) (N := 6) (host := "TheatreSeasons") hx hb hts ju_X3 hown hK (sX6_X3 hP) 0 rfl rfl 5 (by decide) (va_Nw.use rfl (hK0.2 _ jn_8)) (fun _ h9 => h9) rfl dX6_makePerformance_67 ?_
            refine lv_iload_n hx hb dX6_makePerformance_70 rfl (lv_at hl 2 rfl) ?_
            refine lv_aload_n hx hb dX6_makePerformance_71 rfl (lv_at hl 1 rfl) ?_
            refine lv_iconst (v := -1) hx hb dX6_makePerformance_72 (by decide) ?_
            refine lv_iload_n hx hb dX6_makePerformance_73 rfl (lv_at hl 2 rfl) ?_
            refine lv_iload_n hx hb dX6_makePerformance_74 rfl (lv_at hl 4 rfl) ?_
            obtain ⟨r5, hr5, hV⟩ := jBind hV
            refine jVpI C dX6_makePerformance_75 (k_X6_datesWith l D G a N M (-1 : Int32) v1 v3 r5 hr5) jy_X6_datesWith jq_23_11 jq_23_12 jq_23_13 ⟨rfl, rfl, Nat.le_of_ble_eq_true rfl, Nat.le_of_ble_eq_true rfl⟩ ⟨Nat.le_of_ble_eq_true rfl, Nat.le_of_ble_eq_true rfl⟩ hP  (ci := 8) (iw := 0) rfl rfl rfl hl (rest := [.int v1, .ref (a 12)]) rfl (Nat.le_of_ble_eq_true rfl) ?_
            refine jVmV C dX6_makePerformance_78 (kt_X5_set l D G (a 12) (a 13) 8 (Nat.le_of_ble_eq_true rfl) (M 6) v1 r5) jy_X5_set jq_5_2 jq_5_3 jq_5_4 ⟨rfl, rfl, Nat.le_of_ble_eq_true rfl, Nat.le_of_ble_eq_true rfl⟩ ⟨Nat.le_of_ble_eq_true rfl, Nat.le_of_ble_eq_true rfl⟩ (sX3_6 (sX6_X3 hP)) (dX3_6 (dX6_X3 hD)) hA hS (ci := 7) (iw := 0) rfl rfl rfl hl (rest := []) rfl (Nat.le_of_ble_eq_true rfl) (fun H locs hQ hz hkp hS => ?_)
            obtain ⟨M7, e11, hV⟩ := jLet hV
            have hP : va_P D vwCl (wSeas a G M7) H := by rw [e11]; exact jX6_6 hP hD hkp hQ
            have hD : va_D A (wSeas a G M7) := jD (w := (wSeas a G M)) rfl hD
            refine lv_aload_n hx hb dX6_makePerformance_81 rfl (lv_at hl 1 rfl) ?_
            refine va_get (D := D) (ci := 8) (v := .ref (a 37)) (C := RX6) (T := TX6) (N := 7) hx hb hts ju_X6 hown hK hP 0 rfl rfl 4 (by decide) (hts _ jq_2_23) (fun _ h9 => h9) rfl dX6_makePerformance_82 ?_
            refine lv_iload_n hx hb dX6_makePerformance_85 rfl (lv_at hl 2 rfl) ?_
            refine lv_iload_n hx hb dX6_makePerformance_86 rfl (lv_at hl 3 rfl) ?_
            refine lv_iload_n hx hb dX6_makePerformance_87 rfl (lv_at hl 4 rfl) ?_
            obtain ⟨r8, hr8, hV⟩ := jBind hV
            refine jVmI C dX6_makePerformance_88 (k_X2_add l D G a N M7 v1 v2 v3 r8 hr8) jy_X2_add jq_23_19 jq_23_20 jq_23_21 ⟨rfl, rfl, Nat.le_of_ble_eq_true rfl, Nat.le_of_ble_eq_true rfl⟩ ⟨Nat.le_of_ble_eq_true rfl, Nat.le_of_ble_eq_true rfl⟩ (sX6_X2 hP) (dX6_X2 hD) hA hS (ci := 4) (iw := 0) rfl rfl rfl hl (rest := []) rfl (Nat.le_of_ble_eq_true rfl) (fun H locs hQ hz hkp hS => ?_)
            obtain ⟨M9, e10, hV⟩ := jLet hV
            have hP : va_P D vwCl (wSeas a G M9) H := by rw [e10]; exact jX6_X2 hP hD hkp hQ
            have hD : va_D A (wSeas a G M9) := jD (w := (wSeas a G M7)) rfl hD
            cases hV
            exact mRet C rfl dX6_makePerformance_91 rfl rfl hP hS
          · have hV := jF1 hV c12
            refine lv_iload hx hb dX6_makePerformance_60 (lv_at hl 0 rfl) ?_
            cases hV
            exact mRet C rfl dX6_makePerformance_62 rfl rfl hP hS
        · have hV := jF1 hV c13
          refine lv_bipush (v := -3) hx hb dX6_makePerformance_42 (by decide) ?_
          cases hV
          exact mRet C rfl dX6_makePerformance_44 rfl rfl hP hS
      · have hV := jT1 hV c14
        refine lv_bipush (v := -2) hx hb dX6_makePerformance_27 (by decide) ?_
        cases hV
        exact mRet C rfl dX6_makePerformance_29 rfl rfl hP hS
    · have hV := jT1 hV c15
      refine lv_iconst (v := -1) hx hb dX6_makePerformance_18 (by decide) ?_
      cases hV
      exact mRet C rfl dX6_makePerformance_19 rfl rfl hP hS
theorem jy_X6_dropPerformance : jY yX6_dropPerformance cX6_dropPerformance 6 (some .int) 1 := ⟨by decide +kernel, jq_25_5, jq_1_16⟩
def F_X6_dropPerformance (N : Nat)  (M : Nat → Nat → Int32) (v1 : Int32) : Option (Int32 × (Nat → Nat → Int32)) := ((F_X2_has N M v1).bind (fun r1 => (if r1 = 0 then (some ((-1 : Int32), M)) else (jlet ((rg 8 (M 6) (rg 24 (M 7) v1)) &&& (((1 : Int32) <<< ((rg 24 (M 9) v1) &&& 31)) ^^^ (-1 : Int32))) (fun x5 => ((F_X3_roomRefusalIf N M (M 0 1) (rg 24 (M 7) v1) x5).bind (fun r7 => (if r7 = 0 then (jlet (u1 M 6 (rs 8 (M 6) (rg 24 (M 7) v1) x5)) (fun M10 => ((F_X2_removeAt N M10 v1).bind (fun r11 => (jlet (mgX2 M10 r11) (fun M12 => ((F_X4_dropPerformance N M12 v1).bind (fun r13 => (jlet (mgX4 M12 r13) (fun M14 => (some ((rg 24 (M 10) v1), M14)))))))))))) else (some (r7, M))))))))))
set_option maxHeartbeats 4000000 in
set_option maxRecDepth 100000 in
theorem k_X6_dropPerformance (l : Launch) (D : va_G) (G : Nat → ClassId) (a : Nat → Nat) (N : Nat) (M : Nat → Nat → Int32) (v1 : Int32) (r : (Int32 × (Nat → Nat → Int32))) (hV : F_X6_dropPerformance N  M v1 = some r) : mM l yX6_dropPerformance (jws yX6_dropPerformance cX6_dropPerformance 6 (some .int)) ({ frames := 4, cells := 0, slots := 0, locals := 88 } : Room) [.ref (a 0), .int v1] D G (wSeas a G M) (wSeas a G r.2) (some (.int r.1)) := by
  refine mM_of (by decide +kernel) (Nat.le_of_ble_eq_true rfl) (fun p e s m args below meth c ls A C hP hD hA hl => ?_)
  have C : Cx p s m args meth c cX6_dropPerformance 6 RX6 (some .int) D G := C
  have hS : va_S A s.heap s.heap [] := va_S.rf
  obtain ⟨hx, hb, hr, hml, hts, hown, hlocks, hK0⟩ := id C
  have hK := hK0.1
  have hl : lv_has ls 6 [(0, .ref (a 0)), (1, .int v1)] := hl
  rw [F_X6_dropPerformance] at hV
  refine lv_aload_n hx hb dX6_dropPerformance_0 rfl (lv_at hl 0 rfl) ?_
  refine va_get (D := D) (ci := 8) (v := .ref (a 37)) (C := RX6) (T := TX6) (N := 7) hx hb hts ju_X6 hown hK hP 0 rfl rfl 4 (by decide) (hts _ jq_2_23) (fun _ h9 => h9) rfl dX6_dropPerformance_1 ?_
  refine lv_iload_n hx hb dX6_dropPerformance_4 rfl (lv_at hl 1 rfl) ?_
  obtain ⟨r1, hr1, hV⟩ := jBind hV
  refine jVpI C dX6_dropPerformance_5 (k_X2_has l D G a N M v1 r1 hr1) jy_X2_has jq_23_15 jq_23_16 jq_23_17 ⟨rfl, rfl, Nat.le_of_ble_eq_true rfl, Nat.le_of_ble_eq_true rfl⟩ ⟨Nat.le_of_ble_eq_true rfl, Nat.le_of_ble_eq_true rfl⟩ (sX6_X2 hP)  (ci := 4) (iw := 0) rfl rfl rfl hl (rest := []) rfl (Nat.le_of_ble_eq_true rfl) ?_
  refine lv_if_ne (tgt := 13) hx hb dX6_dropPerformance_8 (by decide) (fun c19 => ?_) (fun c19 => ?_)
  · have hV := jF1 hV c19
    refine lv_aload_n hx hb dX6_dropPerformance_13 rfl (lv_at hl 0 rfl) ?_
    refine va_get (D := D) (ci := 8) (v := .ref (a 37)) (C := RX6) (T := TX6) (N := 7) hx hb hts ju_X6 hown hK hP 0 rfl rfl 4 (by decide) (hts _ jq_2_23) (fun _ h9 => h9) rfl dX6_dropPerformance_14 ?_
    refine va_getN (D := D) (ci := 4) (v := .ref (a 14)) (C := RX2) (T := TX2) (N := 7) (host := "TheatreSeasons") hx hb hts ju_X2 hown hK (sX6_X2 hP) 0 rfl rfl 1 (by decide) (va_Nw.use rfl (hK0.2 _ jn_11)) (fun _ h9 => h9) rfl dX6_dropPerformance_17 ?_
    refine lv_iload_n hx hb dX6_dropPerformance_20 rfl (lv_at hl 1 rfl) ?_
    refine jVpI C dX6_dropPerformance_21 (kt_X5_get l D G (a 14) (a 15) 24 (Nat.le_of_ble_eq_true rfl) (M 7) v1) jy_X5_get jq_9_5 jq_9_6 jq_9_7 ⟨rfl, rfl, Nat.le_of_ble_eq_true rfl, Nat.le_of_ble_eq_true rfl⟩ ⟨Nat.le_of_ble_eq_true rfl, Nat.le_of_ble_eq_true rfl⟩ (sX2_7 (sX6_X2 hP))  (ci := 7) (iw := 0) rfl rfl rfl hl (rest := []) rfl (Nat.le_of_ble_eq_true rfl) ?_
    refine lv_istore_n (lv' := [(2, .int (rg 24 (M 7) v1)), (0, .ref (a 0)), (1, .int v1)]) hx hb dX6_dropPerformance_24 rfl hl (by decide) rfl (fun ls hl => ?_)
    refine lv_aload_n hx hb dX6_dropPerformance_25 rfl (lv_at hl 1 rfl) ?_
    refine va_get (D := D) (ci := 8) (v := .ref (a 36)) (C := RX6) (T := TX6) (N := 7) hx hb hts ju_X6 hown hK hP 0 rfl rfl 3 (by decide) (hts _ jq_2_19) (fun _ h9 => h9) rfl dX6_dropPerformance_26 ?_
    refine va_getN (D := D) (ci := 5) (v := .ref (a 12)) (C := RX3) (T := TX3) (N := 6) (host := "TheatreSeasons") hx hb hts ju_X3 hown hK (sX6_X3 hP) 0 rfl rfl 5 (by decide) (va_Nw.use rfl (hK0.2 _ jn_8)) (fun _ h9 => h9) rfl dX6_dropPerformance_29 ?_
    refine lv_iload_n hx hb dX6_dropPerformance_32 rfl (lv_at hl 0 rfl) ?_
    refine jVpI C dX6_dropPerformance_33 (kt_X5_get l D G (a 12) (a 13) 8 (Nat.le_of_ble_eq_true rfl) (M 6) (rg 24 (M 7) v1)) jy_X5_get jq_9_5 jq_9_6 jq_9_7 ⟨rfl, rfl, Nat.le_of_ble_eq_true rfl, Nat.le_of_ble_eq_true rfl⟩ ⟨Nat.le_of_ble_eq_true rfl, Nat.le_of_ble_eq_true rfl⟩ (sX3_6 (sX6_X3 hP))  (ci := 7) (iw := 0) rfl rfl rfl hl (rest := []) rfl (Nat.le_of_ble_eq_true rfl) ?_
    refine lv_iconst (v := 1) hx hb dX6_dropPerformance_36 (by decide) ?_
    refine lv_aload_n hx hb dX6_dropPerformance_37 rfl (lv_at hl 1 rfl) ?_
    refine va_get (D := D) (ci := 8) (v := .ref (a 37)) (C := RX6) (T := TX6) (N := 7) hx hb hts ju_X6 hown hK hP 0 rfl rfl 4 (by decide) (hts _ jq_2_23) (fun _ h9 => h9) rfl dX6_dropPerformance_38 ?_
    refine va_getN (D := D) (ci := 4) (v := .ref (a 18)) (C := RX2) (T := TX2) (N := 7) (host := "TheatreSeasons") hx hb hts ju_X2 hown hK (sX6_X2 hP) 0 rfl rfl 3 (by decide) (va_Nw.use rfl (hK0.2 _ jn_15)) (fun _ h9 => h9) rfl dX6_dropPerformance_41 ?_
    refine lv_iload_n hx hb dX6_dropPerformance_44 rfl (lv_at hl 2 rfl) ?_
    refine jVpI C dX6_dropPerformance_45 (kt_X5_get l D G (a 18) (a 19) 24 (Nat.le_of_ble_eq_true rfl) (M 9) v1) jy_X5_get jq_9_5 jq_9_6 jq_9_7 ⟨rfl, rfl, Nat.le_of_ble_eq_true rfl, Nat.le_of_ble_eq_true rfl⟩ ⟨Nat.le_of_ble_eq_true rfl, Nat.le_of_ble_eq_true rfl⟩ (sX2_9 (sX6_X2 hP))  (ci := 7) (iw := 0) rfl rfl rfl hl (rest := [.int (1 : Int32), .int (rg 8 (M 6) (rg 24 (M 7) v1))]) rfl (Nat.le_of_ble_eq_true rfl) ?_
    refine lv_ishl hx hb dX6_dropPerformance_48 ?_
    refine lv_iconst (v := -1) hx hb dX6_dropPerformance_49 (by decide) ?_
    refine lv_ixor hx hb dX6_dropPerformance_50 ?_
    refine lv_iand hx hb dX6_dropPerformance_51 ?_
    obtain ⟨x5, e6, hV⟩ := jLet hV
    rw [← e6]
    refine lv_istore_n (lv' := [(3, .int x5), (2, .int (rg 24 (M 7) v1)), (0, .ref (a 0)), (1, .int v1)]) hx hb dX6_dropPerformance_52 rfl hl (by decide) rfl (fun ls hl => ?_)
    refine lv_aload_n hx hb dX6_dropPerformance_53 rfl (lv_at hl 2 rfl) ?_
    refine va_get (D := D) (ci := 8) (v := .ref (a 36)) (C := RX6) (T := TX6) (N := 7) hx hb hts ju_X6 hown hK hP 0 rfl rfl 3 (by decide) (hts _ jq_2_19) (fun _ h9 => h9) rfl dX6_dropPerformance_54 ?_
    refine lv_aload_n hx hb dX6_dropPerformance_57 rfl (lv_at hl 2 rfl) ?_
    refine va_get (D := D) (ci := 8) (v := .int (M 0 1)) (C := RX6) (T := TX6) (N := 7) hx hb hts ju_X6 hown hK hP 0 rfl rfl 2 (by decide) (hts _ jq_2_15) (fun _ h9 => h9) rfl dX6_dropPerformance_58 ?_
    refine lv_iload_n hx hb dX6_dropPerformance_61 rfl (lv_at hl 1 rfl) ?_
    refine lv_iload_n hx hb dX6_dropPerformance_62 rfl (lv_at hl 0 rfl) ?_
    obtain ⟨r7, hr7, hV⟩ := jBind hV
    refine jVpI C dX6_dropPerformance_63 (k_X3_roomRefusalIf l D G a N M (M 0 1) (rg 24 (M 7) v1) x5 r7 hr7) jy_X3_roomRefusalIf jq_18_23 jq_19_0 jq_19_1 ⟨rfl, rfl, Nat.le_of_ble_eq_true rfl, Nat.le_of_ble_eq_true rfl⟩ ⟨Nat.le_of_ble_eq_true rfl, Nat.le_of_ble_eq_true rfl⟩ (sX6_X3 hP)  (ci := 5) (iw := 0) rfl rfl rfl hl (rest := []) rfl (Nat.le_of_ble_eq_true rfl) ?_
    refine lv_istore (lv' := [(4, .int r7), (3, .int x5), (2, .int (rg 24 (M 7) v1)), (0, .ref (a 0)), (1, .int v1)]) hx hb dX6_dropPerformance_66 hl (by decide) rfl (fun ls hl => ?_)
    refine lv_iload hx hb dX6_dropPerformance_68 (lv_at hl 0 rfl) ?_
    refine lv_if_eq (tgt := 76) hx hb dX6_dropPerformance_70 (by decide) (fun c18 => ?_) (fun c18 => ?_)
    · have hV := jT1 hV c18
      refine lv_aload_n hx hb dX6_dropPerformance_76 rfl (lv_at hl 3 rfl) ?_
      refine va_get (D := D) (ci := 8) (v := .ref (a 37)) (C := RX6) (T := TX6) (N := 7) hx hb hts ju_X6 hown hK hP 0 rfl rfl 4 (by decide) (hts _ jq_2_23) (fun _ h9 => h9) rfl dX6_dropPerformance_77 ?_
      refine va_getN (D := D) (ci := 4) (v := .ref (a 20)) (C := RX2) (T := TX2) (N := 7) (host := "TheatreSeasons") hx hb hts ju_X2 hown hK (sX6_X2 hP) 0 rfl rfl 4 (by decide) (va_Nw.use rfl (hK0.2 _ jn_17)) (fun _ h9 => h9) rfl dX6_dropPerformance_80 ?_
      refine lv_iload_n hx hb dX6_dropPerformance_83 rfl (lv_at hl 4 rfl) ?_
      refine jVpI C dX6_dropPerformance_84 (kt_X5_get l D G (a 20) (a 21) 24 (Nat.le_of_ble_eq_true rfl) (M 10) v1) jy_X5_get jq_9_5 jq_9_6 jq_9_7 ⟨rfl, rfl, Nat.le_of_ble_eq_true rfl, Nat.le_of_ble_eq_true rfl⟩ ⟨Nat.le_of_ble_eq_true rfl, Nat.le_of_ble_eq_true rfl⟩ (sX2_10 (sX6_X2 hP))  (ci := 7) (iw := 0) rfl rfl rfl hl (rest := []) rfl (Nat.le_of_ble_eq_true rfl) ?_
      refine lv_istore (lv' := [(5, .int (rg 24 (M 10) v1)), (4, .int r7), (3, .int x5), (2, .int (rg 24 (M 7) v1)), (0, .ref (a 0)), (1, .int v1)]) hx hb dX6_dropPerformance_87 hl (by decide) rfl (fun ls hl => ?_)
      refine lv_aload_n hx hb dX6_dropPerformance_89 rfl (lv_at hl 4 rfl) ?_
      refine va_get (D := D) (ci := 8) (v := .ref (a 36)) (C := RX6) (T := TX6) (N := 7) hx hb hts ju_X6 hown hK hP 0 rfl rfl 3 (by decide) (hts _ jq_2_19) (fun _ h9 => h9) rfl dX6_dropPerformance_90 ?_
      refine va_getN (D := D) (ci := 5) (v := .ref (a 12)) (C := RX3) (T := TX3) (N := 6) (host := "TheatreSeasons") hx hb hts ju_X3 hown hK (sX6_X3 hP) 0 rfl rfl 5 (by decide) (va_Nw.use rfl (hK0.2 _ jn_8)) (fun _ h9 => h9) rfl dX6_dropPerformance_93 ?_
      refine lv_iload_n hx hb dX6_dropPerformance_96 rfl (lv_at hl 3 rfl) ?_
      refine lv_iload_n hx hb dX6_dropPerformance_97 rfl (lv_at hl 2 rfl) ?_
      refine jVmV C dX6_dropPerformance_98 (kt_X5_set l D G (a 12) (a 13) 8 (Nat.le_of_ble_eq_true rfl) (M 6) (rg 24 (M 7) v1) x5) jy_X5_set jq_5_2 jq_5_3 jq_5_4 ⟨rfl, rfl, Nat.le_of_ble_eq_true rfl, Nat.le_of_ble_eq_true rfl⟩ ⟨Nat.le_of_ble_eq_true rfl, Nat.le_of_ble_eq_true rfl⟩ (sX3_6 (sX6_X3 hP)) (dX3_6 (dX6_X3 hD)) hA hS (ci := 7) (iw := 0) rfl rfl rfl hl (rest := []) rfl (Nat.le_of_ble_eq_true rfl) (fun H locs hQ hz hkp hS => ?_)
      obtain ⟨M10, e17, hV⟩ := jLet hV
      have hP : va_P D vwCl (wSeas a G M10) H := by rw [e17]; exact jX6_6 hP hD hkp hQ
      have hD : va_D A (wSeas a G M10) := jD (w := (wSeas a G M)) rfl hD
      refine lv_aload_n hx hb dX6_dropPerformance_101 rfl (lv_at hl 4 rfl) ?_
      refine va_get (D := D) (ci := 8) (v := .ref (a 37)) (C := RX6) (T := TX6) (N := 7) hx hb hts ju_X6 hown hK hP 0 rfl rfl 4 (by decide) (hts _ jq_2_23) (fun _ h9 => h9) rfl dX6_dropPerformance_102 ?_
      refine lv_iload_n hx hb dX6_dropPerformance_105 rfl (lv_at hl 5 rfl) ?_
      obtain ⟨r11, hr11, hV⟩ := jBind hV
      refine jVmV C dX6_dropPerformance_106 (k_X2_removeAt l D G a N M10 v1 r11 hr11) jy_X2_removeAt jq_25_6 jq_25_7 jq_25_8 ⟨rfl, rfl, Nat.le_of_ble_eq_true rfl, Nat.le_of_ble_eq_true rfl⟩ ⟨Nat.le_of_ble_eq_true rfl, Nat.le_of_ble_eq_true rfl⟩ (sX6_X2 hP) (dX6_X2 hD) hA hS (ci := 4) (iw := 0) rfl rfl rfl hl (rest := []) rfl (Nat.le_of_ble_eq_true rfl) (fun H locs hQ hz hkp hS => ?_)
      obtain ⟨M12, e16, hV⟩ := jLet hV
      have hP : va_P D vwCl (wSeas a G M12) H := by rw [e16]; exact jX6_X2 hP hD hkp hQ
      have hD : va_D A (wSeas a G M12) := jD (w := (wSeas a G M10)) rfl hD
      refine lv_aload_n hx hb dX6_dropPerformance_109 rfl (lv_at hl 4 rfl) ?_
      refine va_get (D := D) (ci := 8) (v := .ref (a 39)) (C := RX6) (T := TX6) (N := 7) hx hb hts ju_X6 hown hK hP 0 rfl rfl 6 (by decide) (hts _ jq_3_7) (fun _ h9 => h9) rfl dX6_dropPerformance_110 ?_
      refine lv_iload_n hx hb dX6_dropPerformance_113 rfl (lv_at hl 5 rfl) ?_
      obtain ⟨r13, hr13, hV⟩ := jBind hV
      refine jVmV C dX6_dropPerformance_114 (k_X4_dropPerformance l D G a N M12 v1 r13 hr13) jy_X4_dropPerformance jq_25_11 jq_25_12 jq_25_13 ⟨rfl, rfl, Nat.le_of_ble_eq_true rfl, Nat.le_of_ble_eq_true rfl⟩ ⟨Nat.le_of_ble_eq_true rfl, Nat.le_of_ble_eq_true rfl⟩ (sX6_X4 hP) (dX6_X4 hD) hA hS (ci := 6) (iw := 0) rfl rfl rfl hl (rest := []) rfl (Nat.le_of_ble_eq_true rfl) (fun H locs hQ hz hkp hS => ?_)
      obtain ⟨M14, e15, hV⟩ := jLet hV
      have hP : va_P D vwCl (wSeas a G M14) H := by rw [e15]; exact jX6_X4 hP hD hkp hQ
      have hD : va_D A (wSeas a G M14) := jD (w := (wSeas a G M12)) rfl hD
      refine lv_iload hx hb dX6_dropPerformance_117 (lv_at hl 0 rfl) ?_
      cases hV
      exact mRet C rfl dX6_dropPerformance_119 rfl rfl hP hS
    · have hV := jF1 hV c18
      refine lv_iload hx hb dX6_dropPerformance_73 (lv_at hl 0 rfl) ?_
      cases hV
      exact mRet C rfl dX6_dropPerformance_75 rfl rfl hP hS
  · have hV := jT1 hV c19
    refine lv_iconst (v := -1) hx hb dX6_dropPerformance_11 (by decide) ?_
    cases hV
    exact mRet C rfl dX6_dropPerformance_12 rfl rfl hP hS
theorem jy_X6_movePerformance : jY yX6_movePerformance cX6_movePerformance 6 (some .int) 2 := ⟨by decide +kernel, jq_26_15, jq_1_16⟩
def F_X6_movePerformance (N : Nat)  (M : Nat → Nat → Int32) (v1 v2 : Int32) : Option (Int32 × (Nat → Nat → Int32)) := ((F_X2_has N M v1).bind (fun r1 => (if r1 = 0 then (some ((-1 : Int32), M)) else (if (jIn v2 0 29) = 0 then (some ((-2 : Int32), M)) else ((F_X6_placingRefusal N M v1 (rg 24 (M 7) v1) (rg 24 (M 8) v1) v2).bind (fun r5 => (if r5 = 0 then ((F_X6_datesWith N M v1 (rg 24 (M 7) v1) v2).bind (fun r7 => (jlet (u1 M 6 (rs 8 (M 6) (rg 24 (M 7) v1) r7)) (fun M9 => (jlet (u1 M9 9 (rs 24 (M9 9) v1 v2)) (fun M11 => (some ((rg 24 (M 9) v1), M11)))))))) else (some (r5, M)))))))))
set_option maxHeartbeats 4000000 in
set_option maxRecDepth 100000 in
theorem k_X6_movePerformance (l : Launch) (D : va_G) (G : Nat → ClassId) (a : Nat → Nat) (N : Nat) (M : Nat → Nat → Int32) (v1 v2 : Int32) (r : (Int32 × (Nat → Nat → Int32))) (hV : F_X6_movePerformance N  M v1 v2 = some r) : mM l yX6_movePerformance (jws yX6_movePerformance cX6_movePerformance 6 (some .int)) ({ frames := 4, cells := 0, slots := 0, locals := 101 } : Room) [.ref (a 0), .int v1, .int v2] D G (wSeas a G M) (wSeas a G r.2) (some (.int r.1)) := by
  refine mM_of (by decide +kernel) (Nat.le_of_ble_eq_true rfl) (fun p e s m args below meth c ls A C hP hD hA hl => ?_)
  have C : Cx p s m args meth c cX6_movePerformance 6 RX6 (some .int) D G := C
  have hS : va_S A s.heap s.heap [] := va_S.rf
  obtain ⟨hx, hb, hr, hml, hts, hown, hlocks, hK0⟩ := id C
  have hK := hK0.1
  have hl : lv_has ls 6 [(0, .ref (a 0)), (1, .int v1), (2, .int v2)] := hl
  rw [F_X6_movePerformance] at hV
  refine lv_aload_n hx hb dX6_movePerformance_0 rfl (lv_at hl 0 rfl) ?_
  refine va_get (D := D) (ci := 8) (v := .ref (a 37)) (C := RX6) (T := TX6) (N := 7) hx hb hts ju_X6 hown hK hP 0 rfl rfl 4 (by decide) (hts _ jq_2_23) (fun _ h9 => h9) rfl dX6_movePerformance_1 ?_
  refine lv_iload_n hx hb dX6_movePerformance_4 rfl (lv_at hl 1 rfl) ?_
  obtain ⟨r1, hr1, hV⟩ := jBind hV
  refine jVpI C dX6_movePerformance_5 (k_X2_has l D G a N M v1 r1 hr1) jy_X2_has jq_23_15 jq_23_16 jq_23_17 ⟨rfl, rfl, Nat.le_of_ble_eq_true rfl, Nat.le_of_ble_eq_true rfl⟩ ⟨Nat.le_of_ble_eq_true rfl, Nat.le_of_ble_eq_true rfl⟩ (sX6_X2 hP)  (ci := 4) (iw := 0) rfl rfl rfl hl (rest := []) rfl (Nat.le_of_ble_eq_true rfl) ?_
  refine lv_if_ne (tgt := 13) hx hb dX6_movePerformance_8 (by decide) (fun c16 => ?_) (fun c16 => ?_)
  · have hV := jF1 hV c16
    refine lv_iload_n hx hb dX6_movePerformance_13 rfl (lv_at hl 2 rfl) ?_
    refine jSpNI C dX6_movePerformance_14 (host := "TheatreSeasons") (kt_X8_isDate l D G    v2) jy_X8_isDate jn_53 jq_23_1 ⟨rfl, rfl, Nat.le_of_ble_eq_true rfl, Nat.le_of_ble_eq_true rfl⟩ ⟨Nat.le_of_ble_eq_true rfl, Nat.le_of_ble_eq_true rfl⟩ jE  hl (rest := []) rfl (Nat.le_of_ble_eq_true rfl) ?_
    refine lv_if_ne (tgt := 23) hx hb dX6_movePerformance_17 (by decide) (fun c15 => ?_) (fun c15 => ?_)
    · have hV := jF1 hV c15
      refine lv_aload_n hx hb dX6_movePerformance_23 rfl (lv_at hl 0 rfl) ?_
      refine va_get (D := D) (ci := 8) (v := .ref (a 37)) (C := RX6) (T := TX6) (N := 7) hx hb hts ju_X6 hown hK hP 0 rfl rfl 4 (by decide) (hts _ jq_2_23) (fun _ h9 => h9) rfl dX6_movePerformance_24 ?_
      refine va_getN (D := D) (ci := 4) (v := .ref (a 14)) (C := RX2) (T := TX2) (N := 7) (host := "TheatreSeasons") hx hb hts ju_X2 hown hK (sX6_X2 hP) 0 rfl rfl 1 (by decide) (va_Nw.use rfl (hK0.2 _ jn_11)) (fun _ h9 => h9) rfl dX6_movePerformance_27 ?_
      refine lv_iload_n hx hb dX6_movePerformance_30 rfl (lv_at hl 1 rfl) ?_
      refine jVpI C dX6_movePerformance_31 (kt_X5_get l D G (a 14) (a 15) 24 (Nat.le_of_ble_eq_true rfl) (M 7) v1) jy_X5_get jq_9_5 jq_9_6 jq_9_7 ⟨rfl, rfl, Nat.le_of_ble_eq_true rfl, Nat.le_of_ble_eq_true rfl⟩ ⟨Nat.le_of_ble_eq_true rfl, Nat.le_of_ble_eq_true rfl⟩ (sX2_7 (sX6_X2 hP))  (ci := 7) (iw := 0) rfl rfl rfl hl (rest := []) rfl (Nat.le_of_ble_eq_true rfl) ?_
      refine lv_istore_n (lv' := [(3, .int (rg 24 (M 7) v1)), (0, .ref (a 0)), (1, .int v1), (2, .int v2)]) hx hb dX6_movePerformance_34 rfl hl (by decide) rfl (fun ls hl => ?_)
      refine lv_aload_n hx hb dX6_movePerformance_35 rfl (lv_at hl 1 rfl) ?_
      refine lv_iload_n hx hb dX6_movePerformance_36 rfl (lv_at hl 2 rfl) ?_
      refine lv_iload_n hx hb dX6_movePerformance_37 rfl (lv_at hl 0 rfl) ?_
      refine lv_aload_n hx hb dX6_movePerformance_38 rfl (lv_at hl 1 rfl) ?_
      refine va_get (D := D) (ci := 8) (v := .ref (a 37)) (C := RX6) (T := TX6) (N := 7) hx hb hts ju_X6 hown hK hP 0 rfl rfl 4 (by decide) (hts _ jq_2_23) (fun _ h9 => h9) rfl dX6_movePerformance_39 ?_
      refine va_getN (D := D) (ci := 4) (v := .ref (a 16)) (C := RX2) (T := TX2) (N := 7) (host := "TheatreSeasons") hx hb hts ju_X2 hown hK (sX6_X2 hP) 0 rfl rfl 2 (by decide) (va_Nw.use rfl (hK0.2 _ jn_13)) (fun _ h9 => h9) rfl dX6_movePerformance_42 ?_
      refine lv_iload_n hx hb dX6_movePerformance_45 rfl (lv_at hl 2 rfl) ?_
      refine jVpI C dX6_movePerformance_46 (kt_X5_get l D G (a 16) (a 17) 24 (Nat.le_of_ble_eq_true rfl) (M 8) v1) jy_X5_get jq_9_5 jq_9_6 jq_9_7 ⟨rfl, rfl, Nat.le_of_ble_eq_true rfl, Nat.le_of_ble_eq_true rfl⟩ ⟨Nat.le_of_ble_eq_true rfl, Nat.le_of_ble_eq_true rfl⟩ (sX2_8 (sX6_X2 hP))  (ci := 7) (iw := 0) rfl rfl rfl hl (rest := [.int (rg 24 (M 7) v1), .int v1, .ref (a 0)]) rfl (Nat.le_of_ble_eq_true rfl) ?_
      refine lv_iload_n hx hb dX6_movePerformance_49 rfl (lv_at hl 3 rfl) ?_
      obtain ⟨r5, hr5, hV⟩ := jBind hV
      refine jVpI C dX6_movePerformance_50 (k_X6_placingRefusal l D G a N M v1 (rg 24 (M 7) v1) (rg 24 (M 8) v1) v2 r5 hr5) jy_X6_placingRefusal jq_23_3 jq_23_4 jq_23_5 ⟨rfl, rfl, Nat.le_of_ble_eq_true rfl, Nat.le_of_ble_eq_true rfl⟩ ⟨Nat.le_of_ble_eq_true rfl, Nat.le_of_ble_eq_true rfl⟩ hP  (ci := 8) (iw := 0) rfl rfl rfl hl (rest := []) rfl (Nat.le_of_ble_eq_true rfl) ?_
      refine lv_istore (lv' := [(4, .int r5), (3, .int (rg 24 (M 7) v1)), (0, .ref (a 0)), (1, .int v1), (2, .int v2)]) hx hb dX6_movePerformance_53 hl (by decide) rfl (fun ls hl => ?_)
      refine lv_iload hx hb dX6_movePerformance_55 (lv_at hl 0 rfl) ?_
      refine lv_if_eq (tgt := 63) hx hb dX6_movePerformance_57 (by decide) (fun c14 => ?_) (fun c14 => ?_)
      · have hV := jT1 hV c14
        refine lv_aload_n hx hb dX6_movePerformance_63 rfl (lv_at hl 2 rfl) ?_
        refine va_get (D := D) (ci := 8) (v := .ref (a 37)) (C := RX6) (T := TX6) (N := 7) hx hb hts ju_X6 hown hK hP 0 rfl rfl 4 (by decide) (hts _ jq_2_23) (fun _ h9 => h9) rfl dX6_movePerformance_64 ?_
        refine va_getN (D := D) (ci := 4) (v := .ref (a 18)) (C := RX2) (T := TX2) (N := 7) (host := "TheatreSeasons") hx hb hts ju_X2 hown hK (sX6_X2 hP) 0 rfl rfl 3 (by decide) (va_Nw.use rfl (hK0.2 _ jn_15)) (fun _ h9 => h9) rfl dX6_movePerformance_67 ?_
        refine lv_iload_n hx hb dX6_movePerformance_70 rfl (lv_at hl 3 rfl) ?_
        refine jVpI C dX6_movePerformance_71 (kt_X5_get l D G (a 18) (a 19) 24 (Nat.le_of_ble_eq_true rfl) (M 9) v1) jy_X5_get jq_9_5 jq_9_6 jq_9_7 ⟨rfl, rfl, Nat.le_of_ble_eq_true rfl, Nat.le_of_ble_eq_true rfl⟩ ⟨Nat.le_of_ble_eq_true rfl, Nat.le_of_ble_eq_true rfl⟩ (sX2_9 (sX6_X2 hP))  (ci := 7) (iw := 0) rfl rfl rfl hl (rest := []) rfl (Nat.le_of_ble_eq_true rfl) ?_
        refine lv_istore (lv' := [(5, .int (rg 24 (M 9) v1)), (4, .int r5), (3, .int (rg 24 (M 7) v1)), (0, .ref (a 0)), (1, .int v1), (2, .int v2)]) hx hb dX6_movePerformance_74 hl (by decide) rfl (fun ls hl => ?_)
        refine lv_aload_n hx hb dX6_movePerformance_76 rfl (lv_at hl 3 rfl) ?_
        refine va_get (D := D) (ci := 8) (v := .ref (a 36)) (C := RX6) (T := TX6) (N := 7) hx hb hts ju_X6 hown hK hP 0 rfl rfl 3 (by decide) (hts _ jq_2_19) (fun _ h9 => h9) rfl dX6_movePerformance_77 ?_
        refine va_getN (D := D) (ci := 5) (v := .ref (a 12)) (C := RX3) (T := TX3) (N := 6) (host := "TheatreSeasons") hx hb hts ju_X3 hown hK (sX6_X3 hP) 0 rfl rfl 5 (by decide) (va_Nw.use rfl (hK0.2 _ jn_8)) (fun _ h9 => h9) rfl dX6_movePerformance_80 ?_
        refine lv_iload_n hx hb dX6_movePerformance_83 rfl (lv_at hl 2 rfl) ?_
        refine lv_aload_n hx hb dX6_movePerformance_84 rfl (lv_at hl 3 rfl) ?_
        refine lv_iload_n hx hb dX6_movePerformance_85 rfl (lv_at hl 4 rfl) ?_
        refine lv_iload_n hx hb dX6_movePerformance_86 rfl (lv_at hl 2 rfl) ?_
        refine lv_iload_n hx hb dX6_movePerformance_87 rfl (lv_at hl 5 rfl) ?_
        obtain ⟨r7, hr7, hV⟩ := jBind hV
        refine jVpI C dX6_movePerformance_88 (k_X6_datesWith l D G a N M v1 (rg 24 (M 7) v1) v2 r7 hr7) jy_X6_datesWith jq_23_11 jq_23_12 jq_23_13 ⟨rfl, rfl, Nat.le_of_ble_eq_true rfl, Nat.le_of_ble_eq_true rfl⟩ ⟨Nat.le_of_ble_eq_true rfl, Nat.le_of_ble_eq_true rfl⟩ hP  (ci := 8) (iw := 0) rfl rfl rfl hl (rest := [.int (rg 24 (M 7) v1), .ref (a 12)]) rfl (Nat.le_of_ble_eq_true rfl) ?_
        refine jVmV C dX6_movePerformance_91 (kt_X5_set l D G (a 12) (a 13) 8 (Nat.le_of_ble_eq_true rfl) (M 6) (rg 24 (M 7) v1) r7) jy_X5_set jq_5_2 jq_5_3 jq_5_4 ⟨rfl, rfl, Nat.le_of_ble_eq_true rfl, Nat.le_of_ble_eq_true rfl⟩ ⟨Nat.le_of_ble_eq_true rfl, Nat.le_of_ble_eq_true rfl⟩ (sX3_6 (sX6_X3 hP)) (dX3_6 (dX6_X3 hD)) hA hS (ci := 7) (iw := 0) rfl rfl rfl hl (rest := []) rfl (Nat.le_of_ble_eq_true rfl) (fun H locs hQ hz hkp hS => ?_)
        obtain ⟨M9, e13, hV⟩ := jLet hV
        have hP : va_P D vwCl (wSeas a G M9) H := by rw [e13]; exact jX6_6 hP hD hkp hQ
        have hD : va_D A (wSeas a G M9) := jD (w := (wSeas a G M)) rfl hD
        refine lv_aload_n hx hb dX6_movePerformance_94 rfl (lv_at hl 3 rfl) ?_
        refine va_get (D := D) (ci := 8) (v := .ref (a 37)) (C := RX6) (T := TX6) (N := 7) hx hb hts ju_X6 hown hK hP 0 rfl rfl 4 (by decide) (hts _ jq_2_23) (fun _ h9 => h9) rfl dX6_movePerformance_95 ?_
        refine va_getN (D := D) (ci := 4) (v := .ref (a 18)) (C := RX2) (T := TX2) (N := 7) (host := "TheatreSeasons") hx hb hts ju_X2 hown hK (sX6_X2 hP) 0 rfl rfl 3 (by decide) (va_Nw.use rfl (hK0.2 _ jn_15)) (fun _ h9 => h9) rfl dX6_movePerformance_98 ?_
        refine lv_iload_n hx hb dX6_movePerformance_101 rfl (lv_at hl 4 rfl) ?_
        refine lv_iload_n hx hb dX6_movePerformance_102 rfl (lv_at hl 5 rfl) ?_
        refine jVmV C dX6_movePerformance_103 (kt_X5_set l D G (a 18) (a 19) 24 (Nat.le_of_ble_eq_true rfl) (M9 9) v1 v2) jy_X5_set jq_5_2 jq_5_3 jq_5_4 ⟨rfl, rfl, Nat.le_of_ble_eq_true rfl, Nat.le_of_ble_eq_true rfl⟩ ⟨Nat.le_of_ble_eq_true rfl, Nat.le_of_ble_eq_true rfl⟩ (sX2_9 (sX6_X2 hP)) (dX2_9 (dX6_X2 hD)) hA hS (ci := 7) (iw := 0) rfl rfl rfl hl (rest := []) rfl (Nat.le_of_ble_eq_true rfl) (fun H locs hQ hz hkp hS => ?_)
        obtain ⟨M11, e12, hV⟩ := jLet hV
        have hP : va_P D vwCl (wSeas a G M11) H := by rw [e12]; exact jX6_9 hP hD hkp hQ
        have hD : va_D A (wSeas a G M11) := jD (w := (wSeas a G M9)) rfl hD
        refine lv_iload hx hb dX6_movePerformance_106 (lv_at hl 0 rfl) ?_
        cases hV
        exact mRet C rfl dX6_movePerformance_108 rfl rfl hP hS
      · have hV := jF1 hV c14
        refine lv_iload hx hb dX6_movePerformance_60 (lv_at hl 0 rfl) ?_
        cases hV
        exact mRet C rfl dX6_movePerformance_62 rfl rfl hP hS
    · have hV := jT1 hV c15
      refine lv_bipush (v := -2) hx hb dX6_movePerformance_20 (by decide) ?_
      cases hV
      exact mRet C rfl dX6_movePerformance_22 rfl rfl hP hS
  · have hV := jT1 hV c16
    refine lv_iconst (v := -1) hx hb dX6_movePerformance_11 (by decide) ?_
    cases hV
    exact mRet C rfl dX6_movePerformance_12 rfl rfl hP hS
theorem jy_X6_dateOfLeastPeak : jY yX6_dateOfLeastPeak cX6_dateOfLeastPeak 9 (some .int) 1 := ⟨by decide +kernel, jq_29_23, jq_1_16⟩
def D_X6_dateOfLeastPeak_61 (N : Nat)  (M : Nat → Nat → Int32) (k33 : Int32 → Int32 → Int32 → Int32 → Int32 → Int32 → Option Int32) (v1 : Int32) (v2 : Int32) (v3 : Int32) (v4 : Int32) (v5 : Int32) (v6 : Int32) (s0 : Int32) : Option Int32 := (if s0 = 0 then ((F_X6_placingRefusal N M v1 v2 v3 v6).bind (fun r1 => (if r1 = 0 then ((F_X6_datesWith N M v1 v2 v6).bind (fun r2 => ((F_X3_peakIf N M v2 r2).bind (fun r3 => (if v4 = (-1 : Int32) then (k33  v1 v2 v3 v6 r3 (v6 + 1)) else (if v5 ≤ r3 then (k33  v1 v2 v3 v4 v5 (v6 + 1)) else (k33  v1 v2 v3 v6 r3 (v6 + 1)))))))) else (k33  v1 v2 v3 v4 v5 (v6 + 1))))) else (k33  v1 v2 v3 v4 v5 (v6 + 1)))
set_option maxHeartbeats 4000000 in
set_option maxRecDepth 100000 in
theorem B_X6_dateOfLeastPeak_61 {p : Program} {l : Launch} {e : Env} {s : State} {m : MethodId} {args : Array Value} {below : List Frame} {meth : Method} {c : Code} {D : va_G} {G : Nat → ClassId} (C : Cx p s m args meth c cX6_dateOfLeastPeak 9 RX6 (some .int) D G) (N : Nat) (a : Nat → Nat) (M : Nat → Nat → Int32) (r : Int32) (hP : va_P D vwCl (wSeas a G M) s.heap) (k33 : Int32 → Int32 → Int32 → Int32 → Int32 → Int32 → Option Int32) (hk33 : (∀ (v1 : Int32) (v2 : Int32) (v3 : Int32) (v4 : Int32) (v5 : Int32) (v6 : Int32) (ls : Array Slot), lv_has ls 9 [(0, .ref (a 0)), (1, .int v1), (2, .int v2), (3, .int v3), (4, .int v4), (5, .int v5), (6, .int v6)] → k33 v1 v2 v3 v4 v5 v6 = some r → W p l e ({ frames := 4, cells := 0, slots := 0, locals := 101 } : Room) s m args below meth c s.heap [] 0 0 (MQ below (QcRd (some (.int r))) args s 0 0 nofree) (F0 m 33 ls []))) : (∀ (v1 : Int32) (v2 : Int32) (v3 : Int32) (v4 : Int32) (v5 : Int32) (v6 : Int32) (s0 : Int32) (ls : Array Slot), lv_has ls 9 [(0, .ref (a 0)), (1, .int v1), (2, .int v2), (3, .int v3), (4, .int v4), (5, .int v5), (6, .int v6)] → D_X6_dateOfLeastPeak_61 N  M k33 v1 v2 v3 v4 v5 v6 s0 = some r → W p l e ({ frames := 4, cells := 0, slots := 0, locals := 101 } : Room) s m args below meth c s.heap [] 0 0 (MQ below (QcRd (some (.int r))) args s 0 0 nofree) (F0 m 61 ls [.int s0])) := by
  have C := C
  obtain ⟨hx, hb, hr, hml, hts, hown, hlocks, hK0⟩ := id C
  have hK := hK0.1
  intro v1 v2 v3 v4 v5 v6 s0 ls hl hV
  rw [D_X6_dateOfLeastPeak_61] at hV
  refine lv_istore (lv' := [(7, .int s0), (0, .ref (a 0)), (1, .int v1), (2, .int v2), (3, .int v3), (4, .int v4), (5, .int v5), (6, .int v6)]) hx hb dX6_dateOfLeastPeak_61 hl (by decide) rfl (fun ls hl => ?_)
  refine lv_iload hx hb dX6_dateOfLeastPeak_63 (lv_at hl 0 rfl) ?_
  refine lv_if_ne (tgt := 119) hx hb dX6_dateOfLeastPeak_65 (by decide) (fun c7 => ?_) (fun c7 => ?_)
  · have hV := jF1 hV c7
    refine lv_iinc (v := (v6 + 1)) (lv' := [(6, .int (v6 + 1)), (7, .int s0), (0, .ref (a 0)), (1, .int v1), (2, .int v2), (3, .int v3), (4, .int v4), (5, .int v5)]) hx hb dX6_dateOfLeastPeak_119 hl (k := 7) rfl rfl (by decide) rfl (fun ls hl => ?_)
    refine lv_goto (tgt := 33) hx hb dX6_dateOfLeastPeak_122 (by decide) ?_
    exact hk33  v1 v2 v3 v4 v5 (v6 + 1) _ (lv_sub hl [2, 3, 4, 5, 6, 7, 0] rfl) hV
  · have hV := jT1 hV c7
    refine lv_aload_n hx hb dX6_dateOfLeastPeak_68 rfl (lv_at hl 1 rfl) ?_
    refine lv_iload_n hx hb dX6_dateOfLeastPeak_69 rfl (lv_at hl 2 rfl) ?_
    refine lv_iload_n hx hb dX6_dateOfLeastPeak_70 rfl (lv_at hl 3 rfl) ?_
    refine lv_iload_n hx hb dX6_dateOfLeastPeak_71 rfl (lv_at hl 4 rfl) ?_
    refine lv_iload hx hb dX6_dateOfLeastPeak_72 (lv_at hl 7 rfl) ?_
    obtain ⟨r1, hr1, hV⟩ := jBind hV
    refine jVpI C dX6_dateOfLeastPeak_74 (k_X6_placingRefusal l D G a N M v1 v2 v3 v6 r1 hr1) jy_X6_placingRefusal jq_23_3 jq_23_4 jq_23_5 ⟨rfl, rfl, Nat.le_of_ble_eq_true rfl, Nat.le_of_ble_eq_true rfl⟩ ⟨Nat.le_of_ble_eq_true rfl, Nat.le_of_ble_eq_true rfl⟩ hP  (ci := 8) (iw := 0) rfl rfl rfl hl (rest := []) rfl (Nat.le_of_ble_eq_true rfl) ?_
    refine lv_if_ne (tgt := 119) hx hb dX6_dateOfLeastPeak_77 (by decide) (fun c6 => ?_) (fun c6 => ?_)
    · have hV := jF1 hV c6
      refine lv_iinc (v := (v6 + 1)) (lv' := [(6, .int (v6 + 1)), (7, .int s0), (0, .ref (a 0)), (1, .int v1), (2, .int v2), (3, .int v3), (4, .int v4), (5, .int v5)]) hx hb dX6_dateOfLeastPeak_119 hl (k := 7) rfl rfl (by decide) rfl (fun ls hl => ?_)
      refine lv_goto (tgt := 33) hx hb dX6_dateOfLeastPeak_122 (by decide) ?_
      exact hk33  v1 v2 v3 v4 v5 (v6 + 1) _ (lv_sub hl [2, 3, 4, 5, 6, 7, 0] rfl) hV
    · have hV := jT1 hV c6
      refine lv_aload_n hx hb dX6_dateOfLeastPeak_80 rfl (lv_at hl 1 rfl) ?_
      refine va_get (D := D) (ci := 8) (v := .ref (a 36)) (C := RX6) (T := TX6) (N := 7) hx hb hts ju_X6 hown hK hP 0 rfl rfl 3 (by decide) (hts _ jq_2_19) (fun _ h9 => h9) rfl dX6_dateOfLeastPeak_81 ?_
      refine lv_iload_n hx hb dX6_dateOfLeastPeak_84 rfl (lv_at hl 3 rfl) ?_
      refine lv_aload_n hx hb dX6_dateOfLeastPeak_85 rfl (lv_at hl 1 rfl) ?_
      refine lv_iload_n hx hb dX6_dateOfLeastPeak_86 rfl (lv_at hl 2 rfl) ?_
      refine lv_iload_n hx hb dX6_dateOfLeastPeak_87 rfl (lv_at hl 3 rfl) ?_
      refine lv_iload hx hb dX6_dateOfLeastPeak_88 (lv_at hl 7 rfl) ?_
      obtain ⟨r2, hr2, hV⟩ := jBind hV
      refine jVpI C dX6_dateOfLeastPeak_90 (k_X6_datesWith l D G a N M v1 v2 v6 r2 hr2) jy_X6_datesWith jq_23_11 jq_23_12 jq_23_13 ⟨rfl, rfl, Nat.le_of_ble_eq_true rfl, Nat.le_of_ble_eq_true rfl⟩ ⟨Nat.le_of_ble_eq_true rfl, Nat.le_of_ble_eq_true rfl⟩ hP  (ci := 8) (iw := 0) rfl rfl rfl hl (rest := [.int v2, .ref (a 36)]) rfl (Nat.le_of_ble_eq_true rfl) ?_
      obtain ⟨r3, hr3, hV⟩ := jBind hV
      refine jVpI C dX6_dateOfLeastPeak_93 (k_X3_peakIf l D G a N M v2 r2 r3 hr3) jy_X3_peakIf jq_30_0 jq_30_1 jq_30_2 ⟨rfl, rfl, Nat.le_of_ble_eq_true rfl, Nat.le_of_ble_eq_true rfl⟩ ⟨Nat.le_of_ble_eq_true rfl, Nat.le_of_ble_eq_true rfl⟩ (sX6_X3 hP)  (ci := 5) (iw := 0) rfl rfl rfl hl (rest := []) rfl (Nat.le_of_ble_eq_true rfl) ?_
      refine lv_istore (lv' := [(8, .int r3), (7, .int s0), (0, .ref (a 0)), (1, .int v1), (2, .int v2), (3, .int v3), (4, .int v4), (5, .int v5), (6, .int v6)]) hx hb dX6_dateOfLeastPeak_96 hl (by decide) rfl (fun ls hl => ?_)
      refine lv_iload hx hb dX6_dateOfLeastPeak_98 (lv_at hl 6 rfl) ?_
      refine lv_iconst (v := -1) hx hb dX6_dateOfLeastPeak_100 (by decide) ?_
      refine lv_icmp_eq (tgt := 111) hx hb dX6_dateOfLeastPeak_101 (by decide) (fun c5 => ?_) (fun c5 => ?_)
      · have hV := jT1 hV c5
        refine lv_iload hx hb dX6_dateOfLeastPeak_111 (lv_at hl 8 rfl) ?_
        refine lv_istore (lv' := [(4, .int v6), (8, .int r3), (7, .int s0), (0, .ref (a 0)), (1, .int v1), (2, .int v2), (3, .int v3), (5, .int v5), (6, .int v6)]) hx hb dX6_dateOfLeastPeak_113 hl (by decide) rfl (fun ls hl => ?_)
        refine lv_iload hx hb dX6_dateOfLeastPeak_115 (lv_at hl 1 rfl) ?_
        refine lv_istore (lv' := [(5, .int r3), (4, .int v6), (8, .int r3), (7, .int s0), (0, .ref (a 0)), (1, .int v1), (2, .int v2), (3, .int v3), (6, .int v6)]) hx hb dX6_dateOfLeastPeak_117 hl (by decide) rfl (fun ls hl => ?_)
        refine lv_iinc (v := (v6 + 1)) (lv' := [(6, .int (v6 + 1)), (5, .int r3), (4, .int v6), (8, .int r3), (7, .int s0), (0, .ref (a 0)), (1, .int v1), (2, .int v2), (3, .int v3)]) hx hb dX6_dateOfLeastPeak_119 hl (k := 8) rfl rfl (by decide) rfl (fun ls hl => ?_)
        refine lv_goto (tgt := 33) hx hb dX6_dateOfLeastPeak_122 (by decide) ?_
        exact hk33  v1 v2 v3 v6 r3 (v6 + 1) _ (lv_sub hl [5, 6, 7, 8, 2, 1, 0] rfl) hV
      · have hV := jF1 hV c5
        refine lv_iload hx hb dX6_dateOfLeastPeak_104 (lv_at hl 0 rfl) ?_
        refine lv_iload hx hb dX6_dateOfLeastPeak_106 (lv_at hl 7 rfl) ?_
        refine lv_icmp_ge (tgt := 119) hx hb dX6_dateOfLeastPeak_108 (by decide) (fun c4 => ?_) (fun c4 => ?_)
        · have hV := jT1 hV c4
          refine lv_iinc (v := (v6 + 1)) (lv' := [(6, .int (v6 + 1)), (8, .int r3), (7, .int s0), (0, .ref (a 0)), (1, .int v1), (2, .int v2), (3, .int v3), (4, .int v4), (5, .int v5)]) hx hb dX6_dateOfLeastPeak_119 hl (k := 8) rfl rfl (by decide) rfl (fun ls hl => ?_)
          refine lv_goto (tgt := 33) hx hb dX6_dateOfLeastPeak_122 (by decide) ?_
          exact hk33  v1 v2 v3 v4 v5 (v6 + 1) _ (lv_sub hl [3, 4, 5, 6, 7, 8, 0] rfl) hV
        · have hV := jF1 hV c4
          refine lv_iload hx hb dX6_dateOfLeastPeak_111 (lv_at hl 8 rfl) ?_
          refine lv_istore (lv' := [(4, .int v6), (8, .int r3), (7, .int s0), (0, .ref (a 0)), (1, .int v1), (2, .int v2), (3, .int v3), (5, .int v5), (6, .int v6)]) hx hb dX6_dateOfLeastPeak_113 hl (by decide) rfl (fun ls hl => ?_)
          refine lv_iload hx hb dX6_dateOfLeastPeak_115 (lv_at hl 1 rfl) ?_
          refine lv_istore (lv' := [(5, .int r3), (4, .int v6), (8, .int r3), (7, .int s0), (0, .ref (a 0)), (1, .int v1), (2, .int v2), (3, .int v3), (6, .int v6)]) hx hb dX6_dateOfLeastPeak_117 hl (by decide) rfl (fun ls hl => ?_)
          refine lv_iinc (v := (v6 + 1)) (lv' := [(6, .int (v6 + 1)), (5, .int r3), (4, .int v6), (8, .int r3), (7, .int s0), (0, .ref (a 0)), (1, .int v1), (2, .int v2), (3, .int v3)]) hx hb dX6_dateOfLeastPeak_119 hl (k := 8) rfl rfl (by decide) rfl (fun ls hl => ?_)
          refine lv_goto (tgt := 33) hx hb dX6_dateOfLeastPeak_122 (by decide) ?_
          exact hk33  v1 v2 v3 v6 r3 (v6 + 1) _ (lv_sub hl [5, 6, 7, 8, 2, 1, 0] rfl) hV
def D_X6_dateOfLeastPeak_33 (N : Nat)  (M : Nat → Nat → Int32) : Nat → Int32 → Int32 → Int32 → Int32 → Int32 → Int32 → Option Int32
  | 0, _, _, _, _, _, _ => none
  | n + 1, v1, v2, v3, v4, v5, v6 => (if (30 : Int32) ≤ v6 then (some v4) else (if v6 = (rg 24 (M 9) v1) then (D_X6_dateOfLeastPeak_61 N  M (D_X6_dateOfLeastPeak_33 N  M  n)  v1 v2 v3 v4 v5 v6 (1 : Int32)) else (D_X6_dateOfLeastPeak_61 N  M (D_X6_dateOfLeastPeak_33 N  M  n)  v1 v2 v3 v4 v5 v6 (0 : Int32))))
set_option maxHeartbeats 4000000 in
set_option maxRecDepth 100000 in
theorem B_X6_dateOfLeastPeak_33 {p : Program} {l : Launch} {e : Env} {s : State} {m : MethodId} {args : Array Value} {below : List Frame} {meth : Method} {c : Code} {D : va_G} {G : Nat → ClassId} (C : Cx p s m args meth c cX6_dateOfLeastPeak 9 RX6 (some .int) D G) (N : Nat) (a : Nat → Nat) (M : Nat → Nat → Int32) (r : Int32) (hP : va_P D vwCl (wSeas a G M) s.heap) : (∀ (n : Nat) (v1 : Int32) (v2 : Int32) (v3 : Int32) (v4 : Int32) (v5 : Int32) (v6 : Int32) (ls : Array Slot), lv_has ls 9 [(0, .ref (a 0)), (1, .int v1), (2, .int v2), (3, .int v3), (4, .int v4), (5, .int v5), (6, .int v6)] → D_X6_dateOfLeastPeak_33 N  M  n v1 v2 v3 v4 v5 v6 = some r → W p l e ({ frames := 4, cells := 0, slots := 0, locals := 101 } : Room) s m args below meth c s.heap [] 0 0 (MQ below (QcRd (some (.int r))) args s 0 0 nofree) (F0 m 33 ls [])) := by
  have C := C
  obtain ⟨hx, hb, hr, hml, hts, hown, hlocks, hK0⟩ := id C
  have hK := hK0.1
  intro n
  induction n with
  | zero =>
    intro v1 v2 v3 v4 v5 v6 ls hl hV
    rw [D_X6_dateOfLeastPeak_33] at hV
    cases hV
  | succ n ih =>
    intro v1 v2 v3 v4 v5 v6 ls hl hV
    rw [D_X6_dateOfLeastPeak_33] at hV
    refine lv_iload hx hb dX6_dateOfLeastPeak_33 (lv_at hl 6 rfl) ?_
    refine lv_bipush (v := 30) hx hb dX6_dateOfLeastPeak_35 (by decide) ?_
    refine lv_icmp_ge (tgt := 125) hx hb dX6_dateOfLeastPeak_37 (by decide) (fun c10 => ?_) (fun c10 => ?_)
    · have hV := jT1 hV c10
      refine lv_iload hx hb dX6_dateOfLeastPeak_125 (lv_at hl 4 rfl) ?_
      exact pRet C rfl dX6_dateOfLeastPeak_127 rfl (Option.some.inj hV)
    · have hV := jF1 hV c10
      refine lv_iload hx hb dX6_dateOfLeastPeak_40 (lv_at hl 6 rfl) ?_
      refine lv_aload_n hx hb dX6_dateOfLeastPeak_42 rfl (lv_at hl 0 rfl) ?_
      refine va_get (D := D) (ci := 8) (v := .ref (a 37)) (C := RX6) (T := TX6) (N := 7) hx hb hts ju_X6 hown hK hP 0 rfl rfl 4 (by decide) (hts _ jq_2_23) (fun _ h9 => h9) rfl dX6_dateOfLeastPeak_43 ?_
      refine va_getN (D := D) (ci := 4) (v := .ref (a 18)) (C := RX2) (T := TX2) (N := 7) (host := "TheatreSeasons") hx hb hts ju_X2 hown hK (sX6_X2 hP) 0 rfl rfl 3 (by decide) (va_Nw.use rfl (hK0.2 _ jn_15)) (fun _ h9 => h9) rfl dX6_dateOfLeastPeak_46 ?_
      refine lv_iload_n hx hb dX6_dateOfLeastPeak_49 rfl (lv_at hl 1 rfl) ?_
      refine jVpI C dX6_dateOfLeastPeak_50 (kt_X5_get l D G (a 18) (a 19) 24 (Nat.le_of_ble_eq_true rfl) (M 9) v1) jy_X5_get jq_9_5 jq_9_6 jq_9_7 ⟨rfl, rfl, Nat.le_of_ble_eq_true rfl, Nat.le_of_ble_eq_true rfl⟩ ⟨Nat.le_of_ble_eq_true rfl, Nat.le_of_ble_eq_true rfl⟩ (sX2_9 (sX6_X2 hP))  (ci := 7) (iw := 0) rfl rfl rfl hl (rest := [.int v6]) rfl (Nat.le_of_ble_eq_true rfl) ?_
      refine lv_icmp_ne (tgt := 60) hx hb dX6_dateOfLeastPeak_53 (by decide) (fun c9 => ?_) (fun c9 => ?_)
      · have hV := jF1 hV c9
        refine lv_iconst (v := 0) hx hb dX6_dateOfLeastPeak_60 (by decide) ?_
        exact B_X6_dateOfLeastPeak_61 C  N a M r hP (D_X6_dateOfLeastPeak_33 N  M  n) ih  v1 v2 v3 v4 v5 v6 (0 : Int32) _ (lv_sub hl [0, 1, 2, 3, 4, 5, 6] rfl) hV
      · have hV := jT1 hV c9
        refine lv_iconst (v := 1) hx hb dX6_dateOfLeastPeak_56 (by decide) ?_
        refine lv_goto (tgt := 61) hx hb dX6_dateOfLeastPeak_57 (by decide) ?_
        exact B_X6_dateOfLeastPeak_61 C  N a M r hP (D_X6_dateOfLeastPeak_33 N  M  n) ih  v1 v2 v3 v4 v5 v6 (1 : Int32) _ (lv_sub hl [0, 1, 2, 3, 4, 5, 6] rfl) hV
def F_X6_dateOfLeastPeak (N : Nat)  (M : Nat → Nat → Int32) (v1 : Int32) : Option Int32 := (D_X6_dateOfLeastPeak_33 N  M  N  v1 (rg 24 (M 7) v1) (rg 24 (M 8) v1) (-1 : Int32) (0 : Int32) (0 : Int32))
set_option maxHeartbeats 4000000 in
set_option maxRecDepth 100000 in
theorem k_X6_dateOfLeastPeak (l : Launch) (D : va_G) (G : Nat → ClassId) (a : Nat → Nat) (N : Nat) (M : Nat → Nat → Int32) (v1 : Int32) (r : Int32) (hV : F_X6_dateOfLeastPeak N  M v1 = some r) : pM l yX6_dateOfLeastPeak (jws yX6_dateOfLeastPeak cX6_dateOfLeastPeak 9 (some .int)) ({ frames := 4, cells := 0, slots := 0, locals := 101 } : Room) [.ref (a 0), .int v1] D G (wSeas a G M) (some (.int r)) := by
  refine pM_of (by decide +kernel) (Nat.le_of_ble_eq_true rfl) (fun p e s m args below meth c ls C hP hl => ?_)
  have C : Cx p s m args meth c cX6_dateOfLeastPeak 9 RX6 (some .int) D G := C
  obtain ⟨hx, hb, hr, hml, hts, hown, hlocks, hK0⟩ := id C
  have hK := hK0.1
  have hl : lv_has ls 9 [(0, .ref (a 0)), (1, .int v1)] := hl
  rw [F_X6_dateOfLeastPeak] at hV
  refine lv_aload_n hx hb dX6_dateOfLeastPeak_0 rfl (lv_at hl 0 rfl) ?_
  refine va_get (D := D) (ci := 8) (v := .ref (a 37)) (C := RX6) (T := TX6) (N := 7) hx hb hts ju_X6 hown hK hP 0 rfl rfl 4 (by decide) (hts _ jq_2_23) (fun _ h9 => h9) rfl dX6_dateOfLeastPeak_1 ?_
  refine va_getN (D := D) (ci := 4) (v := .ref (a 14)) (C := RX2) (T := TX2) (N := 7) (host := "TheatreSeasons") hx hb hts ju_X2 hown hK (sX6_X2 hP) 0 rfl rfl 1 (by decide) (va_Nw.use rfl (hK0.2 _ jn_11)) (fun _ h9 => h9) rfl dX6_dateOfLeastPeak_4 ?_
  refine lv_iload_n hx hb dX6_dateOfLeastPeak_7 rfl (lv_at hl 1 rfl) ?_
  refine jVpI C dX6_dateOfLeastPeak_8 (kt_X5_get l D G (a 14) (a 15) 24 (Nat.le_of_ble_eq_true rfl) (M 7) v1) jy_X5_get jq_9_5 jq_9_6 jq_9_7 ⟨rfl, rfl, Nat.le_of_ble_eq_true rfl, Nat.le_of_ble_eq_true rfl⟩ ⟨Nat.le_of_ble_eq_true rfl, Nat.le_of_ble_eq_true rfl⟩ (sX2_7 (sX6_X2 hP))  (ci := 7) (iw := 0) rfl rfl rfl hl (rest := []) rfl (Nat.le_of_ble_eq_true rfl) ?_
  refine lv_istore_n (lv' := [(2, .int (rg 24 (M 7) v1)), (0, .ref (a 0)), (1, .int v1)]) hx hb dX6_dateOfLeastPeak_11 rfl hl (by decide) rfl (fun ls hl => ?_)
  refine lv_aload_n hx hb dX6_dateOfLeastPeak_12 rfl (lv_at hl 1 rfl) ?_
  refine va_get (D := D) (ci := 8) (v := .ref (a 37)) (C := RX6) (T := TX6) (N := 7) hx hb hts ju_X6 hown hK hP 0 rfl rfl 4 (by decide) (hts _ jq_2_23) (fun _ h9 => h9) rfl dX6_dateOfLeastPeak_13 ?_
  refine va_getN (D := D) (ci := 4) (v := .ref (a 16)) (C := RX2) (T := TX2) (N := 7) (host := "TheatreSeasons") hx hb hts ju_X2 hown hK (sX6_X2 hP) 0 rfl rfl 2 (by decide) (va_Nw.use rfl (hK0.2 _ jn_13)) (fun _ h9 => h9) rfl dX6_dateOfLeastPeak_16 ?_
  refine lv_iload_n hx hb dX6_dateOfLeastPeak_19 rfl (lv_at hl 2 rfl) ?_
  refine jVpI C dX6_dateOfLeastPeak_20 (kt_X5_get l D G (a 16) (a 17) 24 (Nat.le_of_ble_eq_true rfl) (M 8) v1) jy_X5_get jq_9_5 jq_9_6 jq_9_7 ⟨rfl, rfl, Nat.le_of_ble_eq_true rfl, Nat.le_of_ble_eq_true rfl⟩ ⟨Nat.le_of_ble_eq_true rfl, Nat.le_of_ble_eq_true rfl⟩ (sX2_8 (sX6_X2 hP))  (ci := 7) (iw := 0) rfl rfl rfl hl (rest := []) rfl (Nat.le_of_ble_eq_true rfl) ?_
  refine lv_istore_n (lv' := [(3, .int (rg 24 (M 8) v1)), (2, .int (rg 24 (M 7) v1)), (0, .ref (a 0)), (1, .int v1)]) hx hb dX6_dateOfLeastPeak_23 rfl hl (by decide) rfl (fun ls hl => ?_)
  refine lv_iconst (v := -1) hx hb dX6_dateOfLeastPeak_24 (by decide) ?_
  refine lv_istore (lv' := [(4, .int (-1 : Int32)), (3, .int (rg 24 (M 8) v1)), (2, .int (rg 24 (M 7) v1)), (0, .ref (a 0)), (1, .int v1)]) hx hb dX6_dateOfLeastPeak_25 hl (by decide) rfl (fun ls hl => ?_)
  refine lv_iconst (v := 0) hx hb dX6_dateOfLeastPeak_27 (by decide) ?_
  refine lv_istore (lv' := [(5, .int (0 : Int32)), (4, .int (-1 : Int32)), (3, .int (rg 24 (M 8) v1)), (2, .int (rg 24 (M 7) v1)), (0, .ref (a 0)), (1, .int v1)]) hx hb dX6_dateOfLeastPeak_28 hl (by decide) rfl (fun ls hl => ?_)
  refine lv_iconst (v := 0) hx hb dX6_dateOfLeastPeak_30 (by decide) ?_
  refine lv_istore (lv' := [(6, .int (0 : Int32)), (5, .int (0 : Int32)), (4, .int (-1 : Int32)), (3, .int (rg 24 (M 8) v1)), (2, .int (rg 24 (M 7) v1)), (0, .ref (a 0)), (1, .int v1)]) hx hb dX6_dateOfLeastPeak_31 hl (by decide) rfl (fun ls hl => ?_)
  exact B_X6_dateOfLeastPeak_33 C  N a M r hP   N  v1 (rg 24 (M 7) v1) (rg 24 (M 8) v1) (-1 : Int32) (0 : Int32) (0 : Int32) _ (lv_sub hl [5, 6, 4, 3, 2, 1, 0] rfl) hV
