theorem jy_X6_makeSubscription : jY yX6_makeSubscription cX6_makeSubscription 2 (some .int) 1 := ⟨by decide +kernel, jq_15_7, jq_1_18⟩
def F_X6_makeSubscription (N : Nat)  (M : Nat → Nat → Int32) (v1 : Int32) : Option (Int32 × (Nat → Nat → Int32)) := (if (jIn v1 (1 : Int32) (6 : Int32)) = 0 then (some ((-2 : Int32), M)) else (if (10 : Int32) ≤ (M 0 4) then (some ((-3 : Int32), M)) else ((F_X7_add N M v1).bind (fun r2 => (jlet (mgX7 M r2.2) (fun M3 => (some (r2.1, M3))))))))
set_option maxHeartbeats 4000000 in
set_option maxRecDepth 100000 in
theorem k_X6_makeSubscription (l : Launch) (D : va_G) (G : Nat → ClassId) (a : Nat → Nat) (N : Nat) (M : Nat → Nat → Int32) (v1 : Int32) (r : (Int32 × (Nat → Nat → Int32))) (hV : F_X6_makeSubscription N  M v1 = some r) : mM l yX6_makeSubscription (jws yX6_makeSubscription cX6_makeSubscription 2 (some .int)) ({ frames := 2, cells := 0, slots := 0, locals := 44 } : Room) [.ref (a 0), .int v1] D G (wSeas a G M) (wSeas a G r.2) (some (.int r.1)) := by
  refine mM_of (by decide +kernel) (Nat.le_of_ble_eq_true rfl) (fun p e s m args below meth c ls A C hP hD hA hl => ?_)
  have C : Cx p s m args meth c cX6_makeSubscription 2 RX6 (some .int) D G := C
  have hS : va_S A s.heap s.heap [] := va_S.rf
  obtain ⟨hx, hb, hr, hml, hts, hown, hlocks, hK0⟩ := id C
  have hK := hK0.1
  have hl : lv_has ls 2 [(0, .ref (a 0)), (1, .int v1)] := hl
  rw [F_X6_makeSubscription] at hV
  refine lv_iload_n hx hb dX6_makeSubscription_0 rfl (lv_at hl 1 rfl) ?_
  refine lv_iconst (v := 1) hx hb dX6_makeSubscription_1 (by decide) ?_
  refine lv_bipush (v := 6) hx hb dX6_makeSubscription_2 (by decide) ?_
  refine jSpNI C dX6_makeSubscription_4 (host := "TheatreSeasons") (kt_X8_isWithin l D G    v1 (1 : Int32) (6 : Int32)) jy_X8_isWithin jn_47 jq_10_20 ⟨rfl, rfl, Nat.le_of_ble_eq_true rfl, Nat.le_of_ble_eq_true rfl⟩ ⟨Nat.le_of_ble_eq_true rfl, Nat.le_of_ble_eq_true rfl⟩ jE  hl (rest := []) rfl (Nat.le_of_ble_eq_true rfl) ?_
  refine lv_if_ne (tgt := 13) hx hb dX6_makeSubscription_7 (by decide) (fun c6 => ?_) (fun c6 => ?_)
  · have hV := jF1 hV c6
    refine lv_aload_n hx hb dX6_makeSubscription_13 rfl (lv_at hl 0 rfl) ?_
    refine va_get (D := D) (ci := 8) (v := .ref (a 38)) (C := RX6) (T := TX6) (N := 7) hx hb hts ju_X6 hown hK hP 0 rfl rfl 5 (by decide) (hts _ jq_3_5) (fun _ h9 => h9) rfl dX6_makeSubscription_14 ?_
    refine va_getN (D := D) (ci := 9) (v := .int (M 0 4)) (C := RX7) (T := TX7) (N := 3) (host := "TheatreSeasons") hx hb hts ju_X7 hown hK (sX6_X7 hP) 0 rfl rfl 0 (by decide) (va_Nw.use rfl (hK0.2 _ jn_20)) (fun _ h9 => h9) rfl dX6_makeSubscription_17 ?_
    refine lv_bipush (v := 10) hx hb dX6_makeSubscription_20 (by decide) ?_
    refine lv_icmp_ge (tgt := 36) hx hb dX6_makeSubscription_22 (by decide) (fun c5 => ?_) (fun c5 => ?_)
    · have hV := jT1 hV c5
      refine lv_bipush (v := -3) hx hb dX6_makeSubscription_36 (by decide) ?_
      cases hV
      exact mRet C rfl dX6_makeSubscription_38 rfl rfl hP hS
    · have hV := jF1 hV c5
      refine lv_aload_n hx hb dX6_makeSubscription_25 rfl (lv_at hl 0 rfl) ?_
      refine va_get (D := D) (ci := 8) (v := .ref (a 38)) (C := RX6) (T := TX6) (N := 7) hx hb hts ju_X6 hown hK hP 0 rfl rfl 5 (by decide) (hts _ jq_3_5) (fun _ h9 => h9) rfl dX6_makeSubscription_26 ?_
      refine lv_iload_n hx hb dX6_makeSubscription_29 rfl (lv_at hl 1 rfl) ?_
      obtain ⟨r2, hr2, hV⟩ := jBind hV
      refine jVmI C dX6_makeSubscription_30 (k_X7_add l D G a N M v1 r2 hr2) jy_X7_add jq_15_8 jq_15_9 jq_15_10 ⟨rfl, rfl, Nat.le_of_ble_eq_true rfl, Nat.le_of_ble_eq_true rfl⟩ ⟨Nat.le_of_ble_eq_true rfl, Nat.le_of_ble_eq_true rfl⟩ (sX6_X7 hP) (dX6_X7 hD) hA hS (ci := 9) (iw := 0) rfl rfl rfl hl (rest := []) rfl (Nat.le_of_ble_eq_true rfl) (fun H locs hQ hz hkp hS => ?_)
      obtain ⟨M3, e4, hV⟩ := jLet hV
      have hP : va_P D vwCl (wSeas a G M3) H := by rw [e4]; exact jX6_X7 hP hD hkp hQ
      have hD : va_D A (wSeas a G M3) := jD (w := (wSeas a G M)) rfl hD
      refine lv_goto (tgt := 38) hx hb dX6_makeSubscription_33 (by decide) ?_
      cases hV
      exact mRet C rfl dX6_makeSubscription_38 rfl rfl hP hS
  · have hV := jT1 hV c6
    refine lv_bipush (v := -2) hx hb dX6_makeSubscription_10 (by decide) ?_
    cases hV
    exact mRet C rfl dX6_makeSubscription_12 rfl rfl hP hS
theorem jy_X6_holdSeats : jY yX6_holdSeats cX6_holdSeats 5 (some .int) 2 := ⟨by decide +kernel, jq_15_23, jq_1_18⟩
def F_X6_holdSeats (N : Nat)  (M : Nat → Nat → Int32) (v1 v2 : Int32) : Option (Int32 × (Nat → Nat → Int32)) := ((F_X7_has N M v1).bind (fun r1 => (if r1 = 0 then (some ((-1 : Int32), M)) else ((F_X2_has N M v2).bind (fun r2 => (if r2 = 0 then (some ((-1 : Int32), M)) else ((F_X6_seatsAt N M v2 (2 : Int32)).bind (fun r4 => (if (rg 10 (M 13) v1) ≤ r4 then ((F_X2_isHeldBy N M v1 v2).bind (fun r5 => (if r5 = 0 then ((F_X2_beginHolding N M v1 v2 (rg 10 (M 13) v1)).bind (fun r6 => (jlet (mgX2 M r6) (fun M7 => ((F_X2_heldFor N M7 v1).bind (fun r8 => (some ((bcnt r8), M7)))))))) else (some ((jRef (5 : Int32) v2), M))))) else (some ((jRef (4 : Int32) r4), M)))))))))))
set_option maxHeartbeats 4000000 in
set_option maxRecDepth 100000 in
theorem k_X6_holdSeats (l : Launch) (D : va_G) (G : Nat → ClassId) (a : Nat → Nat) (N : Nat) (M : Nat → Nat → Int32) (v1 v2 : Int32) (r : (Int32 × (Nat → Nat → Int32))) (hV : F_X6_holdSeats N  M v1 v2 = some r) : mM l yX6_holdSeats (jws yX6_holdSeats cX6_holdSeats 5 (some .int)) ({ frames := 3, cells := 0, slots := 0, locals := 67 } : Room) [.ref (a 0), .int v1, .int v2] D G (wSeas a G M) (wSeas a G r.2) (some (.int r.1)) := by
  refine mM_of (by decide +kernel) (Nat.le_of_ble_eq_true rfl) (fun p e s m args below meth c ls A C hP hD hA hl => ?_)
  have C : Cx p s m args meth c cX6_holdSeats 5 RX6 (some .int) D G := C
  have hS : va_S A s.heap s.heap [] := va_S.rf
  obtain ⟨hx, hb, hr, hml, hts, hown, hlocks, hK0⟩ := id C
  have hK := hK0.1
  have hl : lv_has ls 5 [(0, .ref (a 0)), (1, .int v1), (2, .int v2)] := hl
  rw [F_X6_holdSeats] at hV
  refine lv_aload_n hx hb dX6_holdSeats_0 rfl (lv_at hl 0 rfl) ?_
  refine va_get (D := D) (ci := 8) (v := .ref (a 38)) (C := RX6) (T := TX6) (N := 7) hx hb hts ju_X6 hown hK hP 0 rfl rfl 5 (by decide) (hts _ jq_3_5) (fun _ h9 => h9) rfl dX6_holdSeats_1 ?_
  refine lv_iload_n hx hb dX6_holdSeats_4 rfl (lv_at hl 1 rfl) ?_
  obtain ⟨r1, hr1, hV⟩ := jBind hV
  refine jVpI C dX6_holdSeats_5 (k_X7_has l D G a N M v1 r1 hr1) jy_X7_has jq_16_0 jq_16_1 jq_16_2 ⟨rfl, rfl, Nat.le_of_ble_eq_true rfl, Nat.le_of_ble_eq_true rfl⟩ ⟨Nat.le_of_ble_eq_true rfl, Nat.le_of_ble_eq_true rfl⟩ (sX6_X7 hP)  (ci := 9) (iw := 0) rfl rfl rfl hl (rest := []) rfl (Nat.le_of_ble_eq_true rfl) ?_
  refine lv_if_eq (tgt := 22) hx hb dX6_holdSeats_8 (by decide) (fun c16 => ?_) (fun c16 => ?_)
  · have hV := jT1 hV c16
    refine lv_iconst (v := -1) hx hb dX6_holdSeats_22 (by decide) ?_
    cases hV
    exact mRet C rfl dX6_holdSeats_23 rfl rfl hP hS
  · have hV := jF1 hV c16
    refine lv_aload_n hx hb dX6_holdSeats_11 rfl (lv_at hl 0 rfl) ?_
    refine va_get (D := D) (ci := 8) (v := .ref (a 37)) (C := RX6) (T := TX6) (N := 7) hx hb hts ju_X6 hown hK hP 0 rfl rfl 4 (by decide) (hts _ jq_3_1) (fun _ h9 => h9) rfl dX6_holdSeats_12 ?_
    refine lv_iload_n hx hb dX6_holdSeats_15 rfl (lv_at hl 2 rfl) ?_
    obtain ⟨r2, hr2, hV⟩ := jBind hV
    refine jVpI C dX6_holdSeats_16 (k_X2_has l D G a N M v2 r2 hr2) jy_X2_has jq_13_19 jq_13_20 jq_13_21 ⟨rfl, rfl, Nat.le_of_ble_eq_true rfl, Nat.le_of_ble_eq_true rfl⟩ ⟨Nat.le_of_ble_eq_true rfl, Nat.le_of_ble_eq_true rfl⟩ (sX6_X2 hP)  (ci := 4) (iw := 0) rfl rfl rfl hl (rest := []) rfl (Nat.le_of_ble_eq_true rfl) ?_
    refine lv_if_ne (tgt := 24) hx hb dX6_holdSeats_19 (by decide) (fun c15 => ?_) (fun c15 => ?_)
    · have hV := jF1 hV c15
      refine lv_aload_n hx hb dX6_holdSeats_24 rfl (lv_at hl 0 rfl) ?_
      refine va_get (D := D) (ci := 8) (v := .ref (a 38)) (C := RX6) (T := TX6) (N := 7) hx hb hts ju_X6 hown hK hP 0 rfl rfl 5 (by decide) (hts _ jq_3_5) (fun _ h9 => h9) rfl dX6_holdSeats_25 ?_
      refine va_getN (D := D) (ci := 9) (v := .ref (a 26)) (C := RX7) (T := TX7) (N := 3) (host := "TheatreSeasons") hx hb hts ju_X7 hown hK (sX6_X7 hP) 0 rfl rfl 1 (by decide) (va_Nw.use rfl (hK0.2 _ jn_22)) (fun _ h9 => h9) rfl dX6_holdSeats_28 ?_
      refine lv_iload_n hx hb dX6_holdSeats_31 rfl (lv_at hl 1 rfl) ?_
      refine jVpI C dX6_holdSeats_32 (kt_X5_get l D G (a 26) (a 27) 10 (Nat.le_of_ble_eq_true rfl) (M 13) v1) jy_X5_get jq_6_12 jq_6_13 jq_6_14 ⟨rfl, rfl, Nat.le_of_ble_eq_true rfl, Nat.le_of_ble_eq_true rfl⟩ ⟨Nat.le_of_ble_eq_true rfl, Nat.le_of_ble_eq_true rfl⟩ (sX7_13 (sX6_X7 hP))  (ci := 7) (iw := 0) rfl rfl rfl hl (rest := []) rfl (Nat.le_of_ble_eq_true rfl) ?_
      refine lv_istore_n (lv' := [(3, .int (rg 10 (M 13) v1)), (0, .ref (a 0)), (1, .int v1), (2, .int v2)]) hx hb dX6_holdSeats_35 rfl hl (by decide) rfl (fun ls hl => ?_)
      refine lv_aload_n hx hb dX6_holdSeats_36 rfl (lv_at hl 1 rfl) ?_
      refine lv_iload_n hx hb dX6_holdSeats_37 rfl (lv_at hl 3 rfl) ?_
      refine lv_iconst (v := 2) hx hb dX6_holdSeats_38 (by decide) ?_
      obtain ⟨r4, hr4, hV⟩ := jBind hV
      refine jVpI C dX6_holdSeats_39 (k_X6_seatsAt l D G a N M v2 (2 : Int32) r4 hr4) jy_X6_seatsAt jq_6_8 jq_6_9 jq_6_10 ⟨rfl, rfl, Nat.le_of_ble_eq_true rfl, Nat.le_of_ble_eq_true rfl⟩ ⟨Nat.le_of_ble_eq_true rfl, Nat.le_of_ble_eq_true rfl⟩ hP  (ci := 8) (iw := 0) rfl rfl rfl hl (rest := []) rfl (Nat.le_of_ble_eq_true rfl) ?_
      refine lv_istore (lv' := [(4, .int r4), (3, .int (rg 10 (M 13) v1)), (0, .ref (a 0)), (1, .int v1), (2, .int v2)]) hx hb dX6_holdSeats_42 hl (by decide) rfl (fun ls hl => ?_)
      refine lv_iload hx hb dX6_holdSeats_44 (lv_at hl 0 rfl) ?_
      refine lv_iload_n hx hb dX6_holdSeats_46 rfl (lv_at hl 1 rfl) ?_
      refine lv_icmp_ge (tgt := 57) hx hb dX6_holdSeats_47 (by decide) (fun c14 => ?_) (fun c14 => ?_)
      · have hV := jT1 hV c14
        refine lv_aload_n hx hb dX6_holdSeats_57 rfl (lv_at hl 2 rfl) ?_
        refine va_get (D := D) (ci := 8) (v := .ref (a 37)) (C := RX6) (T := TX6) (N := 7) hx hb hts ju_X6 hown hK hP 0 rfl rfl 4 (by decide) (hts _ jq_3_1) (fun _ h9 => h9) rfl dX6_holdSeats_58 ?_
        refine lv_iload_n hx hb dX6_holdSeats_61 rfl (lv_at hl 3 rfl) ?_
        refine lv_iload_n hx hb dX6_holdSeats_62 rfl (lv_at hl 4 rfl) ?_
        obtain ⟨r5, hr5, hV⟩ := jBind hV
        refine jVpI C dX6_holdSeats_63 (k_X2_isHeldBy l D G a N M v1 v2 r5 hr5) jy_X2_isHeldBy jq_16_4 jq_16_5 jq_16_6 ⟨rfl, rfl, Nat.le_of_ble_eq_true rfl, Nat.le_of_ble_eq_true rfl⟩ ⟨Nat.le_of_ble_eq_true rfl, Nat.le_of_ble_eq_true rfl⟩ (sX6_X2 hP)  (ci := 4) (iw := 0) rfl rfl rfl hl (rest := []) rfl (Nat.le_of_ble_eq_true rfl) ?_
        refine lv_if_eq (tgt := 75) hx hb dX6_holdSeats_66 (by decide) (fun c12 => ?_) (fun c12 => ?_)
        · have hV := jT1 hV c12
          refine lv_aload_n hx hb dX6_holdSeats_75 rfl (lv_at hl 2 rfl) ?_
          refine va_get (D := D) (ci := 8) (v := .ref (a 37)) (C := RX6) (T := TX6) (N := 7) hx hb hts ju_X6 hown hK hP 0 rfl rfl 4 (by decide) (hts _ jq_3_1) (fun _ h9 => h9) rfl dX6_holdSeats_76 ?_
          refine lv_iload_n hx hb dX6_holdSeats_79 rfl (lv_at hl 3 rfl) ?_
          refine lv_iload_n hx hb dX6_holdSeats_80 rfl (lv_at hl 4 rfl) ?_
          refine lv_iload_n hx hb dX6_holdSeats_81 rfl (lv_at hl 1 rfl) ?_
          obtain ⟨r6, hr6, hV⟩ := jBind hV
          refine jVmV C dX6_holdSeats_82 (k_X2_beginHolding l D G a N M v1 v2 (rg 10 (M 13) v1) r6 hr6) jy_X2_beginHolding jq_16_8 jq_16_9 jq_16_10 ⟨rfl, rfl, Nat.le_of_ble_eq_true rfl, Nat.le_of_ble_eq_true rfl⟩ ⟨Nat.le_of_ble_eq_true rfl, Nat.le_of_ble_eq_true rfl⟩ (sX6_X2 hP) (dX6_X2 hD) hA hS (ci := 4) (iw := 0) rfl rfl rfl hl (rest := []) rfl (Nat.le_of_ble_eq_true rfl) (fun H locs hQ hz hkp hS => ?_)
          obtain ⟨M7, e10, hV⟩ := jLet hV
          have hP : va_P D vwCl (wSeas a G M7) H := by rw [e10]; exact jX6_X2 hP hD hkp hQ
          have hD : va_D A (wSeas a G M7) := jD (w := (wSeas a G M)) rfl hD
          refine lv_aload_n hx hb dX6_holdSeats_85 rfl (lv_at hl 2 rfl) ?_
          refine va_get (D := D) (ci := 8) (v := .ref (a 37)) (C := RX6) (T := TX6) (N := 7) hx hb hts ju_X6 hown hK hP 0 rfl rfl 4 (by decide) (hts _ jq_3_1) (fun _ h9 => h9) rfl dX6_holdSeats_86 ?_
          refine lv_iload_n hx hb dX6_holdSeats_89 rfl (lv_at hl 3 rfl) ?_
          obtain ⟨r8, hr8, hV⟩ := jBind hV
          refine jVpI C dX6_holdSeats_90 (k_X2_heldFor l D G a N M7 v1 r8 hr8) jy_X2_heldFor jq_16_18 jq_16_19 jq_16_20 ⟨rfl, rfl, Nat.le_of_ble_eq_true rfl, Nat.le_of_ble_eq_true rfl⟩ ⟨Nat.le_of_ble_eq_true rfl, Nat.le_of_ble_eq_true rfl⟩ (sX6_X2 hP)  (ci := 4) (iw := 0) rfl rfl rfl hl (rest := []) rfl (Nat.le_of_ble_eq_true rfl) ?_
          refine jSpI C dX6_holdSeats_93 (kt_bitCount l D G r8) jy_J6_bitCount_0f7a4 jq_16_23 jq_17_0 ⟨rfl, rfl, Nat.le_of_ble_eq_true rfl, Nat.le_of_ble_eq_true rfl⟩ ⟨Nat.le_of_ble_eq_true rfl, Nat.le_of_ble_eq_true rfl⟩ jE hl (rest := []) rfl (Nat.le_of_ble_eq_true rfl) ?_
          cases hV
          exact mRet C rfl dX6_holdSeats_96 rfl rfl hP hS
        · have hV := jF1 hV c12
          refine lv_iconst (v := 5) hx hb dX6_holdSeats_69 (by decide) ?_
          refine lv_iload_n hx hb dX6_holdSeats_70 rfl (lv_at hl 4 rfl) ?_
          refine jSpNI C dX6_holdSeats_71 (host := "TheatreSeasons") (kt_X8_refusal l D G    (5 : Int32) v2) jy_X8_refusal jn_50 jq_13_13 ⟨rfl, rfl, Nat.le_of_ble_eq_true rfl, Nat.le_of_ble_eq_true rfl⟩ ⟨Nat.le_of_ble_eq_true rfl, Nat.le_of_ble_eq_true rfl⟩ jE  hl (rest := []) rfl (Nat.le_of_ble_eq_true rfl) ?_
          cases hV
          exact mRet C rfl dX6_holdSeats_74 rfl rfl hP hS
      · have hV := jF1 hV c14
        refine lv_iconst (v := 4) hx hb dX6_holdSeats_50 (by decide) ?_
        refine lv_iload hx hb dX6_holdSeats_51 (lv_at hl 0 rfl) ?_
        refine jSpNI C dX6_holdSeats_53 (host := "TheatreSeasons") (kt_X8_refusal l D G    (4 : Int32) r4) jy_X8_refusal jn_50 jq_13_13 ⟨rfl, rfl, Nat.le_of_ble_eq_true rfl, Nat.le_of_ble_eq_true rfl⟩ ⟨Nat.le_of_ble_eq_true rfl, Nat.le_of_ble_eq_true rfl⟩ jE  hl (rest := []) rfl (Nat.le_of_ble_eq_true rfl) ?_
        cases hV
        exact mRet C rfl dX6_holdSeats_56 rfl rfl hP hS
    · have hV := jT1 hV c15
      refine lv_iconst (v := -1) hx hb dX6_holdSeats_22 (by decide) ?_
      cases hV
      exact mRet C rfl dX6_holdSeats_23 rfl rfl hP hS
theorem jy_X6_seatsOfAll : jY yX6_seatsOfAll cX6_seatsOfAll 4 (some .int) 1 := ⟨by decide +kernel, jq_6_7, jq_1_18⟩
def D_X6_seatsOfAll_4 (N : Nat)  (M : Nat → Nat → Int32) : Nat → Int32 → Int32 → Int32 → Option Int32
  | 0, _, _, _ => none
  | n + 1, v1, v2, v3 => (if (M 0 3) ≤ v3 then (some v2) else ((F_X6_seatsAt N M v3 v1).bind (fun r1 => (D_X6_seatsOfAll_4 N  M  n  v1 (v2 + r1) (v3 + 1)))))
set_option maxHeartbeats 4000000 in
set_option maxRecDepth 100000 in
theorem B_X6_seatsOfAll_4 {p : Program} {l : Launch} {e : Env} {s : State} {m : MethodId} {args : Array Value} {below : List Frame} {meth : Method} {c : Code} {D : va_G} {G : Nat → ClassId} (C : Cx p s m args meth c cX6_seatsOfAll 4 RX6 (some .int) D G) (N : Nat) (a : Nat → Nat) (M : Nat → Nat → Int32) (r : Int32) (hP : va_P D vwCl (wSeas a G M) s.heap) : (∀ (n : Nat) (v1 : Int32) (v2 : Int32) (v3 : Int32) (ls : Array Slot), lv_has ls 4 [(0, .ref (a 0)), (1, .int v1), (2, .int v2), (3, .int v3)] → D_X6_seatsOfAll_4 N  M  n v1 v2 v3 = some r → W p l e ({ frames := 3, cells := 0, slots := 0, locals := 64 } : Room) s m args below meth c s.heap [] 0 0 (MQ below (QcRd (some (.int r))) args s 0 0 nofree) (F0 m 4 ls [])) := by
  have C := C
  obtain ⟨hx, hb, hr, hml, hts, hown, hlocks, hK0⟩ := id C
  have hK := hK0.1
  intro n
  induction n with
  | zero =>
    intro v1 v2 v3 ls hl hV
    rw [D_X6_seatsOfAll_4] at hV
    cases hV
  | succ n ih =>
    intro v1 v2 v3 ls hl hV
    rw [D_X6_seatsOfAll_4] at hV
    refine lv_iload_n hx hb dX6_seatsOfAll_4 rfl (lv_at hl 3 rfl) ?_
    refine lv_aload_n hx hb dX6_seatsOfAll_5 rfl (lv_at hl 0 rfl) ?_
    refine va_get (D := D) (ci := 8) (v := .ref (a 37)) (C := RX6) (T := TX6) (N := 7) hx hb hts ju_X6 hown hK hP 0 rfl rfl 4 (by decide) (hts _ jq_3_1) (fun _ h9 => h9) rfl dX6_seatsOfAll_6 ?_
    refine va_getN (D := D) (ci := 4) (v := .int (M 0 3)) (C := RX2) (T := TX2) (N := 7) (host := "TheatreSeasons") hx hb hts ju_X2 hown hK (sX6_X2 hP) 0 rfl rfl 0 (by decide) (va_Nw.use rfl (hK0.2 _ jn_9)) (fun _ h9 => h9) rfl dX6_seatsOfAll_9 ?_
    refine lv_icmp_ge (tgt := 30) hx hb dX6_seatsOfAll_12 (by decide) (fun c2 => ?_) (fun c2 => ?_)
    · have hV := jT1 hV c2
      refine lv_iload_n hx hb dX6_seatsOfAll_30 rfl (lv_at hl 2 rfl) ?_
      exact pRet C rfl dX6_seatsOfAll_31 rfl (Option.some.inj hV)
    · have hV := jF1 hV c2
      refine lv_iload_n hx hb dX6_seatsOfAll_15 rfl (lv_at hl 2 rfl) ?_
      refine lv_aload_n hx hb dX6_seatsOfAll_16 rfl (lv_at hl 0 rfl) ?_
      refine lv_iload_n hx hb dX6_seatsOfAll_17 rfl (lv_at hl 3 rfl) ?_
      refine lv_iload_n hx hb dX6_seatsOfAll_18 rfl (lv_at hl 1 rfl) ?_
      obtain ⟨r1, hr1, hV⟩ := jBind hV
      refine jVpI C dX6_seatsOfAll_19 (k_X6_seatsAt l D G a N M v3 v1 r1 hr1) jy_X6_seatsAt jq_6_8 jq_6_9 jq_6_10 ⟨rfl, rfl, Nat.le_of_ble_eq_true rfl, Nat.le_of_ble_eq_true rfl⟩ ⟨Nat.le_of_ble_eq_true rfl, Nat.le_of_ble_eq_true rfl⟩ hP  (ci := 8) (iw := 0) rfl rfl rfl hl (rest := [.int v2]) rfl (Nat.le_of_ble_eq_true rfl) ?_
      refine lv_iadd hx hb dX6_seatsOfAll_22 ?_
      refine lv_istore_n (lv' := [(2, .int (v2 + r1)), (0, .ref (a 0)), (1, .int v1), (3, .int v3)]) hx hb dX6_seatsOfAll_23 rfl hl (by decide) rfl (fun ls hl => ?_)
      refine lv_iinc (v := (v3 + 1)) (lv' := [(3, .int (v3 + 1)), (2, .int (v2 + r1)), (0, .ref (a 0)), (1, .int v1)]) hx hb dX6_seatsOfAll_24 hl (k := 3) rfl rfl (by decide) rfl (fun ls hl => ?_)
      refine lv_goto (tgt := 4) hx hb dX6_seatsOfAll_27 (by decide) ?_
      exact ih  v1 (v2 + r1) (v3 + 1) _ (lv_sub hl [2, 3, 1, 0] rfl) hV
def F_X6_seatsOfAll (N : Nat)  (M : Nat → Nat → Int32) (v1 : Int32) : Option Int32 := (D_X6_seatsOfAll_4 N  M  N  v1 (0 : Int32) (0 : Int32))
set_option maxHeartbeats 4000000 in
set_option maxRecDepth 100000 in
theorem k_X6_seatsOfAll (l : Launch) (D : va_G) (G : Nat → ClassId) (a : Nat → Nat) (N : Nat) (M : Nat → Nat → Int32) (v1 : Int32) (r : Int32) (hV : F_X6_seatsOfAll N  M v1 = some r) : pM l yX6_seatsOfAll (jws yX6_seatsOfAll cX6_seatsOfAll 4 (some .int)) ({ frames := 3, cells := 0, slots := 0, locals := 64 } : Room) [.ref (a 0), .int v1] D G (wSeas a G M) (some (.int r)) := by
  refine pM_of (by decide +kernel) (Nat.le_of_ble_eq_true rfl) (fun p e s m args below meth c ls C hP hl => ?_)
  have C : Cx p s m args meth c cX6_seatsOfAll 4 RX6 (some .int) D G := C
  obtain ⟨hx, hb, hr, hml, hts, hown, hlocks, hK0⟩ := id C
  have hK := hK0.1
  have hl : lv_has ls 4 [(0, .ref (a 0)), (1, .int v1)] := hl
  rw [F_X6_seatsOfAll] at hV
  refine lv_iconst (v := 0) hx hb dX6_seatsOfAll_0 (by decide) ?_
  refine lv_istore_n (lv' := [(2, .int (0 : Int32)), (0, .ref (a 0)), (1, .int v1)]) hx hb dX6_seatsOfAll_1 rfl hl (by decide) rfl (fun ls hl => ?_)
  refine lv_iconst (v := 0) hx hb dX6_seatsOfAll_2 (by decide) ?_
  refine lv_istore_n (lv' := [(3, .int (0 : Int32)), (2, .int (0 : Int32)), (0, .ref (a 0)), (1, .int v1)]) hx hb dX6_seatsOfAll_3 rfl hl (by decide) rfl (fun ls hl => ?_)
  exact B_X6_seatsOfAll_4 C  N a M r hP   N  v1 (0 : Int32) (0 : Int32) _ (lv_sub hl [2, 3, 1, 0] rfl) hV
theorem jy_X6_seatsOnStage : jY yX6_seatsOnStage cX6_seatsOnStage 8 (some .int) 3 := ⟨by decide +kernel, jq_21_9, jq_1_18⟩
def D_X6_seatsOnStage_46 (N : Nat)  (M : Nat → Nat → Int32) : Nat → Int32 → Int32 → Int32 → Int32 → Int32 → Int32 → Option Int32
  | 0, _, _, _, _, _, _ => none
  | n + 1, v1, v3, v4, v5, v6, v7 => (if (M 0 4) ≤ v7 then (if v3 = (1 : Int32) then (some v6) else (some (((rg 3 (M 1) v1) - v5) - v6))) else ((F_X2_isHeldBy N M v7 v4).bind (fun r3 => (if r3 = 0 then (D_X6_seatsOnStage_46 N  M  n  v1 v3 v4 v5 v6 (v7 + 1)) else (D_X6_seatsOnStage_46 N  M  n  v1 v3 v4 v5 (v6 + (rg 10 (M 13) v7)) (v7 + 1))))))
set_option maxHeartbeats 4000000 in
set_option maxRecDepth 100000 in
theorem B_X6_seatsOnStage_46 {p : Program} {l : Launch} {e : Env} {s : State} {m : MethodId} {args : Array Value} {below : List Frame} {meth : Method} {c : Code} {D : va_G} {G : Nat → ClassId} (C : Cx p s m args meth c cX6_seatsOnStage 8 RX6 (some .int) D G) (N : Nat) (a : Nat → Nat) (M : Nat → Nat → Int32) (r : Int32) (hP : va_P D vwCl (wSeas a G M) s.heap) : (∀ (n : Nat) (v1 : Int32) (v3 : Int32) (v4 : Int32) (v5 : Int32) (v6 : Int32) (v7 : Int32) (ls : Array Slot), lv_has ls 8 [(0, .ref (a 0)), (1, .int v1), (3, .int v3), (4, .int v4), (5, .int v5), (6, .int v6), (7, .int v7)] → D_X6_seatsOnStage_46 N  M  n v1 v3 v4 v5 v6 v7 = some r → W p l e ({ frames := 2, cells := 0, slots := 0, locals := 44 } : Room) s m args below meth c s.heap [] 0 0 (MQ below (QcRd (some (.int r))) args s 0 0 nofree) (F0 m 46 ls [])) := by
  have C := C
  obtain ⟨hx, hb, hr, hml, hts, hown, hlocks, hK0⟩ := id C
  have hK := hK0.1
  intro n
  induction n with
  | zero =>
    intro v1 v3 v4 v5 v6 v7 ls hl hV
    rw [D_X6_seatsOnStage_46] at hV
    cases hV
  | succ n ih =>
    intro v1 v3 v4 v5 v6 v7 ls hl hV
    rw [D_X6_seatsOnStage_46] at hV
    refine lv_iload hx hb dX6_seatsOnStage_46 (lv_at hl 6 rfl) ?_
    refine lv_aload_n hx hb dX6_seatsOnStage_48 rfl (lv_at hl 0 rfl) ?_
    refine va_get (D := D) (ci := 8) (v := .ref (a 38)) (C := RX6) (T := TX6) (N := 7) hx hb hts ju_X6 hown hK hP 0 rfl rfl 5 (by decide) (hts _ jq_3_5) (fun _ h9 => h9) rfl dX6_seatsOnStage_49 ?_
    refine va_getN (D := D) (ci := 9) (v := .int (M 0 4)) (C := RX7) (T := TX7) (N := 3) (host := "TheatreSeasons") hx hb hts ju_X7 hown hK (sX6_X7 hP) 0 rfl rfl 0 (by decide) (va_Nw.use rfl (hK0.2 _ jn_20)) (fun _ h9 => h9) rfl dX6_seatsOnStage_52 ?_
    refine lv_icmp_ge (tgt := 95) hx hb dX6_seatsOnStage_55 (by decide) (fun c6 => ?_) (fun c6 => ?_)
    · have hV := jT1 hV c6
      refine lv_iload_n hx hb dX6_seatsOnStage_95 rfl (lv_at hl 2 rfl) ?_
      refine lv_iconst (v := 1) hx hb dX6_seatsOnStage_96 (by decide) ?_
      refine lv_icmp_ne (tgt := 105) hx hb dX6_seatsOnStage_97 (by decide) (fun c2 => ?_) (fun c2 => ?_)
      · have hV := jF1 hV c2
        refine lv_aload_n hx hb dX6_seatsOnStage_105 rfl (lv_at hl 0 rfl) ?_
        refine va_get (D := D) (ci := 8) (v := .ref (a 2)) (C := RX6) (T := TX6) (N := 7) hx hb hts ju_X6 hown hK hP 0 rfl rfl 0 (by decide) (hts _ jq_2_15) (fun _ h9 => h9) rfl dX6_seatsOnStage_106 ?_
        refine lv_iload_n hx hb dX6_seatsOnStage_109 rfl (lv_at hl 1 rfl) ?_
        refine jVpI C dX6_seatsOnStage_110 (kt_X5_get l D G (a 2) (a 3) 3 (Nat.le_of_ble_eq_true rfl) (M 1) v1) jy_X5_get jq_6_12 jq_6_13 jq_6_14 ⟨rfl, rfl, Nat.le_of_ble_eq_true rfl, Nat.le_of_ble_eq_true rfl⟩ ⟨Nat.le_of_ble_eq_true rfl, Nat.le_of_ble_eq_true rfl⟩ (sX6_1 hP)  (ci := 7) (iw := 0) rfl rfl rfl hl (rest := []) rfl (Nat.le_of_ble_eq_true rfl) ?_
        refine lv_iload hx hb dX6_seatsOnStage_113 (lv_at hl 4 rfl) ?_
        refine lv_isub hx hb dX6_seatsOnStage_115 ?_
        refine lv_iload hx hb dX6_seatsOnStage_116 (lv_at hl 5 rfl) ?_
        refine lv_isub hx hb dX6_seatsOnStage_118 ?_
        exact pRet C rfl dX6_seatsOnStage_119 rfl (Option.some.inj hV)
      · have hV := jT1 hV c2
        refine lv_iload hx hb dX6_seatsOnStage_100 (lv_at hl 5 rfl) ?_
        refine lv_goto (tgt := 119) hx hb dX6_seatsOnStage_102 (by decide) ?_
        exact pRet C rfl dX6_seatsOnStage_119 rfl (Option.some.inj hV)
    · have hV := jF1 hV c6
      refine lv_aload_n hx hb dX6_seatsOnStage_58 rfl (lv_at hl 0 rfl) ?_
      refine va_get (D := D) (ci := 8) (v := .ref (a 37)) (C := RX6) (T := TX6) (N := 7) hx hb hts ju_X6 hown hK hP 0 rfl rfl 4 (by decide) (hts _ jq_3_1) (fun _ h9 => h9) rfl dX6_seatsOnStage_59 ?_
      refine lv_iload hx hb dX6_seatsOnStage_62 (lv_at hl 6 rfl) ?_
      refine lv_iload hx hb dX6_seatsOnStage_64 (lv_at hl 3 rfl) ?_
      obtain ⟨r3, hr3, hV⟩ := jBind hV
      refine jVpI C dX6_seatsOnStage_66 (k_X2_isHeldBy l D G a N M v7 v4 r3 hr3) jy_X2_isHeldBy jq_16_4 jq_16_5 jq_16_6 ⟨rfl, rfl, Nat.le_of_ble_eq_true rfl, Nat.le_of_ble_eq_true rfl⟩ ⟨Nat.le_of_ble_eq_true rfl, Nat.le_of_ble_eq_true rfl⟩ (sX6_X2 hP)  (ci := 4) (iw := 0) rfl rfl rfl hl (rest := []) rfl (Nat.le_of_ble_eq_true rfl) ?_
      refine lv_if_eq (tgt := 89) hx hb dX6_seatsOnStage_69 (by decide) (fun c5 => ?_) (fun c5 => ?_)
      · have hV := jT1 hV c5
        refine lv_iinc (v := (v7 + 1)) (lv' := [(7, .int (v7 + 1)), (0, .ref (a 0)), (1, .int v1), (3, .int v3), (4, .int v4), (5, .int v5), (6, .int v6)]) hx hb dX6_seatsOnStage_89 hl (k := 6) rfl rfl (by decide) rfl (fun ls hl => ?_)
        refine lv_goto (tgt := 46) hx hb dX6_seatsOnStage_92 (by decide) ?_
        exact ih  v1 v3 v4 v5 v6 (v7 + 1) _ (lv_sub hl [1, 2, 3, 4, 5, 6, 0] rfl) hV
      · have hV := jF1 hV c5
        refine lv_iload hx hb dX6_seatsOnStage_72 (lv_at hl 5 rfl) ?_
        refine lv_aload_n hx hb dX6_seatsOnStage_74 rfl (lv_at hl 0 rfl) ?_
        refine va_get (D := D) (ci := 8) (v := .ref (a 38)) (C := RX6) (T := TX6) (N := 7) hx hb hts ju_X6 hown hK hP 0 rfl rfl 5 (by decide) (hts _ jq_3_5) (fun _ h9 => h9) rfl dX6_seatsOnStage_75 ?_
        refine va_getN (D := D) (ci := 9) (v := .ref (a 26)) (C := RX7) (T := TX7) (N := 3) (host := "TheatreSeasons") hx hb hts ju_X7 hown hK (sX6_X7 hP) 0 rfl rfl 1 (by decide) (va_Nw.use rfl (hK0.2 _ jn_22)) (fun _ h9 => h9) rfl dX6_seatsOnStage_78 ?_
        refine lv_iload hx hb dX6_seatsOnStage_81 (lv_at hl 6 rfl) ?_
        refine jVpI C dX6_seatsOnStage_83 (kt_X5_get l D G (a 26) (a 27) 10 (Nat.le_of_ble_eq_true rfl) (M 13) v7) jy_X5_get jq_6_12 jq_6_13 jq_6_14 ⟨rfl, rfl, Nat.le_of_ble_eq_true rfl, Nat.le_of_ble_eq_true rfl⟩ ⟨Nat.le_of_ble_eq_true rfl, Nat.le_of_ble_eq_true rfl⟩ (sX7_13 (sX6_X7 hP))  (ci := 7) (iw := 0) rfl rfl rfl hl (rest := [.int v6]) rfl (Nat.le_of_ble_eq_true rfl) ?_
        refine lv_iadd hx hb dX6_seatsOnStage_86 ?_
        refine lv_istore (lv' := [(6, .int (v6 + (rg 10 (M 13) v7))), (0, .ref (a 0)), (1, .int v1), (3, .int v3), (4, .int v4), (5, .int v5), (7, .int v7)]) hx hb dX6_seatsOnStage_87 hl (by decide) rfl (fun ls hl => ?_)
        refine lv_iinc (v := (v7 + 1)) (lv' := [(7, .int (v7 + 1)), (6, .int (v6 + (rg 10 (M 13) v7))), (0, .ref (a 0)), (1, .int v1), (3, .int v3), (4, .int v4), (5, .int v5)]) hx hb dX6_seatsOnStage_89 hl (k := 6) rfl rfl (by decide) rfl (fun ls hl => ?_)
        refine lv_goto (tgt := 46) hx hb dX6_seatsOnStage_92 (by decide) ?_
        exact ih  v1 v3 v4 v5 (v6 + (rg 10 (M 13) v7)) (v7 + 1) _ (lv_sub hl [2, 3, 4, 5, 6, 1, 0] rfl) hV
def F_X6_seatsOnStage (N : Nat)  (M : Nat → Nat → Int32) (v1 v2 v3 : Int32) : Option Int32 := ((F_X2_find N M v1 v2).bind (fun r7 => (if r7 = (-1 : Int32) then (some (0 : Int32)) else (if v3 = 0 then (some (rg 24 (M 10) r7)) else (D_X6_seatsOnStage_46 N  M  N  v1 v3 r7 (rg 24 (M 10) r7) (0 : Int32) (0 : Int32))))))
set_option maxHeartbeats 4000000 in
set_option maxRecDepth 100000 in
theorem k_X6_seatsOnStage (l : Launch) (D : va_G) (G : Nat → ClassId) (a : Nat → Nat) (N : Nat) (M : Nat → Nat → Int32) (v1 v2 v3 : Int32) (r : Int32) (hV : F_X6_seatsOnStage N  M v1 v2 v3 = some r) : pM l yX6_seatsOnStage (jws yX6_seatsOnStage cX6_seatsOnStage 8 (some .int)) ({ frames := 2, cells := 0, slots := 0, locals := 44 } : Room) [.ref (a 0), .int v1, .int v2, .int v3] D G (wSeas a G M) (some (.int r)) := by
  refine pM_of (by decide +kernel) (Nat.le_of_ble_eq_true rfl) (fun p e s m args below meth c ls C hP hl => ?_)
  have C : Cx p s m args meth c cX6_seatsOnStage 8 RX6 (some .int) D G := C
  obtain ⟨hx, hb, hr, hml, hts, hown, hlocks, hK0⟩ := id C
  have hK := hK0.1
  have hl : lv_has ls 8 [(0, .ref (a 0)), (1, .int v1), (2, .int v2), (3, .int v3)] := hl
  rw [F_X6_seatsOnStage] at hV
  refine lv_aload_n hx hb dX6_seatsOnStage_0 rfl (lv_at hl 0 rfl) ?_
  refine va_get (D := D) (ci := 8) (v := .ref (a 37)) (C := RX6) (T := TX6) (N := 7) hx hb hts ju_X6 hown hK hP 0 rfl rfl 4 (by decide) (hts _ jq_3_1) (fun _ h9 => h9) rfl dX6_seatsOnStage_1 ?_
  refine lv_iload_n hx hb dX6_seatsOnStage_4 rfl (lv_at hl 1 rfl) ?_
  refine lv_iload_n hx hb dX6_seatsOnStage_5 rfl (lv_at hl 2 rfl) ?_
  obtain ⟨r7, hr7, hV⟩ := jBind hV
  refine jVpI C dX6_seatsOnStage_6 (k_X2_find l D G a N M v1 v2 r7 hr7) jy_X2_find jq_21_10 jq_19_14 jq_19_15 ⟨rfl, rfl, Nat.le_of_ble_eq_true rfl, Nat.le_of_ble_eq_true rfl⟩ ⟨Nat.le_of_ble_eq_true rfl, Nat.le_of_ble_eq_true rfl⟩ (sX6_X2 hP)  (ci := 4) (iw := 0) rfl rfl rfl hl (rest := []) rfl (Nat.le_of_ble_eq_true rfl) ?_
  refine lv_istore (lv' := [(4, .int r7), (0, .ref (a 0)), (1, .int v1), (2, .int v2), (3, .int v3)]) hx hb dX6_seatsOnStage_9 hl (by decide) rfl (fun ls hl => ?_)
  refine lv_iload hx hb dX6_seatsOnStage_11 (lv_at hl 0 rfl) ?_
  refine lv_iconst (v := -1) hx hb dX6_seatsOnStage_13 (by decide) ?_
  refine lv_icmp_ne (tgt := 19) hx hb dX6_seatsOnStage_14 (by decide) (fun c10 => ?_) (fun c10 => ?_)
  · have hV := jF1 hV c10
    refine lv_aload_n hx hb dX6_seatsOnStage_19 rfl (lv_at hl 1 rfl) ?_
    refine va_get (D := D) (ci := 8) (v := .ref (a 37)) (C := RX6) (T := TX6) (N := 7) hx hb hts ju_X6 hown hK hP 0 rfl rfl 4 (by decide) (hts _ jq_3_1) (fun _ h9 => h9) rfl dX6_seatsOnStage_20 ?_
    refine va_getN (D := D) (ci := 4) (v := .ref (a 20)) (C := RX2) (T := TX2) (N := 7) (host := "TheatreSeasons") hx hb hts ju_X2 hown hK (sX6_X2 hP) 0 rfl rfl 4 (by decide) (va_Nw.use rfl (hK0.2 _ jn_17)) (fun _ h9 => h9) rfl dX6_seatsOnStage_23 ?_
    refine lv_iload hx hb dX6_seatsOnStage_26 (lv_at hl 0 rfl) ?_
    refine jVpI C dX6_seatsOnStage_28 (kt_X5_get l D G (a 20) (a 21) 24 (Nat.le_of_ble_eq_true rfl) (M 10) r7) jy_X5_get jq_6_12 jq_6_13 jq_6_14 ⟨rfl, rfl, Nat.le_of_ble_eq_true rfl, Nat.le_of_ble_eq_true rfl⟩ ⟨Nat.le_of_ble_eq_true rfl, Nat.le_of_ble_eq_true rfl⟩ (sX2_10 (sX6_X2 hP))  (ci := 7) (iw := 0) rfl rfl rfl hl (rest := []) rfl (Nat.le_of_ble_eq_true rfl) ?_
    refine lv_istore (lv' := [(5, .int (rg 24 (M 10) r7)), (4, .int r7), (0, .ref (a 0)), (1, .int v1), (2, .int v2), (3, .int v3)]) hx hb dX6_seatsOnStage_31 hl (by decide) rfl (fun ls hl => ?_)
    refine lv_iload_n hx hb dX6_seatsOnStage_33 rfl (lv_at hl 5 rfl) ?_
    refine lv_if_ne (tgt := 40) hx hb dX6_seatsOnStage_34 (by decide) (fun c9 => ?_) (fun c9 => ?_)
    · have hV := jF1 hV c9
      refine lv_iconst (v := 0) hx hb dX6_seatsOnStage_40 (by decide) ?_
      refine lv_istore (lv' := [(6, .int (0 : Int32)), (5, .int (rg 24 (M 10) r7)), (4, .int r7), (0, .ref (a 0)), (1, .int v1), (2, .int v2), (3, .int v3)]) hx hb dX6_seatsOnStage_41 hl (by decide) rfl (fun ls hl => ?_)
      refine lv_iconst (v := 0) hx hb dX6_seatsOnStage_43 (by decide) ?_
      refine lv_istore (lv' := [(7, .int (0 : Int32)), (6, .int (0 : Int32)), (5, .int (rg 24 (M 10) r7)), (4, .int r7), (0, .ref (a 0)), (1, .int v1), (2, .int v2), (3, .int v3)]) hx hb dX6_seatsOnStage_44 hl (by decide) rfl (fun ls hl => ?_)
      exact B_X6_seatsOnStage_46 C  N a M r hP   N  v1 v3 r7 (rg 24 (M 10) r7) (0 : Int32) (0 : Int32) _ (lv_sub hl [4, 5, 7, 3, 2, 1, 0] rfl) hV
    · have hV := jT1 hV c9
      refine lv_iload hx hb dX6_seatsOnStage_37 (lv_at hl 0 rfl) ?_
      exact pRet C rfl dX6_seatsOnStage_39 rfl (Option.some.inj hV)
  · have hV := jT1 hV c10
    refine lv_iconst (v := 0) hx hb dX6_seatsOnStage_17 (by decide) ?_
    exact pRet C rfl dX6_seatsOnStage_18 rfl (Option.some.inj hV)
theorem jy_X6_seatsOfProduction : jY yX6_seatsOfProduction cX6_seatsOfProduction 6 (some .int) 2 := ⟨by decide +kernel, jq_22_1, jq_1_18⟩
def D_X6_seatsOfProduction_5 (N : Nat)  (M : Nat → Nat → Int32) : Nat → Int32 → Int32 → Int32 → Int32 → Option Int32
  | 0, _, _, _, _ => none
  | n + 1, v1, v2, v3, v4 => (if (M 0 3) ≤ v4 then (some v3) else (if (rg 24 (M 7) v4) = v1 then (if v2 = 0 then ((F_X2_taken N M v4).bind (fun r4 => (D_X6_seatsOfProduction_5 N  M  n  v1 v2 (v3 + r4) (v4 + 1)))) else (D_X6_seatsOfProduction_5 N  M  n  v1 v2 (v3 + (rg 3 (M 1) (rg 24 (M 8) v4))) (v4 + 1))) else (D_X6_seatsOfProduction_5 N  M  n  v1 v2 v3 (v4 + 1))))
set_option maxHeartbeats 4000000 in
set_option maxRecDepth 100000 in
theorem B_X6_seatsOfProduction_5 {p : Program} {l : Launch} {e : Env} {s : State} {m : MethodId} {args : Array Value} {below : List Frame} {meth : Method} {c : Code} {D : va_G} {G : Nat → ClassId} (C : Cx p s m args meth c cX6_seatsOfProduction 6 RX6 (some .int) D G) (N : Nat) (a : Nat → Nat) (M : Nat → Nat → Int32) (r : Int32) (hP : va_P D vwCl (wSeas a G M) s.heap) : (∀ (n : Nat) (v1 : Int32) (v2 : Int32) (v3 : Int32) (v4 : Int32) (ls : Array Slot), lv_has ls 6 [(0, .ref (a 0)), (1, .int v1), (2, .int v2), (3, .int v3), (4, .int v4)] → D_X6_seatsOfProduction_5 N  M  n v1 v2 v3 v4 = some r → W p l e ({ frames := 2, cells := 0, slots := 0, locals := 42 } : Room) s m args below meth c s.heap [] 0 0 (MQ below (QcRd (some (.int r))) args s 0 0 nofree) (F0 m 5 ls [])) := by
  have C := C
  obtain ⟨hx, hb, hr, hml, hts, hown, hlocks, hK0⟩ := id C
  have hK := hK0.1
  intro n
  induction n with
  | zero =>
    intro v1 v2 v3 v4 ls hl hV
    rw [D_X6_seatsOfProduction_5] at hV
    cases hV
  | succ n ih =>
    intro v1 v2 v3 v4 ls hl hV
    rw [D_X6_seatsOfProduction_5] at hV
    refine lv_iload hx hb dX6_seatsOfProduction_5 (lv_at hl 4 rfl) ?_
    refine lv_aload_n hx hb dX6_seatsOfProduction_7 rfl (lv_at hl 0 rfl) ?_
    refine va_get (D := D) (ci := 8) (v := .ref (a 37)) (C := RX6) (T := TX6) (N := 7) hx hb hts ju_X6 hown hK hP 0 rfl rfl 4 (by decide) (hts _ jq_3_1) (fun _ h9 => h9) rfl dX6_seatsOfProduction_8 ?_
    refine va_getN (D := D) (ci := 4) (v := .int (M 0 3)) (C := RX2) (T := TX2) (N := 7) (host := "TheatreSeasons") hx hb hts ju_X2 hown hK (sX6_X2 hP) 0 rfl rfl 0 (by decide) (va_Nw.use rfl (hK0.2 _ jn_9)) (fun _ h9 => h9) rfl dX6_seatsOfProduction_11 ?_
    refine lv_icmp_ge (tgt := 81) hx hb dX6_seatsOfProduction_14 (by decide) (fun c7 => ?_) (fun c7 => ?_)
    · have hV := jT1 hV c7
      refine lv_iload_n hx hb dX6_seatsOfProduction_81 rfl (lv_at hl 3 rfl) ?_
      exact pRet C rfl dX6_seatsOfProduction_82 rfl (Option.some.inj hV)
    · have hV := jF1 hV c7
      refine lv_aload_n hx hb dX6_seatsOfProduction_17 rfl (lv_at hl 0 rfl) ?_
      refine va_get (D := D) (ci := 8) (v := .ref (a 37)) (C := RX6) (T := TX6) (N := 7) hx hb hts ju_X6 hown hK hP 0 rfl rfl 4 (by decide) (hts _ jq_3_1) (fun _ h9 => h9) rfl dX6_seatsOfProduction_18 ?_
      refine va_getN (D := D) (ci := 4) (v := .ref (a 14)) (C := RX2) (T := TX2) (N := 7) (host := "TheatreSeasons") hx hb hts ju_X2 hown hK (sX6_X2 hP) 0 rfl rfl 1 (by decide) (va_Nw.use rfl (hK0.2 _ jn_12)) (fun _ h9 => h9) rfl dX6_seatsOfProduction_21 ?_
      refine lv_iload hx hb dX6_seatsOfProduction_24 (lv_at hl 4 rfl) ?_
      refine jVpI C dX6_seatsOfProduction_26 (kt_X5_get l D G (a 14) (a 15) 24 (Nat.le_of_ble_eq_true rfl) (M 7) v4) jy_X5_get jq_6_12 jq_6_13 jq_6_14 ⟨rfl, rfl, Nat.le_of_ble_eq_true rfl, Nat.le_of_ble_eq_true rfl⟩ ⟨Nat.le_of_ble_eq_true rfl, Nat.le_of_ble_eq_true rfl⟩ (sX2_7 (sX6_X2 hP))  (ci := 7) (iw := 0) rfl rfl rfl hl (rest := []) rfl (Nat.le_of_ble_eq_true rfl) ?_
      refine lv_iload_n hx hb dX6_seatsOfProduction_29 rfl (lv_at hl 1 rfl) ?_
      refine lv_icmp_ne (tgt := 75) hx hb dX6_seatsOfProduction_30 (by decide) (fun c6 => ?_) (fun c6 => ?_)
      · have hV := jF1 hV c6
        refine lv_iinc (v := (v4 + 1)) (lv' := [(4, .int (v4 + 1)), (0, .ref (a 0)), (1, .int v1), (2, .int v2), (3, .int v3)]) hx hb dX6_seatsOfProduction_75 hl (k := 4) rfl rfl (by decide) rfl (fun ls hl => ?_)
        refine lv_goto (tgt := 5) hx hb dX6_seatsOfProduction_78 (by decide) ?_
        exact ih  v1 v2 v3 (v4 + 1) _ (lv_sub hl [1, 2, 3, 4, 0] rfl) hV
      · have hV := jT1 hV c6
        refine lv_aload_n hx hb dX6_seatsOfProduction_33 rfl (lv_at hl 0 rfl) ?_
        refine va_get (D := D) (ci := 8) (v := .ref (a 2)) (C := RX6) (T := TX6) (N := 7) hx hb hts ju_X6 hown hK hP 0 rfl rfl 0 (by decide) (hts _ jq_2_15) (fun _ h9 => h9) rfl dX6_seatsOfProduction_34 ?_
        refine lv_aload_n hx hb dX6_seatsOfProduction_37 rfl (lv_at hl 0 rfl) ?_
        refine va_get (D := D) (ci := 8) (v := .ref (a 37)) (C := RX6) (T := TX6) (N := 7) hx hb hts ju_X6 hown hK hP 0 rfl rfl 4 (by decide) (hts _ jq_3_1) (fun _ h9 => h9) rfl dX6_seatsOfProduction_38 ?_
        refine va_getN (D := D) (ci := 4) (v := .ref (a 16)) (C := RX2) (T := TX2) (N := 7) (host := "TheatreSeasons") hx hb hts ju_X2 hown hK (sX6_X2 hP) 0 rfl rfl 2 (by decide) (va_Nw.use rfl (hK0.2 _ jn_14)) (fun _ h9 => h9) rfl dX6_seatsOfProduction_41 ?_
        refine lv_iload hx hb dX6_seatsOfProduction_44 (lv_at hl 4 rfl) ?_
        refine jVpI C dX6_seatsOfProduction_46 (kt_X5_get l D G (a 16) (a 17) 24 (Nat.le_of_ble_eq_true rfl) (M 8) v4) jy_X5_get jq_6_12 jq_6_13 jq_6_14 ⟨rfl, rfl, Nat.le_of_ble_eq_true rfl, Nat.le_of_ble_eq_true rfl⟩ ⟨Nat.le_of_ble_eq_true rfl, Nat.le_of_ble_eq_true rfl⟩ (sX2_8 (sX6_X2 hP))  (ci := 7) (iw := 0) rfl rfl rfl hl (rest := [.ref (a 2)]) rfl (Nat.le_of_ble_eq_true rfl) ?_
        refine jVpI C dX6_seatsOfProduction_49 (kt_X5_get l D G (a 2) (a 3) 3 (Nat.le_of_ble_eq_true rfl) (M 1) (rg 24 (M 8) v4)) jy_X5_get jq_6_12 jq_6_13 jq_6_14 ⟨rfl, rfl, Nat.le_of_ble_eq_true rfl, Nat.le_of_ble_eq_true rfl⟩ ⟨Nat.le_of_ble_eq_true rfl, Nat.le_of_ble_eq_true rfl⟩ (sX6_1 hP)  (ci := 7) (iw := 0) rfl rfl rfl hl (rest := []) rfl (Nat.le_of_ble_eq_true rfl) ?_
        refine lv_istore (lv' := [(5, .int (rg 3 (M 1) (rg 24 (M 8) v4))), (0, .ref (a 0)), (1, .int v1), (2, .int v2), (3, .int v3), (4, .int v4)]) hx hb dX6_seatsOfProduction_52 hl (by decide) rfl (fun ls hl => ?_)
        refine lv_iload_n hx hb dX6_seatsOfProduction_54 rfl (lv_at hl 4 rfl) ?_
        refine lv_iload_n hx hb dX6_seatsOfProduction_55 rfl (lv_at hl 3 rfl) ?_
        refine lv_if_eq (tgt := 64) hx hb dX6_seatsOfProduction_56 (by decide) (fun c5 => ?_) (fun c5 => ?_)
        · have hV := jT1 hV c5
          refine lv_aload_n hx hb dX6_seatsOfProduction_64 rfl (lv_at hl 1 rfl) ?_
          refine va_get (D := D) (ci := 8) (v := .ref (a 37)) (C := RX6) (T := TX6) (N := 7) hx hb hts ju_X6 hown hK hP 0 rfl rfl 4 (by decide) (hts _ jq_3_1) (fun _ h9 => h9) rfl dX6_seatsOfProduction_65 ?_
          refine lv_iload hx hb dX6_seatsOfProduction_68 (lv_at hl 5 rfl) ?_
          obtain ⟨r4, hr4, hV⟩ := jBind hV
          refine jVpI C dX6_seatsOfProduction_70 (k_X2_taken l D G a N M v4 r4 hr4) jy_X2_taken jq_6_16 jq_6_17 jq_6_18 ⟨rfl, rfl, Nat.le_of_ble_eq_true rfl, Nat.le_of_ble_eq_true rfl⟩ ⟨Nat.le_of_ble_eq_true rfl, Nat.le_of_ble_eq_true rfl⟩ (sX6_X2 hP)  (ci := 4) (iw := 0) rfl rfl rfl hl (rest := [.int v3]) rfl (Nat.le_of_ble_eq_true rfl) ?_
          refine lv_iadd hx hb dX6_seatsOfProduction_73 ?_
          refine lv_istore_n (lv' := [(3, .int (v3 + r4)), (5, .int (rg 3 (M 1) (rg 24 (M 8) v4))), (0, .ref (a 0)), (1, .int v1), (2, .int v2), (4, .int v4)]) hx hb dX6_seatsOfProduction_74 rfl hl (by decide) rfl (fun ls hl => ?_)
          refine lv_iinc (v := (v4 + 1)) (lv' := [(4, .int (v4 + 1)), (3, .int (v3 + r4)), (5, .int (rg 3 (M 1) (rg 24 (M 8) v4))), (0, .ref (a 0)), (1, .int v1), (2, .int v2)]) hx hb dX6_seatsOfProduction_75 hl (k := 5) rfl rfl (by decide) rfl (fun ls hl => ?_)
          refine lv_goto (tgt := 5) hx hb dX6_seatsOfProduction_78 (by decide) ?_
          exact ih  v1 v2 (v3 + r4) (v4 + 1) _ (lv_sub hl [3, 4, 5, 1, 0] rfl) hV
        · have hV := jF1 hV c5
          refine lv_iload hx hb dX6_seatsOfProduction_59 (lv_at hl 0 rfl) ?_
          refine lv_goto (tgt := 73) hx hb dX6_seatsOfProduction_61 (by decide) ?_
          refine lv_iadd hx hb dX6_seatsOfProduction_73 ?_
          refine lv_istore_n (lv' := [(3, .int (v3 + (rg 3 (M 1) (rg 24 (M 8) v4)))), (5, .int (rg 3 (M 1) (rg 24 (M 8) v4))), (0, .ref (a 0)), (1, .int v1), (2, .int v2), (4, .int v4)]) hx hb dX6_seatsOfProduction_74 rfl hl (by decide) rfl (fun ls hl => ?_)
          refine lv_iinc (v := (v4 + 1)) (lv' := [(4, .int (v4 + 1)), (3, .int (v3 + (rg 3 (M 1) (rg 24 (M 8) v4)))), (5, .int (rg 3 (M 1) (rg 24 (M 8) v4))), (0, .ref (a 0)), (1, .int v1), (2, .int v2)]) hx hb dX6_seatsOfProduction_75 hl (k := 5) rfl rfl (by decide) rfl (fun ls hl => ?_)
          refine lv_goto (tgt := 5) hx hb dX6_seatsOfProduction_78 (by decide) ?_
          exact ih  v1 v2 (v3 + (rg 3 (M 1) (rg 24 (M 8) v4))) (v4 + 1) _ (lv_sub hl [3, 4, 5, 1, 0] rfl) hV
def F_X6_seatsOfProduction (N : Nat)  (M : Nat → Nat → Int32) (v1 v2 : Int32) : Option Int32 := (D_X6_seatsOfProduction_5 N  M  N  v1 v2 (0 : Int32) (0 : Int32))
set_option maxHeartbeats 4000000 in
set_option maxRecDepth 100000 in
theorem k_X6_seatsOfProduction (l : Launch) (D : va_G) (G : Nat → ClassId) (a : Nat → Nat) (N : Nat) (M : Nat → Nat → Int32) (v1 v2 : Int32) (r : Int32) (hV : F_X6_seatsOfProduction N  M v1 v2 = some r) : pM l yX6_seatsOfProduction (jws yX6_seatsOfProduction cX6_seatsOfProduction 6 (some .int)) ({ frames := 2, cells := 0, slots := 0, locals := 42 } : Room) [.ref (a 0), .int v1, .int v2] D G (wSeas a G M) (some (.int r)) := by
  refine pM_of (by decide +kernel) (Nat.le_of_ble_eq_true rfl) (fun p e s m args below meth c ls C hP hl => ?_)
  have C : Cx p s m args meth c cX6_seatsOfProduction 6 RX6 (some .int) D G := C
  obtain ⟨hx, hb, hr, hml, hts, hown, hlocks, hK0⟩ := id C
  have hK := hK0.1
  have hl : lv_has ls 6 [(0, .ref (a 0)), (1, .int v1), (2, .int v2)] := hl
  rw [F_X6_seatsOfProduction] at hV
  refine lv_iconst (v := 0) hx hb dX6_seatsOfProduction_0 (by decide) ?_
  refine lv_istore_n (lv' := [(3, .int (0 : Int32)), (0, .ref (a 0)), (1, .int v1), (2, .int v2)]) hx hb dX6_seatsOfProduction_1 rfl hl (by decide) rfl (fun ls hl => ?_)
  refine lv_iconst (v := 0) hx hb dX6_seatsOfProduction_2 (by decide) ?_
  refine lv_istore (lv' := [(4, .int (0 : Int32)), (3, .int (0 : Int32)), (0, .ref (a 0)), (1, .int v1), (2, .int v2)]) hx hb dX6_seatsOfProduction_3 hl (by decide) rfl (fun ls hl => ?_)
  exact B_X6_seatsOfProduction_5 C  N a M r hP   N  v1 v2 (0 : Int32) (0 : Int32) _ (lv_sub hl [2, 3, 4, 1, 0] rfl) hV
theorem jy_X6_takingsOf : jY yX6_takingsOf cX6_takingsOf 5 (some .int) 1 := ⟨by decide +kernel, jq_7_4, jq_1_18⟩
def D_X6_takingsOf_17 (N : Nat)  (M : Nat → Nat → Int32) : Nat → Int32 → Int32 → Int32 → Int32 → Option Int32
  | 0, _, _, _, _ => none
  | n + 1, v1, v2, v3, v4 => (if (M 0 3) ≤ v4 then (some v3) else (if (rg 24 (M 7) v4) = v1 then (jlet ((v3 + (v2 * (rg 24 (M 10) v4))) + (((v2 * (4 : Int32)) / (5 : Int32)) * (rg 24 (M 11) v4))) (fun x4 => (D_X6_takingsOf_17 N  M  n  v1 v2 x4 (v4 + 1)))) else (D_X6_takingsOf_17 N  M  n  v1 v2 v3 (v4 + 1))))
set_option maxHeartbeats 4000000 in
set_option maxRecDepth 100000 in
theorem B_X6_takingsOf_17 {p : Program} {l : Launch} {e : Env} {s : State} {m : MethodId} {args : Array Value} {below : List Frame} {meth : Method} {c : Code} {D : va_G} {G : Nat → ClassId} (C : Cx p s m args meth c cX6_takingsOf 5 RX6 (some .int) D G) (N : Nat) (a : Nat → Nat) (M : Nat → Nat → Int32) (r : Int32) (hP : va_P D vwCl (wSeas a G M) s.heap) : (∀ (n : Nat) (v1 : Int32) (v2 : Int32) (v3 : Int32) (v4 : Int32) (ls : Array Slot), lv_has ls 5 [(0, .ref (a 0)), (1, .int v1), (2, .int v2), (3, .int v3), (4, .int v4)] → D_X6_takingsOf_17 N  M  n v1 v2 v3 v4 = some r → W p l e ({ frames := 1, cells := 0, slots := 0, locals := 21 } : Room) s m args below meth c s.heap [] 0 0 (MQ below (QcRd (some (.int r))) args s 0 0 nofree) (F0 m 17 ls [])) := by
  have C := C
  obtain ⟨hx, hb, hr, hml, hts, hown, hlocks, hK0⟩ := id C
  have hK := hK0.1
  intro n
  induction n with
  | zero =>
    intro v1 v2 v3 v4 ls hl hV
    rw [D_X6_takingsOf_17] at hV
    cases hV
  | succ n ih =>
    intro v1 v2 v3 v4 ls hl hV
    rw [D_X6_takingsOf_17] at hV
    refine lv_iload hx hb dX6_takingsOf_17 (lv_at hl 4 rfl) ?_
    refine lv_aload_n hx hb dX6_takingsOf_19 rfl (lv_at hl 0 rfl) ?_
    refine va_get (D := D) (ci := 8) (v := .ref (a 37)) (C := RX6) (T := TX6) (N := 7) hx hb hts ju_X6 hown hK hP 0 rfl rfl 4 (by decide) (hts _ jq_3_1) (fun _ h9 => h9) rfl dX6_takingsOf_20 ?_
    refine va_getN (D := D) (ci := 4) (v := .int (M 0 3)) (C := RX2) (T := TX2) (N := 7) (host := "TheatreSeasons") hx hb hts ju_X2 hown hK (sX6_X2 hP) 0 rfl rfl 0 (by decide) (va_Nw.use rfl (hK0.2 _ jn_9)) (fun _ h9 => h9) rfl dX6_takingsOf_23 ?_
    refine lv_icmp_ge (tgt := 89) hx hb dX6_takingsOf_26 (by decide) (fun c7 => ?_) (fun c7 => ?_)
    · have hV := jT1 hV c7
      refine lv_iload_n hx hb dX6_takingsOf_89 rfl (lv_at hl 3 rfl) ?_
      exact pRet C rfl dX6_takingsOf_90 rfl (Option.some.inj hV)
    · have hV := jF1 hV c7
      refine lv_aload_n hx hb dX6_takingsOf_29 rfl (lv_at hl 0 rfl) ?_
      refine va_get (D := D) (ci := 8) (v := .ref (a 37)) (C := RX6) (T := TX6) (N := 7) hx hb hts ju_X6 hown hK hP 0 rfl rfl 4 (by decide) (hts _ jq_3_1) (fun _ h9 => h9) rfl dX6_takingsOf_30 ?_
      refine va_getN (D := D) (ci := 4) (v := .ref (a 14)) (C := RX2) (T := TX2) (N := 7) (host := "TheatreSeasons") hx hb hts ju_X2 hown hK (sX6_X2 hP) 0 rfl rfl 1 (by decide) (va_Nw.use rfl (hK0.2 _ jn_12)) (fun _ h9 => h9) rfl dX6_takingsOf_33 ?_
      refine lv_iload hx hb dX6_takingsOf_36 (lv_at hl 4 rfl) ?_
      refine jVpI C dX6_takingsOf_38 (kt_X5_get l D G (a 14) (a 15) 24 (Nat.le_of_ble_eq_true rfl) (M 7) v4) jy_X5_get jq_6_12 jq_6_13 jq_6_14 ⟨rfl, rfl, Nat.le_of_ble_eq_true rfl, Nat.le_of_ble_eq_true rfl⟩ ⟨Nat.le_of_ble_eq_true rfl, Nat.le_of_ble_eq_true rfl⟩ (sX2_7 (sX6_X2 hP))  (ci := 7) (iw := 0) rfl rfl rfl hl (rest := []) rfl (Nat.le_of_ble_eq_true rfl) ?_
      refine lv_iload_n hx hb dX6_takingsOf_41 rfl (lv_at hl 1 rfl) ?_
      refine lv_icmp_ne (tgt := 83) hx hb dX6_takingsOf_42 (by decide) (fun c6 => ?_) (fun c6 => ?_)
      · have hV := jF1 hV c6
        refine lv_iinc (v := (v4 + 1)) (lv' := [(4, .int (v4 + 1)), (0, .ref (a 0)), (1, .int v1), (2, .int v2), (3, .int v3)]) hx hb dX6_takingsOf_83 hl (k := 4) rfl rfl (by decide) rfl (fun ls hl => ?_)
        refine lv_goto (tgt := 17) hx hb dX6_takingsOf_86 (by decide) ?_
        exact ih  v1 v2 v3 (v4 + 1) _ (lv_sub hl [1, 2, 3, 4, 0] rfl) hV
      · have hV := jT1 hV c6
        refine lv_iload_n hx hb dX6_takingsOf_45 rfl (lv_at hl 3 rfl) ?_
        refine lv_iload_n hx hb dX6_takingsOf_46 rfl (lv_at hl 2 rfl) ?_
        refine lv_aload_n hx hb dX6_takingsOf_47 rfl (lv_at hl 0 rfl) ?_
        refine va_get (D := D) (ci := 8) (v := .ref (a 37)) (C := RX6) (T := TX6) (N := 7) hx hb hts ju_X6 hown hK hP 0 rfl rfl 4 (by decide) (hts _ jq_3_1) (fun _ h9 => h9) rfl dX6_takingsOf_48 ?_
        refine va_getN (D := D) (ci := 4) (v := .ref (a 20)) (C := RX2) (T := TX2) (N := 7) (host := "TheatreSeasons") hx hb hts ju_X2 hown hK (sX6_X2 hP) 0 rfl rfl 4 (by decide) (va_Nw.use rfl (hK0.2 _ jn_17)) (fun _ h9 => h9) rfl dX6_takingsOf_51 ?_
        refine lv_iload hx hb dX6_takingsOf_54 (lv_at hl 4 rfl) ?_
        refine jVpI C dX6_takingsOf_56 (kt_X5_get l D G (a 20) (a 21) 24 (Nat.le_of_ble_eq_true rfl) (M 10) v4) jy_X5_get jq_6_12 jq_6_13 jq_6_14 ⟨rfl, rfl, Nat.le_of_ble_eq_true rfl, Nat.le_of_ble_eq_true rfl⟩ ⟨Nat.le_of_ble_eq_true rfl, Nat.le_of_ble_eq_true rfl⟩ (sX2_10 (sX6_X2 hP))  (ci := 7) (iw := 0) rfl rfl rfl hl (rest := [.int v2, .int v3]) rfl (Nat.le_of_ble_eq_true rfl) ?_
        refine lv_imul hx hb dX6_takingsOf_59 ?_
        refine lv_iadd hx hb dX6_takingsOf_60 ?_
        refine lv_istore_n (lv' := [(3, .int (v3 + (v2 * (rg 24 (M 10) v4)))), (0, .ref (a 0)), (1, .int v1), (2, .int v2), (4, .int v4)]) hx hb dX6_takingsOf_61 rfl hl (by decide) rfl (fun ls hl => ?_)
        refine lv_iload_n hx hb dX6_takingsOf_62 rfl (lv_at hl 0 rfl) ?_
        refine lv_iload_n hx hb dX6_takingsOf_63 rfl (lv_at hl 3 rfl) ?_
        refine lv_iconst (v := 4) hx hb dX6_takingsOf_64 (by decide) ?_
        refine lv_imul hx hb dX6_takingsOf_65 ?_
        refine lv_iconst (v := 5) hx hb dX6_takingsOf_66 (by decide) ?_
        refine lv_idiv hx hb dX6_takingsOf_67 (by decide) ?_
        refine lv_aload_n hx hb dX6_takingsOf_68 rfl (lv_at hl 1 rfl) ?_
        refine va_get (D := D) (ci := 8) (v := .ref (a 37)) (C := RX6) (T := TX6) (N := 7) hx hb hts ju_X6 hown hK hP 0 rfl rfl 4 (by decide) (hts _ jq_3_1) (fun _ h9 => h9) rfl dX6_takingsOf_69 ?_
        refine va_getN (D := D) (ci := 4) (v := .ref (a 22)) (C := RX2) (T := TX2) (N := 7) (host := "TheatreSeasons") hx hb hts ju_X2 hown hK (sX6_X2 hP) 0 rfl rfl 5 (by decide) (va_Nw.use rfl (hK0.2 _ jn_18)) (fun _ h9 => h9) rfl dX6_takingsOf_72 ?_
        refine lv_iload hx hb dX6_takingsOf_75 (lv_at hl 4 rfl) ?_
        refine jVpI C dX6_takingsOf_77 (kt_X5_get l D G (a 22) (a 23) 24 (Nat.le_of_ble_eq_true rfl) (M 11) v4) jy_X5_get jq_6_12 jq_6_13 jq_6_14 ⟨rfl, rfl, Nat.le_of_ble_eq_true rfl, Nat.le_of_ble_eq_true rfl⟩ ⟨Nat.le_of_ble_eq_true rfl, Nat.le_of_ble_eq_true rfl⟩ (sX2_11 (sX6_X2 hP))  (ci := 7) (iw := 0) rfl rfl rfl hl (rest := [.int ((v2 * (4 : Int32)) / (5 : Int32)), .int (v3 + (v2 * (rg 24 (M 10) v4)))]) rfl (Nat.le_of_ble_eq_true rfl) ?_
        refine lv_imul hx hb dX6_takingsOf_80 ?_
        refine lv_iadd hx hb dX6_takingsOf_81 ?_
        obtain ⟨x4, e5, hV⟩ := jLet hV
        rw [← e5]
        refine lv_istore_n (lv' := [(3, .int x4), (0, .ref (a 0)), (1, .int v1), (2, .int v2), (4, .int v4)]) hx hb dX6_takingsOf_82 rfl hl (by decide) rfl (fun ls hl => ?_)
        refine lv_iinc (v := (v4 + 1)) (lv' := [(4, .int (v4 + 1)), (3, .int x4), (0, .ref (a 0)), (1, .int v1), (2, .int v2)]) hx hb dX6_takingsOf_83 hl (k := 4) rfl rfl (by decide) rfl (fun ls hl => ?_)
        refine lv_goto (tgt := 17) hx hb dX6_takingsOf_86 (by decide) ?_
        exact ih  v1 v2 x4 (v4 + 1) _ (lv_sub hl [2, 3, 4, 1, 0] rfl) hV
def F_X6_takingsOf (N : Nat)  (M : Nat → Nat → Int32) (v1 : Int32) : Option Int32 := (D_X6_takingsOf_17 N  M  N  v1 (rg 8 (M 4) v1) (0 : Int32) (0 : Int32))
set_option maxHeartbeats 4000000 in
set_option maxRecDepth 100000 in
theorem k_X6_takingsOf (l : Launch) (D : va_G) (G : Nat → ClassId) (a : Nat → Nat) (N : Nat) (M : Nat → Nat → Int32) (v1 : Int32) (r : Int32) (hV : F_X6_takingsOf N  M v1 = some r) : pM l yX6_takingsOf (jws yX6_takingsOf cX6_takingsOf 5 (some .int)) ({ frames := 1, cells := 0, slots := 0, locals := 21 } : Room) [.ref (a 0), .int v1] D G (wSeas a G M) (some (.int r)) := by
  refine pM_of (by decide +kernel) (Nat.le_of_ble_eq_true rfl) (fun p e s m args below meth c ls C hP hl => ?_)
  have C : Cx p s m args meth c cX6_takingsOf 5 RX6 (some .int) D G := C
  obtain ⟨hx, hb, hr, hml, hts, hown, hlocks, hK0⟩ := id C
  have hK := hK0.1
  have hl : lv_has ls 5 [(0, .ref (a 0)), (1, .int v1)] := hl
  rw [F_X6_takingsOf] at hV
  refine lv_aload_n hx hb dX6_takingsOf_0 rfl (lv_at hl 0 rfl) ?_
  refine va_get (D := D) (ci := 8) (v := .ref (a 36)) (C := RX6) (T := TX6) (N := 7) hx hb hts ju_X6 hown hK hP 0 rfl rfl 3 (by decide) (hts _ jq_2_21) (fun _ h9 => h9) rfl dX6_takingsOf_1 ?_
  refine va_getN (D := D) (ci := 5) (v := .ref (a 8)) (C := RX3) (T := TX3) (N := 6) (host := "TheatreSeasons") hx hb hts ju_X3 hown hK (sX6_X3 hP) 0 rfl rfl 3 (by decide) (va_Nw.use rfl (hK0.2 _ jn_5)) (fun _ h9 => h9) rfl dX6_takingsOf_4 ?_
  refine lv_iload_n hx hb dX6_takingsOf_7 rfl (lv_at hl 1 rfl) ?_
  refine jVpI C dX6_takingsOf_8 (kt_X5_get l D G (a 8) (a 9) 8 (Nat.le_of_ble_eq_true rfl) (M 4) v1) jy_X5_get jq_6_12 jq_6_13 jq_6_14 ⟨rfl, rfl, Nat.le_of_ble_eq_true rfl, Nat.le_of_ble_eq_true rfl⟩ ⟨Nat.le_of_ble_eq_true rfl, Nat.le_of_ble_eq_true rfl⟩ (sX3_4 (sX6_X3 hP))  (ci := 7) (iw := 0) rfl rfl rfl hl (rest := []) rfl (Nat.le_of_ble_eq_true rfl) ?_
  refine lv_istore_n (lv' := [(2, .int (rg 8 (M 4) v1)), (0, .ref (a 0)), (1, .int v1)]) hx hb dX6_takingsOf_11 rfl hl (by decide) rfl (fun ls hl => ?_)
  refine lv_iconst (v := 0) hx hb dX6_takingsOf_12 (by decide) ?_
  refine lv_istore_n (lv' := [(3, .int (0 : Int32)), (2, .int (rg 8 (M 4) v1)), (0, .ref (a 0)), (1, .int v1)]) hx hb dX6_takingsOf_13 rfl hl (by decide) rfl (fun ls hl => ?_)
  refine lv_iconst (v := 0) hx hb dX6_takingsOf_14 (by decide) ?_
  refine lv_istore (lv' := [(4, .int (0 : Int32)), (3, .int (0 : Int32)), (2, .int (rg 8 (M 4) v1)), (0, .ref (a 0)), (1, .int v1)]) hx hb dX6_takingsOf_15 hl (by decide) rfl (fun ls hl => ?_)
  exact B_X6_takingsOf_17 C  N a M r hP   N  v1 (rg 8 (M 4) v1) (0 : Int32) (0 : Int32) _ (lv_sub hl [3, 4, 2, 1, 0] rfl) hV
theorem jy_X6_takingsOfAll : jY yX6_takingsOfAll cX6_takingsOfAll 3 (some .int) 0 := ⟨by decide +kernel, jq_7_0, jq_1_18⟩
def D_X6_takingsOfAll_4 (N : Nat)  (M : Nat → Nat → Int32) : Nat → Int32 → Int32 → Option Int32
  | 0, _, _ => none
  | n + 1, v1, v2 => (if (M 0 2) ≤ v2 then (some v1) else ((F_X6_takingsOf N M v2).bind (fun r1 => (D_X6_takingsOfAll_4 N  M  n  (v1 + r1) (v2 + 1)))))
set_option maxHeartbeats 4000000 in
set_option maxRecDepth 100000 in
theorem B_X6_takingsOfAll_4 {p : Program} {l : Launch} {e : Env} {s : State} {m : MethodId} {args : Array Value} {below : List Frame} {meth : Method} {c : Code} {D : va_G} {G : Nat → ClassId} (C : Cx p s m args meth c cX6_takingsOfAll 3 RX6 (some .int) D G) (N : Nat) (a : Nat → Nat) (M : Nat → Nat → Int32) (r : Int32) (hP : va_P D vwCl (wSeas a G M) s.heap) : (∀ (n : Nat) (v1 : Int32) (v2 : Int32) (ls : Array Slot), lv_has ls 3 [(0, .ref (a 0)), (1, .int v1), (2, .int v2)] → D_X6_takingsOfAll_4 N  M  n v1 v2 = some r → W p l e ({ frames := 2, cells := 0, slots := 0, locals := 45 } : Room) s m args below meth c s.heap [] 0 0 (MQ below (QcRd (some (.int r))) args s 0 0 nofree) (F0 m 4 ls [])) := by
  have C := C
  obtain ⟨hx, hb, hr, hml, hts, hown, hlocks, hK0⟩ := id C
  have hK := hK0.1
  intro n
  induction n with
  | zero =>
    intro v1 v2 ls hl hV
    rw [D_X6_takingsOfAll_4] at hV
    cases hV
  | succ n ih =>
    intro v1 v2 ls hl hV
    rw [D_X6_takingsOfAll_4] at hV
    refine lv_iload_n hx hb dX6_takingsOfAll_4 rfl (lv_at hl 2 rfl) ?_
    refine lv_aload_n hx hb dX6_takingsOfAll_5 rfl (lv_at hl 0 rfl) ?_
    refine va_get (D := D) (ci := 8) (v := .ref (a 36)) (C := RX6) (T := TX6) (N := 7) hx hb hts ju_X6 hown hK hP 0 rfl rfl 3 (by decide) (hts _ jq_2_21) (fun _ h9 => h9) rfl dX6_takingsOfAll_6 ?_
    refine va_getN (D := D) (ci := 5) (v := .int (M 0 2)) (C := RX3) (T := TX3) (N := 6) (host := "TheatreSeasons") hx hb hts ju_X3 hown hK (sX6_X3 hP) 0 rfl rfl 0 (by decide) (va_Nw.use rfl (hK0.2 _ jn_0)) (fun _ h9 => h9) rfl dX6_takingsOfAll_9 ?_
    refine lv_icmp_ge (tgt := 29) hx hb dX6_takingsOfAll_12 (by decide) (fun c2 => ?_) (fun c2 => ?_)
    · have hV := jT1 hV c2
      refine lv_iload_n hx hb dX6_takingsOfAll_29 rfl (lv_at hl 1 rfl) ?_
      exact pRet C rfl dX6_takingsOfAll_30 rfl (Option.some.inj hV)
    · have hV := jF1 hV c2
      refine lv_iload_n hx hb dX6_takingsOfAll_15 rfl (lv_at hl 1 rfl) ?_
      refine lv_aload_n hx hb dX6_takingsOfAll_16 rfl (lv_at hl 0 rfl) ?_
      refine lv_iload_n hx hb dX6_takingsOfAll_17 rfl (lv_at hl 2 rfl) ?_
      obtain ⟨r1, hr1, hV⟩ := jBind hV
      refine jVpI C dX6_takingsOfAll_18 (k_X6_takingsOf l D G a N M v2 r1 hr1) jy_X6_takingsOf jq_7_1 jq_7_2 jq_7_3 ⟨rfl, rfl, Nat.le_of_ble_eq_true rfl, Nat.le_of_ble_eq_true rfl⟩ ⟨Nat.le_of_ble_eq_true rfl, Nat.le_of_ble_eq_true rfl⟩ hP  (ci := 8) (iw := 0) rfl rfl rfl hl (rest := [.int v1]) rfl (Nat.le_of_ble_eq_true rfl) ?_
      refine lv_iadd hx hb dX6_takingsOfAll_21 ?_
      refine lv_istore_n (lv' := [(1, .int (v1 + r1)), (0, .ref (a 0)), (2, .int v2)]) hx hb dX6_takingsOfAll_22 rfl hl (by decide) rfl (fun ls hl => ?_)
      refine lv_iinc (v := (v2 + 1)) (lv' := [(2, .int (v2 + 1)), (1, .int (v1 + r1)), (0, .ref (a 0))]) hx hb dX6_takingsOfAll_23 hl (k := 2) rfl rfl (by decide) rfl (fun ls hl => ?_)
      refine lv_goto (tgt := 4) hx hb dX6_takingsOfAll_26 (by decide) ?_
      exact ih  (v1 + r1) (v2 + 1) _ (lv_sub hl [2, 1, 0] rfl) hV
def F_X6_takingsOfAll (N : Nat)  (M : Nat → Nat → Int32) : Option Int32 := (D_X6_takingsOfAll_4 N  M  N  (0 : Int32) (0 : Int32))
set_option maxHeartbeats 4000000 in
set_option maxRecDepth 100000 in
theorem k_X6_takingsOfAll (l : Launch) (D : va_G) (G : Nat → ClassId) (a : Nat → Nat) (N : Nat) (M : Nat → Nat → Int32) (r : Int32) (hV : F_X6_takingsOfAll N  M  = some r) : pM l yX6_takingsOfAll (jws yX6_takingsOfAll cX6_takingsOfAll 3 (some .int)) ({ frames := 2, cells := 0, slots := 0, locals := 45 } : Room) [.ref (a 0)] D G (wSeas a G M) (some (.int r)) := by
  refine pM_of (by decide +kernel) (Nat.le_of_ble_eq_true rfl) (fun p e s m args below meth c ls C hP hl => ?_)
  have C : Cx p s m args meth c cX6_takingsOfAll 3 RX6 (some .int) D G := C
  obtain ⟨hx, hb, hr, hml, hts, hown, hlocks, hK0⟩ := id C
  have hK := hK0.1
  have hl : lv_has ls 3 [(0, .ref (a 0))] := hl
  rw [F_X6_takingsOfAll] at hV
  refine lv_iconst (v := 0) hx hb dX6_takingsOfAll_0 (by decide) ?_
  refine lv_istore_n (lv' := [(1, .int (0 : Int32)), (0, .ref (a 0))]) hx hb dX6_takingsOfAll_1 rfl hl (by decide) rfl (fun ls hl => ?_)
  refine lv_iconst (v := 0) hx hb dX6_takingsOfAll_2 (by decide) ?_
  refine lv_istore_n (lv' := [(2, .int (0 : Int32)), (1, .int (0 : Int32)), (0, .ref (a 0))]) hx hb dX6_takingsOfAll_3 rfl hl (by decide) rfl (fun ls hl => ?_)
  exact B_X6_takingsOfAll_4 C  N a M r hP   N  (0 : Int32) (0 : Int32) _ (lv_sub hl [2, 1, 0] rfl) hV
