/-- a season just made -/
def mS0 : Nat → Nat → Int32 := fun r => cond (Nat.beq r 0) (fun k => cond (Nat.beq k 0) 6 (cond (Nat.beq k 1) 20 0)) (cond (Nat.beq r 1) (rs 3 (rs 3 (rs 3 (fun _ => 0) 0 40) 1 60) 2 80) (fun _ => 0))
theorem jy_X6_init : jY yX6_init cX6_init 1 none 0 := ⟨by decide +kernel, jq_2_10, jq_1_18⟩
set_option maxHeartbeats 4000000 in
set_option maxRecDepth 100000 in
theorem kc_X6_init (l : Launch) (D : va_G) (G : Nat → ClassId) (q : Nat) : iM (S := Nat → Nat) l yX6_init cX6_init 1 ({ frames := 3, cells := 38, slots := 304, locals := 75 } : Room) [.ref q] D G [(q, .inr (8, [.null, .int 0, .int 0, .null, .null, .null, .null]))] (fun a => a 0 = q) (fun a => wSeas a G mS0) 38 304 := by
  refine iM_of (by decide +kernel) rfl (Nat.le_of_ble_eq_true rfl) (fun p e s m args below meth c ls A C hin hP hD hA hl => ?_)
  have C : Cx p s m args meth c cX6_init 1 RX6 none D G := C
  obtain ⟨hx, hb, hr, hml, hts, hown, hlocks, hK0⟩ := id C
  have hK := hK0.1
  have hS : va_S A s.heap s.heap [] := va_S.rf
  have hl : lv_has ls 1 [(0, .ref q)] := hl
  refine lv_aload_n hx hb dX6_init_0 rfl (lv_at hl 0 rfl) ?_
  refine W.objInit hx hb hown (hts _ jq_2_11) (hts _ jq_1_14) (hts _ jq_1_15) rfl (by rw [hml]; exact hl.1) rfl dX6_init_1 (Nat.le_of_ble_eq_true rfl) (Nat.le_of_ble_eq_true rfl) ?_
  refine W.eq (g2 := F0 m 4 ls []) rfl ?_
  refine lv_aload_n hx hb dX6_init_4 rfl (lv_at hl 0 rfl) ?_
  refine jNew (ci := 7) (fs := [.null]) (Cn := RX5) (T := TX5) (N := 1) C ju_X5 tyX5 tyX5_ok jq_2_12 jq_2_13 jq_2_14 hP hD hS hA rfl (fun j hj => match j, hj with | 0, _ => rfl | k + 1, h => absurd h (by omega)) (Nat.le_of_ble_eq_true rfl) (Nat.le_of_ble_eq_true rfl) dX6_init_5 dX6_init_8 (fun q2 H hP hD hS => ?_)
  refine lv_iconst (v := 3) hx hb dX6_init_9 (by decide) ?_
  refine jIni (ws := (q, .inr (8, [.null, .int 0, .int 0, .null, .null, .null, .null])) :: ([] : va_W)) C dX6_init_10 (kc_X5_init l D G q2 3 3 (by decide) (by decide) (Nat.le_of_ble_eq_true rfl)) jy_X5_init rfl jq_3_10 jq_3_11 ⟨rfl, rfl, Nat.le_of_ble_eq_true rfl, Nat.le_of_ble_eq_true rfl⟩ ⟨Nat.le_of_ble_eq_true rfl, Nat.le_of_ble_eq_true rfl⟩ hP hD hS hA hl (As := [.int 3]) rfl (Nat.le_of_ble_eq_true rfl) (fun b2 H locs _ hP hD hS => ?_)
  have hP : va_P D vwCl ((q, .inr (8, [.null, .int 0, .int 0, .null, .null, .null, .null])) :: (wRow q2 b2 3 G (fun _ => 0) : va_W)) H := hP
  have hD : va_D A ((q, .inr (8, [.null, .int 0, .int 0, .null, .null, .null, .null])) :: (wRow q2 b2 3 G (fun _ => 0) : va_W)) := hD
  refine va_putF (D := D) (ci := 8) (v := .ref q2) (ty := (.object "TheatreSeasons$Row")) (C := RX6) (T := TX6) (N := 7) hx hb hts ju_X6 tyX6 tyX6_ok nmX6 hown hK hP hD hS 0 rfl rfl 0 (by decide) (hts _ jq_2_15) (fun _ h9 => h9) rfl hin rfl (by decide +kernel) rfl rfl (Nat.le_of_ble_eq_true rfl) dX6_init_13 (fun H locs hP hD hS => ?_)
  have hP : va_P D vwCl ((q, .inr (8, [.ref q2, .int 0, .int 0, .null, .null, .null, .null])) :: (wRow q2 b2 3 G (fun _ => 0) : va_W)) H := hP
  have hD : va_D A ((q, .inr (8, [.ref q2, .int 0, .int 0, .null, .null, .null, .null])) :: (wRow q2 b2 3 G (fun _ => 0) : va_W)) := hD
  refine lv_aload_n hx hb dX6_init_16 rfl (lv_at hl 0 rfl) ?_
  refine lv_bipush (v := 6) hx hb dX6_init_17 (by decide) ?_
  refine va_put (D := D) (ci := 8) (v := .int 6) (ty := .int) (C := RX6) (T := TX6) (N := 7) hx hb hts ju_X6 tyX6 tyX6_ok nmX6 hown hK hP hD hS 0 rfl rfl 1 (by decide) (hts _ jq_2_16) (fun _ h9 => h9) rfl (by decide +kernel) rfl rfl (Nat.le_of_ble_eq_true rfl) dX6_init_19 (fun H locs hP hD hS => ?_)
  have hP : va_P D vwCl ((q, .inr (8, [.ref q2, .int 6, .int 0, .null, .null, .null, .null])) :: (wRow q2 b2 3 G (fun _ => 0) : va_W)) H := hP
  have hD : va_D A ((q, .inr (8, [.ref q2, .int 6, .int 0, .null, .null, .null, .null])) :: (wRow q2 b2 3 G (fun _ => 0) : va_W)) := hD
  refine lv_aload_n hx hb dX6_init_22 rfl (lv_at hl 0 rfl) ?_
  refine lv_bipush (v := 20) hx hb dX6_init_23 (by decide) ?_
  refine va_put (D := D) (ci := 8) (v := .int 20) (ty := .int) (C := RX6) (T := TX6) (N := 7) hx hb hts ju_X6 tyX6 tyX6_ok nmX6 hown hK hP hD hS 0 rfl rfl 2 (by decide) (hts _ jq_2_17) (fun _ h9 => h9) rfl (by decide +kernel) rfl rfl (Nat.le_of_ble_eq_true rfl) dX6_init_25 (fun H locs hP hD hS => ?_)
  have hP : va_P D vwCl ((q, .inr (8, [.ref q2, .int 6, .int 20, .null, .null, .null, .null])) :: (wRow q2 b2 3 G (fun _ => 0) : va_W)) H := hP
  have hD : va_D A ((q, .inr (8, [.ref q2, .int 6, .int 20, .null, .null, .null, .null])) :: (wRow q2 b2 3 G (fun _ => 0) : va_W)) := hD
  refine lv_aload_n hx hb dX6_init_28 rfl (lv_at hl 0 rfl) ?_
  refine jNew (ci := 5) (fs := [.int 0, .null, .null, .null, .null, .null]) (Cn := RX3) (T := TX3) (N := 6) C ju_X3 tyX3 tyX3_ok jq_2_18 jq_2_19 jq_2_20 hP hD hS hA rfl (fun j hj => match j, hj with | 0, _ => rfl | 1, _ => rfl | 2, _ => rfl | 3, _ => rfl | 4, _ => rfl | 5, _ => rfl | k + 6, h => absurd h (by omega)) (Nat.le_of_ble_eq_true rfl) (Nat.le_of_ble_eq_true rfl) dX6_init_29 dX6_init_32 (fun zP H hP hD hS => ?_)
  refine jIniN (ws := (q, .inr (8, [.ref q2, .int 6, .int 20, .null, .null, .null, .null])) :: (wRow q2 b2 3 G (fun _ => 0) : va_W)) C dX6_init_33 (kc_X3_init l D G zP) jy_X3_init rfl jn_38 jq_3_15 ⟨rfl, rfl, Nat.le_of_ble_eq_true rfl, Nat.le_of_ble_eq_true rfl⟩ ⟨Nat.le_of_ble_eq_true rfl, Nat.le_of_ble_eq_true rfl⟩ hP hD hS hA hl (As := []) rfl (Nat.le_of_ble_eq_true rfl) (fun aP H locs eP hP hD hS => ?_)
  have hP : va_P D vwCl ((q, .inr (8, [.ref q2, .int 6, .int 20, .null, .null, .null, .null])) :: (wRow q2 b2 3 G (fun _ => 0) ++ wProd aP G (fun _ _ => 0) : va_W)) H := hP
  have hD : va_D A ((q, .inr (8, [.ref q2, .int 6, .int 20, .null, .null, .null, .null])) :: (wRow q2 b2 3 G (fun _ => 0) ++ wProd aP G (fun _ _ => 0) : va_W)) := hD
  refine va_putF (D := D) (ci := 8) (v := .ref zP) (ty := (.object "TheatreSeasons$Productions")) (C := RX6) (T := TX6) (N := 7) hx hb hts ju_X6 tyX6 tyX6_ok nmX6 hown hK hP hD hS 0 rfl rfl 3 (by decide) (hts _ jq_2_21) (fun _ h9 => h9) rfl hin rfl (by decide +kernel) rfl rfl (Nat.le_of_ble_eq_true rfl) dX6_init_36 (fun H locs hP hD hS => ?_)
  have hP : va_P D vwCl ((q, .inr (8, [.ref q2, .int 6, .int 20, .ref zP, .null, .null, .null])) :: (wRow q2 b2 3 G (fun _ => 0) ++ wProd aP G (fun _ _ => 0) : va_W)) H := hP
  have hD : va_D A ((q, .inr (8, [.ref q2, .int 6, .int 20, .ref zP, .null, .null, .null])) :: (wRow q2 b2 3 G (fun _ => 0) ++ wProd aP G (fun _ _ => 0) : va_W)) := hD
  refine lv_aload_n hx hb dX6_init_39 rfl (lv_at hl 0 rfl) ?_
  refine jNew (ci := 4) (fs := [.int 0, .null, .null, .null, .null, .null, .null]) (Cn := RX2) (T := TX2) (N := 7) C ju_X2 tyX2 tyX2_ok jq_2_22 jq_2_23 jq_3_0 hP hD hS hA rfl (fun j hj => match j, hj with | 0, _ => rfl | 1, _ => rfl | 2, _ => rfl | 3, _ => rfl | 4, _ => rfl | 5, _ => rfl | 6, _ => rfl | k + 7, h => absurd h (by omega)) (Nat.le_of_ble_eq_true rfl) (Nat.le_of_ble_eq_true rfl) dX6_init_40 dX6_init_43 (fun zF H hP hD hS => ?_)
  refine jIniN (ws := (q, .inr (8, [.ref q2, .int 6, .int 20, .ref zP, .null, .null, .null])) :: (wRow q2 b2 3 G (fun _ => 0) ++ wProd aP G (fun _ _ => 0) : va_W)) C dX6_init_44 (kc_X2_init l D G zF) jy_X2_init rfl jn_39 jq_4_1 ⟨rfl, rfl, Nat.le_of_ble_eq_true rfl, Nat.le_of_ble_eq_true rfl⟩ ⟨Nat.le_of_ble_eq_true rfl, Nat.le_of_ble_eq_true rfl⟩ hP hD hS hA hl (As := []) rfl (Nat.le_of_ble_eq_true rfl) (fun aF H locs eF hP hD hS => ?_)
  have hP : va_P D vwCl ((q, .inr (8, [.ref q2, .int 6, .int 20, .ref zP, .null, .null, .null])) :: (wRow q2 b2 3 G (fun _ => 0) ++ wProd aP G (fun _ _ => 0) ++ wPerf aF G (fun _ _ => 0) : va_W)) H := hP
  have hD : va_D A ((q, .inr (8, [.ref q2, .int 6, .int 20, .ref zP, .null, .null, .null])) :: (wRow q2 b2 3 G (fun _ => 0) ++ wProd aP G (fun _ _ => 0) ++ wPerf aF G (fun _ _ => 0) : va_W)) := hD
  refine va_putF (D := D) (ci := 8) (v := .ref zF) (ty := (.object "TheatreSeasons$Performances")) (C := RX6) (T := TX6) (N := 7) hx hb hts ju_X6 tyX6 tyX6_ok nmX6 hown hK hP hD hS 0 rfl rfl 4 (by decide) (hts _ jq_3_1) (fun _ h9 => h9) rfl hin rfl (by decide +kernel) rfl rfl (Nat.le_of_ble_eq_true rfl) dX6_init_47 (fun H locs hP hD hS => ?_)
  have hP : va_P D vwCl ((q, .inr (8, [.ref q2, .int 6, .int 20, .ref zP, .ref zF, .null, .null])) :: (wRow q2 b2 3 G (fun _ => 0) ++ wProd aP G (fun _ _ => 0) ++ wPerf aF G (fun _ _ => 0) : va_W)) H := hP
  have hD : va_D A ((q, .inr (8, [.ref q2, .int 6, .int 20, .ref zP, .ref zF, .null, .null])) :: (wRow q2 b2 3 G (fun _ => 0) ++ wProd aP G (fun _ _ => 0) ++ wPerf aF G (fun _ _ => 0) : va_W)) := hD
  refine lv_aload_n hx hb dX6_init_50 rfl (lv_at hl 0 rfl) ?_
  refine jNew (ci := 9) (fs := [.int 0, .null, .null]) (Cn := RX7) (T := TX7) (N := 3) C ju_X7 tyX7 tyX7_ok jq_3_2 jq_3_3 jq_3_4 hP hD hS hA rfl (fun j hj => match j, hj with | 0, _ => rfl | 1, _ => rfl | 2, _ => rfl | k + 3, h => absurd h (by omega)) (Nat.le_of_ble_eq_true rfl) (Nat.le_of_ble_eq_true rfl) dX6_init_51 dX6_init_54 (fun zU H hP hD hS => ?_)
  refine jIniN (ws := (q, .inr (8, [.ref q2, .int 6, .int 20, .ref zP, .ref zF, .null, .null])) :: (wRow q2 b2 3 G (fun _ => 0) ++ wProd aP G (fun _ _ => 0) ++ wPerf aF G (fun _ _ => 0) : va_W)) C dX6_init_55 (kc_X7_init l D G zU) jy_X7_init rfl jn_40 jq_4_12 ⟨rfl, rfl, Nat.le_of_ble_eq_true rfl, Nat.le_of_ble_eq_true rfl⟩ ⟨Nat.le_of_ble_eq_true rfl, Nat.le_of_ble_eq_true rfl⟩ hP hD hS hA hl (As := []) rfl (Nat.le_of_ble_eq_true rfl) (fun aU H locs eU hP hD hS => ?_)
  have hP : va_P D vwCl ((q, .inr (8, [.ref q2, .int 6, .int 20, .ref zP, .ref zF, .null, .null])) :: (wRow q2 b2 3 G (fun _ => 0) ++ wProd aP G (fun _ _ => 0) ++ wPerf aF G (fun _ _ => 0) ++ wSubs aU G (fun _ _ => 0) : va_W)) H := hP
  have hD : va_D A ((q, .inr (8, [.ref q2, .int 6, .int 20, .ref zP, .ref zF, .null, .null])) :: (wRow q2 b2 3 G (fun _ => 0) ++ wProd aP G (fun _ _ => 0) ++ wPerf aF G (fun _ _ => 0) ++ wSubs aU G (fun _ _ => 0) : va_W)) := hD
  refine va_putF (D := D) (ci := 8) (v := .ref zU) (ty := (.object "TheatreSeasons$Subscriptions")) (C := RX6) (T := TX6) (N := 7) hx hb hts ju_X6 tyX6 tyX6_ok nmX6 hown hK hP hD hS 0 rfl rfl 5 (by decide) (hts _ jq_3_5) (fun _ h9 => h9) rfl hin rfl (by decide +kernel) rfl rfl (Nat.le_of_ble_eq_true rfl) dX6_init_58 (fun H locs hP hD hS => ?_)
  have hP : va_P D vwCl ((q, .inr (8, [.ref q2, .int 6, .int 20, .ref zP, .ref zF, .ref zU, .null])) :: (wRow q2 b2 3 G (fun _ => 0) ++ wProd aP G (fun _ _ => 0) ++ wPerf aF G (fun _ _ => 0) ++ wSubs aU G (fun _ _ => 0) : va_W)) H := hP
  have hD : va_D A ((q, .inr (8, [.ref q2, .int 6, .int 20, .ref zP, .ref zF, .ref zU, .null])) :: (wRow q2 b2 3 G (fun _ => 0) ++ wProd aP G (fun _ _ => 0) ++ wPerf aF G (fun _ _ => 0) ++ wSubs aU G (fun _ _ => 0) : va_W)) := hD
  refine lv_aload_n hx hb dX6_init_61 rfl (lv_at hl 0 rfl) ?_
  refine jNew (ci := 6) (fs := [.int 0, .null, .null, .null]) (Cn := RX4) (T := TX4) (N := 4) C ju_X4 tyX4 tyX4_ok jq_3_6 jq_3_7 jq_3_8 hP hD hS hA rfl (fun j hj => match j, hj with | 0, _ => rfl | 1, _ => rfl | 2, _ => rfl | 3, _ => rfl | k + 4, h => absurd h (by omega)) (Nat.le_of_ble_eq_true rfl) (Nat.le_of_ble_eq_true rfl) dX6_init_62 dX6_init_65 (fun zQ H hP hD hS => ?_)
  refine jIniN (ws := (q, .inr (8, [.ref q2, .int 6, .int 20, .ref zP, .ref zF, .ref zU, .null])) :: (wRow q2 b2 3 G (fun _ => 0) ++ wProd aP G (fun _ _ => 0) ++ wPerf aF G (fun _ _ => 0) ++ wSubs aU G (fun _ _ => 0) : va_W)) C dX6_init_66 (kc_X4_init l D G zQ) jy_X4_init rfl jn_41 jq_4_19 ⟨rfl, rfl, Nat.le_of_ble_eq_true rfl, Nat.le_of_ble_eq_true rfl⟩ ⟨Nat.le_of_ble_eq_true rfl, Nat.le_of_ble_eq_true rfl⟩ hP hD hS hA hl (As := []) rfl (Nat.le_of_ble_eq_true rfl) (fun aQ H locs eQ hP hD hS => ?_)
  have hP : va_P D vwCl ((q, .inr (8, [.ref q2, .int 6, .int 20, .ref zP, .ref zF, .ref zU, .null])) :: (wRow q2 b2 3 G (fun _ => 0) ++ wProd aP G (fun _ _ => 0) ++ wPerf aF G (fun _ _ => 0) ++ wSubs aU G (fun _ _ => 0) ++ wReqs aQ G (fun _ _ => 0) : va_W)) H := hP
  have hD : va_D A ((q, .inr (8, [.ref q2, .int 6, .int 20, .ref zP, .ref zF, .ref zU, .null])) :: (wRow q2 b2 3 G (fun _ => 0) ++ wProd aP G (fun _ _ => 0) ++ wPerf aF G (fun _ _ => 0) ++ wSubs aU G (fun _ _ => 0) ++ wReqs aQ G (fun _ _ => 0) : va_W)) := hD
  refine va_putF (D := D) (ci := 8) (v := .ref zQ) (ty := (.object "TheatreSeasons$Requests")) (C := RX6) (T := TX6) (N := 7) hx hb hts ju_X6 tyX6 tyX6_ok nmX6 hown hK hP hD hS 0 rfl rfl 6 (by decide) (hts _ jq_3_9) (fun _ h9 => h9) rfl hin rfl (by decide +kernel) rfl rfl (Nat.le_of_ble_eq_true rfl) dX6_init_69 (fun H locs hP hD hS => ?_)
  have hP : va_P D vwCl ((q, .inr (8, [.ref q2, .int 6, .int 20, .ref zP, .ref zF, .ref zU, .ref zQ])) :: (wRow q2 b2 3 G (fun _ => 0) ++ wProd aP G (fun _ _ => 0) ++ wPerf aF G (fun _ _ => 0) ++ wSubs aU G (fun _ _ => 0) ++ wReqs aQ G (fun _ _ => 0) : va_W)) H := hP
  have hD : va_D A ((q, .inr (8, [.ref q2, .int 6, .int 20, .ref zP, .ref zF, .ref zU, .ref zQ])) :: (wRow q2 b2 3 G (fun _ => 0) ++ wProd aP G (fun _ _ => 0) ++ wPerf aF G (fun _ _ => 0) ++ wSubs aU G (fun _ _ => 0) ++ wReqs aQ G (fun _ _ => 0) : va_W)) := hD
  refine lv_aload_n hx hb dX6_init_72 rfl (lv_at hl 0 rfl) ?_
  refine va_get (D := D) (ci := 8) (v := .ref q2) (C := RX6) (T := TX6) (N := 7) hx hb hts ju_X6 hown hK hP 0 rfl rfl 0 (by decide) (hts _ jq_2_15) (fun _ h9 => h9) rfl dX6_init_73 ?_
  refine lv_iconst (v := 0) hx hb dX6_init_76 (by decide) ?_
  refine lv_bipush (v := 40) hx hb dX6_init_77 (by decide) ?_
  have hP : va_P D vwCl (([(q, .inr (8, [.ref q2, .int 6, .int 20, .ref zP, .ref zF, .ref zU, .ref zQ]))] : va_W) ++ ((wRow q2 b2 3 G (fun _ => 0) : va_W) ++ (wProd aP G (fun _ _ => 0) ++ (wPerf aF G (fun _ _ => 0) ++ (wSubs aU G (fun _ _ => 0) ++ wReqs aQ G (fun _ _ => 0)))))) H := hP
  have hD : va_D A (([(q, .inr (8, [.ref q2, .int 6, .int 20, .ref zP, .ref zF, .ref zU, .ref zQ]))] : va_W) ++ ((wRow q2 b2 3 G (fun _ => 0) : va_W) ++ (wProd aP G (fun _ _ => 0) ++ (wPerf aF G (fun _ _ => 0) ++ (wSubs aU G (fun _ _ => 0) ++ wReqs aQ G (fun _ _ => 0)))))) := hD
  refine jVmV C dX6_init_79 (kt_X5_set l D G q2 b2 3 (Nat.le_of_ble_eq_true rfl) (fun _ => 0) 0 40) jy_X5_set jq_5_3 jq_5_4 jq_5_5 ⟨rfl, rfl, Nat.le_of_ble_eq_true rfl, Nat.le_of_ble_eq_true rfl⟩ ⟨Nat.le_of_ble_eq_true rfl, Nat.le_of_ble_eq_true rfl⟩ (jMidP hP) (jMidD hD) hA hS (ci := 7) (iw := 0) rfl rfl rfl hl (rest := []) rfl (Nat.le_of_ble_eq_true rfl) (fun H1 locs hQ hz hkp hS => ?_)
  have hP := jMidJoin (pre := ([(q, .inr (8, [.ref q2, .int 6, .int 20, .ref zP, .ref zF, .ref zU, .ref zQ]))] : va_W)) (mid := wRow q2 b2 3 G (fun _ => 0)) (mid' := wRow q2 b2 3 G (rs 3 (fun _ => 0) 0 40)) (post := (wProd aP G (fun _ _ => 0) ++ (wPerf aF G (fun _ _ => 0) ++ (wSubs aU G (fun _ _ => 0) ++ wReqs aQ G (fun _ _ => 0))))) hP hD hkp hQ
  have hD : va_D A (([(q, .inr (8, [.ref q2, .int 6, .int 20, .ref zP, .ref zF, .ref zU, .ref zQ]))] : va_W) ++ ((wRow q2 b2 3 G (rs 3 (fun _ => 0) 0 40) : va_W) ++ (wProd aP G (fun _ _ => 0) ++ (wPerf aF G (fun _ _ => 0) ++ (wSubs aU G (fun _ _ => 0) ++ wReqs aQ G (fun _ _ => 0)))))) := by
    refine jD ?_ hD
    rfl
  clear hQ hz hkp
  skip
  generalize H1 = H at hP hS ⊢
  refine lv_aload_n hx hb dX6_init_82 rfl (lv_at hl 0 rfl) ?_
  refine va_get (D := D) (ci := 8) (v := .ref q2) (C := RX6) (T := TX6) (N := 7) hx hb hts ju_X6 hown hK hP 0 rfl rfl 0 (by decide) (hts _ jq_2_15) (fun _ h9 => h9) rfl dX6_init_83 ?_
  refine lv_iconst (v := 1) hx hb dX6_init_86 (by decide) ?_
  refine lv_bipush (v := 60) hx hb dX6_init_87 (by decide) ?_
  have hP : va_P D vwCl (([(q, .inr (8, [.ref q2, .int 6, .int 20, .ref zP, .ref zF, .ref zU, .ref zQ]))] : va_W) ++ ((wRow q2 b2 3 G (rs 3 (fun _ => 0) 0 40) : va_W) ++ (wProd aP G (fun _ _ => 0) ++ (wPerf aF G (fun _ _ => 0) ++ (wSubs aU G (fun _ _ => 0) ++ wReqs aQ G (fun _ _ => 0)))))) H := hP
  have hD : va_D A (([(q, .inr (8, [.ref q2, .int 6, .int 20, .ref zP, .ref zF, .ref zU, .ref zQ]))] : va_W) ++ ((wRow q2 b2 3 G (rs 3 (fun _ => 0) 0 40) : va_W) ++ (wProd aP G (fun _ _ => 0) ++ (wPerf aF G (fun _ _ => 0) ++ (wSubs aU G (fun _ _ => 0) ++ wReqs aQ G (fun _ _ => 0)))))) := hD
  refine jVmV C dX6_init_89 (kt_X5_set l D G q2 b2 3 (Nat.le_of_ble_eq_true rfl) (rs 3 (fun _ => 0) 0 40) 1 60) jy_X5_set jq_5_3 jq_5_4 jq_5_5 ⟨rfl, rfl, Nat.le_of_ble_eq_true rfl, Nat.le_of_ble_eq_true rfl⟩ ⟨Nat.le_of_ble_eq_true rfl, Nat.le_of_ble_eq_true rfl⟩ (jMidP hP) (jMidD hD) hA hS (ci := 7) (iw := 0) rfl rfl rfl hl (rest := []) rfl (Nat.le_of_ble_eq_true rfl) (fun H1 locs hQ hz hkp hS => ?_)
  have hP := jMidJoin (pre := ([(q, .inr (8, [.ref q2, .int 6, .int 20, .ref zP, .ref zF, .ref zU, .ref zQ]))] : va_W)) (mid := wRow q2 b2 3 G (rs 3 (fun _ => 0) 0 40)) (mid' := wRow q2 b2 3 G (rs 3 (rs 3 (fun _ => 0) 0 40) 1 60)) (post := (wProd aP G (fun _ _ => 0) ++ (wPerf aF G (fun _ _ => 0) ++ (wSubs aU G (fun _ _ => 0) ++ wReqs aQ G (fun _ _ => 0))))) hP hD hkp hQ
  have hD : va_D A (([(q, .inr (8, [.ref q2, .int 6, .int 20, .ref zP, .ref zF, .ref zU, .ref zQ]))] : va_W) ++ ((wRow q2 b2 3 G (rs 3 (rs 3 (fun _ => 0) 0 40) 1 60) : va_W) ++ (wProd aP G (fun _ _ => 0) ++ (wPerf aF G (fun _ _ => 0) ++ (wSubs aU G (fun _ _ => 0) ++ wReqs aQ G (fun _ _ => 0)))))) := by
    refine jD ?_ hD
    rfl
  clear hQ hz hkp
  skip
  generalize H1 = H at hP hS ⊢
  refine lv_aload_n hx hb dX6_init_92 rfl (lv_at hl 0 rfl) ?_
  refine va_get (D := D) (ci := 8) (v := .ref q2) (C := RX6) (T := TX6) (N := 7) hx hb hts ju_X6 hown hK hP 0 rfl rfl 0 (by decide) (hts _ jq_2_15) (fun _ h9 => h9) rfl dX6_init_93 ?_
  refine lv_iconst (v := 2) hx hb dX6_init_96 (by decide) ?_
  refine lv_bipush (v := 80) hx hb dX6_init_97 (by decide) ?_
  have hP : va_P D vwCl (([(q, .inr (8, [.ref q2, .int 6, .int 20, .ref zP, .ref zF, .ref zU, .ref zQ]))] : va_W) ++ ((wRow q2 b2 3 G (rs 3 (rs 3 (fun _ => 0) 0 40) 1 60) : va_W) ++ (wProd aP G (fun _ _ => 0) ++ (wPerf aF G (fun _ _ => 0) ++ (wSubs aU G (fun _ _ => 0) ++ wReqs aQ G (fun _ _ => 0)))))) H := hP
  have hD : va_D A (([(q, .inr (8, [.ref q2, .int 6, .int 20, .ref zP, .ref zF, .ref zU, .ref zQ]))] : va_W) ++ ((wRow q2 b2 3 G (rs 3 (rs 3 (fun _ => 0) 0 40) 1 60) : va_W) ++ (wProd aP G (fun _ _ => 0) ++ (wPerf aF G (fun _ _ => 0) ++ (wSubs aU G (fun _ _ => 0) ++ wReqs aQ G (fun _ _ => 0)))))) := hD
  refine jVmV C dX6_init_99 (kt_X5_set l D G q2 b2 3 (Nat.le_of_ble_eq_true rfl) (rs 3 (rs 3 (fun _ => 0) 0 40) 1 60) 2 80) jy_X5_set jq_5_3 jq_5_4 jq_5_5 ⟨rfl, rfl, Nat.le_of_ble_eq_true rfl, Nat.le_of_ble_eq_true rfl⟩ ⟨Nat.le_of_ble_eq_true rfl, Nat.le_of_ble_eq_true rfl⟩ (jMidP hP) (jMidD hD) hA hS (ci := 7) (iw := 0) rfl rfl rfl hl (rest := []) rfl (Nat.le_of_ble_eq_true rfl) (fun H1 locs hQ hz hkp hS => ?_)
  have hP := jMidJoin (pre := ([(q, .inr (8, [.ref q2, .int 6, .int 20, .ref zP, .ref zF, .ref zU, .ref zQ]))] : va_W)) (mid := wRow q2 b2 3 G (rs 3 (rs 3 (fun _ => 0) 0 40) 1 60)) (mid' := wRow q2 b2 3 G (rs 3 (rs 3 (rs 3 (fun _ => 0) 0 40) 1 60) 2 80)) (post := (wProd aP G (fun _ _ => 0) ++ (wPerf aF G (fun _ _ => 0) ++ (wSubs aU G (fun _ _ => 0) ++ wReqs aQ G (fun _ _ => 0))))) hP hD hkp hQ
  have hD : va_D A (([(q, .inr (8, [.ref q2, .int 6, .int 20, .ref zP, .ref zF, .ref zU, .ref zQ]))] : va_W) ++ ((wRow q2 b2 3 G (rs 3 (rs 3 (rs 3 (fun _ => 0) 0 40) 1 60) 2 80) : va_W) ++ (wProd aP G (fun _ _ => 0) ++ (wPerf aF G (fun _ _ => 0) ++ (wSubs aU G (fun _ _ => 0) ++ wReqs aQ G (fun _ _ => 0)))))) := by
    refine jD ?_ hD
    rfl
  clear hQ hz hkp
  skip
  generalize H1 = H at hP hS ⊢
  rw [← eP, ← eF, ← eU, ← eQ] at hP hD
  exact iRet C dX6_init_102 (fun k => cond (Nat.beq k 0) q (cond (Nat.beq k 2) q2 (cond (Nat.beq k 3) b2 (cond (Nat.beq k 36) (aP 36) (cond (Nat.beq k 37) (aF 37) (cond (Nat.beq k 38) (aU 38) (cond (Nat.beq k 39) (aQ 39) (cond (Nat.ble 4 k && Nat.ble k 13) (aP k) (cond (Nat.ble 14 k && Nat.ble k 25) (aF k) (cond (Nat.ble 26 k && Nat.ble k 29) (aU k) (aQ k)))))))))))  rfl hP hD hS (Nat.le_of_ble_eq_true rfl) (Nat.le_of_ble_eq_true rfl)
theorem jy_X1_init : jY yX1_init cX1_init 1 none 0 := ⟨by decide +kernel, jq_5_15, jq_2_3⟩
set_option maxHeartbeats 4000000 in
set_option maxRecDepth 100000 in
theorem kc_X1_init (l : Launch) (D : va_G) (G : Nat → ClassId) (q : Nat) : iM (S := Nat → Nat) l yX1_init cX1_init 1 ({ frames := 2, cells := 3, slots := 64, locals := 45 } : Room) [.ref q] D G [(q, .inr (3, [.null, .int 0, .int 0, .int 0, .null]))] (fun a => a 3 = q) (fun a => wInp a G (fun _ _ => 0)) 3 64 := by
  refine iM_of (by decide +kernel) rfl (Nat.le_of_ble_eq_true rfl) (fun p e s m args below meth c ls A C hin hP hD hA hl => ?_)
  have C : Cx p s m args meth c cX1_init 1 RX1 none D G := C
  obtain ⟨hx, hb, hr, hml, hts, hown, hlocks, hK0⟩ := id C
  have hK := hK0.1
  have hS : va_S A s.heap s.heap [] := va_S.rf
  have hl : lv_has ls 1 [(0, .ref q)] := hl
  refine lv_aload_n hx hb dX1_init_0 rfl (lv_at hl 0 rfl) ?_
  refine W.objInit hx hb hown (hts _ jq_5_16) (hts _ jq_1_14) (hts _ jq_1_15) rfl (by rw [hml]; exact hl.1) rfl dX1_init_1 (Nat.le_of_ble_eq_true rfl) (Nat.le_of_ble_eq_true rfl) ?_
  refine W.eq (g2 := F0 m 4 ls []) rfl ?_
  refine lv_aload_n hx hb dX1_init_4 rfl (lv_at hl 0 rfl) ?_
  refine lv_bipush (v := 60) hx hb dX1_init_5 (by decide) ?_
  refine va_newa (atype := .char) (N' := 60) (a0 := (60, .inl (fun _ => 0))) hx hb (hts _ jq_5_17) rfl hK hP hD hS hA (fun _ => rfl) (by decide) (by decide) (Nat.le_of_ble_eq_true rfl) (Nat.le_of_ble_eq_true rfl) (Nat.le_of_ble_eq_true rfl) dX1_init_7 (fun b4 cA H hK2 hP hD hS => ?_)
  obtain rfl : cA = G 1 := jCls hK (k := 1) rfl hK2 trivial
  clear hK2
  have hP : va_P D vwCl ((q, .inr (3, [.null, .int 0, .int 0, .int 0, .null])) :: ([(b4, .inl (G 1, 60, .inl (fun _ => 0)))] : va_W)) H := hP
  have hD : va_D A ((q, .inr (3, [.null, .int 0, .int 0, .int 0, .null])) :: ([(b4, .inl (G 1, 60, .inl (fun _ => 0)))] : va_W)) := hD
  refine va_putF (D := D) (ci := 3) (v := .ref b4) (ty := (.array .char)) (C := RX1) (T := TX1) (N := 5) hx hb hts ju_X1 tyX1 tyX1_ok nmX1 hown hK hP hD hS 0 rfl rfl 0 (by decide) (hts _ jq_5_18) (fun _ h9 => h9) rfl hin rfl (by decide +kernel) rfl rfl (Nat.le_of_ble_eq_true rfl) dX1_init_9 (fun H locs hP hD hS => ?_)
  have hP : va_P D vwCl ((q, .inr (3, [.ref b4, .int 0, .int 0, .int 0, .null])) :: ([(b4, .inl (G 1, 60, .inl (fun _ => 0)))] : va_W)) H := hP
  have hD : va_D A ((q, .inr (3, [.ref b4, .int 0, .int 0, .int 0, .null])) :: ([(b4, .inl (G 1, 60, .inl (fun _ => 0)))] : va_W)) := hD
  refine lv_aload_n hx hb dX1_init_12 rfl (lv_at hl 0 rfl) ?_
  refine jNew (ci := 7) (fs := [.null]) (Cn := RX5) (T := TX5) (N := 1) C ju_X5 tyX5 tyX5_ok jq_5_19 jq_2_13 jq_2_14 hP hD hS hA rfl (fun j hj => match j, hj with | 0, _ => rfl | k + 1, h => absurd h (by omega)) (Nat.le_of_ble_eq_true rfl) (Nat.le_of_ble_eq_true rfl) dX1_init_13 dX1_init_16 (fun q5 H hP hD hS => ?_)
  refine lv_iconst (v := 3) hx hb dX1_init_17 (by decide) ?_
  refine jIni (ws := (q, .inr (3, [.ref b4, .int 0, .int 0, .int 0, .null])) :: ([(b4, .inl (G 1, 60, .inl (fun _ => 0)))] : va_W)) C dX1_init_18 (kc_X5_init l D G q5 3 3 (by decide) (by decide) (Nat.le_of_ble_eq_true rfl)) jy_X5_init rfl jq_5_21 jq_3_11 ⟨rfl, rfl, Nat.le_of_ble_eq_true rfl, Nat.le_of_ble_eq_true rfl⟩ ⟨Nat.le_of_ble_eq_true rfl, Nat.le_of_ble_eq_true rfl⟩ hP hD hS hA hl (As := [.int 3]) rfl (Nat.le_of_ble_eq_true rfl) (fun b6 H locs _ hP hD hS => ?_)
  have hP : va_P D vwCl ((q, .inr (3, [.ref b4, .int 0, .int 0, .int 0, .null])) :: ([(b4, .inl (G 1, 60, .inl (fun _ => 0)))] ++ wRow q5 b6 3 G (fun _ => 0) : va_W)) H := hP
  have hD : va_D A ((q, .inr (3, [.ref b4, .int 0, .int 0, .int 0, .null])) :: ([(b4, .inl (G 1, 60, .inl (fun _ => 0)))] ++ wRow q5 b6 3 G (fun _ => 0) : va_W)) := hD
  refine va_putF (D := D) (ci := 3) (v := .ref q5) (ty := (.object "TheatreSeasons$Row")) (C := RX1) (T := TX1) (N := 5) hx hb hts ju_X1 tyX1 tyX1_ok nmX1 hown hK hP hD hS 0 rfl rfl 4 (by decide) (hts _ jq_5_20) (fun _ h9 => h9) rfl hin rfl (by decide +kernel) rfl rfl (Nat.le_of_ble_eq_true rfl) dX1_init_21 (fun H locs hP hD hS => ?_)
  have hP : va_P D vwCl ((q, .inr (3, [.ref b4, .int 0, .int 0, .int 0, .ref q5])) :: ([(b4, .inl (G 1, 60, .inl (fun _ => 0)))] ++ wRow q5 b6 3 G (fun _ => 0) : va_W)) H := hP
  have hD : va_D A ((q, .inr (3, [.ref b4, .int 0, .int 0, .int 0, .ref q5])) :: ([(b4, .inl (G 1, 60, .inl (fun _ => 0)))] ++ wRow q5 b6 3 G (fun _ => 0) : va_W)) := hD
  exact iRet C dX1_init_24 (fun k => cond (Nat.beq k 3) q (cond (Nat.beq k 4) b4 (cond (Nat.beq k 5) q5 (cond (Nat.beq k 6) b6 (0))))) rfl hP hD hS (Nat.le_of_ble_eq_true rfl) (Nat.le_of_ble_eq_true rfl)
