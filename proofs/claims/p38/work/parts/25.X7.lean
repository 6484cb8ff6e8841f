theorem jy_X7_has : jY yX7_has cX7_has 2 (some .boolean) 1 := ⟨by decide +kernel, jq_16_3, jq_3_4⟩
def F_X7_has (N : Nat)  (M : Nat → Nat → Int32) (v1 : Int32) : Option Int32 := (if isB (jIn v1 (0 : Int32) ((M 0 4) - (1 : Int32))) = true then (some (jIn v1 (0 : Int32) ((M 0 4) - (1 : Int32)))) else none)
set_option maxHeartbeats 4000000 in
set_option maxRecDepth 100000 in
theorem k_X7_has (l : Launch) (D : va_G) (G : Nat → ClassId) (a : Nat → Nat) (N : Nat) (M : Nat → Nat → Int32) (v1 : Int32) (r : Int32) (hV : F_X7_has N  M v1 = some r) : pM l yX7_has (jws yX7_has cX7_has 2 (some .boolean)) ({ frames := 1, cells := 0, slots := 0, locals := 22 } : Room) [.ref (a 38), .int v1] D G (wSubs a G M) (some (.int r)) := by
  refine pM_of (by decide +kernel) (Nat.le_of_ble_eq_true rfl) (fun p e s m args below meth c ls C hP hl => ?_)
  have C : Cx p s m args meth c cX7_has 2 RX7 (some .boolean) D G := C
  obtain ⟨hx, hb, hr, hml, hts, hown, hlocks, hK0⟩ := id C
  have hK := hK0.1
  have hl : lv_has ls 2 [(0, .ref (a 38)), (1, .int v1)] := hl
  rw [F_X7_has] at hV
  refine lv_iload_n hx hb dX7_has_0 rfl (lv_at hl 1 rfl) ?_
  refine lv_iconst (v := 0) hx hb dX7_has_1 (by decide) ?_
  refine lv_aload_n hx hb dX7_has_2 rfl (lv_at hl 0 rfl) ?_
  refine va_get (D := D) (ci := 9) (v := .int (M 0 4)) (C := RX7) (T := TX7) (N := 3) hx hb hts ju_X7 hown hK hP 0 rfl rfl 0 (by decide) (hts _ jq_10_8) (fun _ h9 => h9) rfl dX7_has_3 ?_
  refine lv_iconst (v := 1) hx hb dX7_has_6 (by decide) ?_
  refine lv_isub hx hb dX7_has_7 ?_
  refine jSpNI C dX7_has_8 (host := "TheatreSeasons") (kt_X8_isWithin l D G    v1 (0 : Int32) ((M 0 4) - (1 : Int32))) jy_X8_isWithin jn_46 jq_10_20 ⟨rfl, rfl, Nat.le_of_ble_eq_true rfl, Nat.le_of_ble_eq_true rfl⟩ ⟨Nat.le_of_ble_eq_true rfl, Nat.le_of_ble_eq_true rfl⟩ jE  hl (rest := []) rfl (Nat.le_of_ble_eq_true rfl) ?_
  obtain ⟨g2, hV⟩ := jIf hV
  exact pRet C rfl dX7_has_11 (isB_n g2) (Option.some.inj hV)
theorem jy_X7_add : jY yX7_add cX7_add 3 (some .int) 1 := ⟨by decide +kernel, jq_15_11, jq_3_4⟩
def F_X7_add (N : Nat)  (M : Nat → Nat → Int32) (v1 : Int32) : Option (Int32 × (Nat → Nat → Int32)) := (jlet (u1 M 13 (rs 10 (M 13) (M 0 4) v1)) (fun M2 => (jlet (u1 M2 14 (rs 10 (M2 14) (M 0 4) (0 : Int32))) (fun M4 => (jlet (stF M4 4 ((M4 0 4) + (1 : Int32))) (fun M5 => (some ((M 0 4), M5))))))))
set_option maxHeartbeats 4000000 in
set_option maxRecDepth 100000 in
theorem k_X7_add (l : Launch) (D : va_G) (G : Nat → ClassId) (a : Nat → Nat) (N : Nat) (M : Nat → Nat → Int32) (v1 : Int32) (r : (Int32 × (Nat → Nat → Int32))) (hV : F_X7_add N  M v1 = some r) : mM l yX7_add (jws yX7_add cX7_add 3 (some .int)) ({ frames := 1, cells := 0, slots := 0, locals := 22 } : Room) [.ref (a 38), .int v1] D G (wSubs a G M) (wSubs a G r.2) (some (.int r.1)) := by
  refine mM_of (by decide +kernel) (Nat.le_of_ble_eq_true rfl) (fun p e s m args below meth c ls A C hP hD hA hl => ?_)
  have C : Cx p s m args meth c cX7_add 3 RX7 (some .int) D G := C
  have hS : va_S A s.heap s.heap [] := va_S.rf
  obtain ⟨hx, hb, hr, hml, hts, hown, hlocks, hK0⟩ := id C
  have hK := hK0.1
  have hl : lv_has ls 3 [(0, .ref (a 38)), (1, .int v1)] := hl
  rw [F_X7_add] at hV
  refine lv_aload_n hx hb dX7_add_0 rfl (lv_at hl 0 rfl) ?_
  refine va_get (D := D) (ci := 9) (v := .int (M 0 4)) (C := RX7) (T := TX7) (N := 3) hx hb hts ju_X7 hown hK hP 0 rfl rfl 0 (by decide) (hts _ jq_10_8) (fun _ h9 => h9) rfl dX7_add_1 ?_
  refine lv_istore_n (lv' := [(2, .int (M 0 4)), (0, .ref (a 38)), (1, .int v1)]) hx hb dX7_add_4 rfl hl (by decide) rfl (fun ls hl => ?_)
  refine lv_aload_n hx hb dX7_add_5 rfl (lv_at hl 1 rfl) ?_
  refine va_get (D := D) (ci := 9) (v := .ref (a 26)) (C := RX7) (T := TX7) (N := 3) hx hb hts ju_X7 hown hK hP 0 rfl rfl 1 (by decide) (hts _ jq_4_16) (fun _ h9 => h9) rfl dX7_add_6 ?_
  refine lv_iload_n hx hb dX7_add_9 rfl (lv_at hl 0 rfl) ?_
  refine lv_iload_n hx hb dX7_add_10 rfl (lv_at hl 2 rfl) ?_
  refine jVmV C dX7_add_11 (kt_X5_set l D G (a 26) (a 27) 10 (Nat.le_of_ble_eq_true rfl) (M 13) (M 0 4) v1) jy_X5_set jq_15_12 jq_5_4 jq_5_5 ⟨rfl, rfl, Nat.le_of_ble_eq_true rfl, Nat.le_of_ble_eq_true rfl⟩ ⟨Nat.le_of_ble_eq_true rfl, Nat.le_of_ble_eq_true rfl⟩ (sX7_13 hP) (dX7_13 hD) hA hS (ci := 7) (iw := 0) rfl rfl rfl hl (rest := []) rfl (Nat.le_of_ble_eq_true rfl) (fun H locs hQ hz hkp hS => ?_)
  obtain ⟨M2, e8, hV⟩ := jLet hV
  have hP : va_P D vwCl (wSubs a G M2) H := by rw [e8]; exact jX7_13 hP hD hkp hQ
  have hD : va_D A (wSubs a G M2) := jD (w := (wSubs a G M)) rfl hD
  refine lv_aload_n hx hb dX7_add_14 rfl (lv_at hl 1 rfl) ?_
  refine va_get (D := D) (ci := 9) (v := .ref (a 28)) (C := RX7) (T := TX7) (N := 3) hx hb hts ju_X7 hown hK hP 0 rfl rfl 2 (by decide) (hts _ jq_4_17) (fun _ h9 => h9) rfl dX7_add_15 ?_
  refine lv_iload_n hx hb dX7_add_18 rfl (lv_at hl 0 rfl) ?_
  refine lv_iconst (v := 0) hx hb dX7_add_19 (by decide) ?_
  refine jVmV C dX7_add_20 (kt_X5_set l D G (a 28) (a 29) 10 (Nat.le_of_ble_eq_true rfl) (M2 14) (M 0 4) (0 : Int32)) jy_X5_set jq_15_12 jq_5_4 jq_5_5 ⟨rfl, rfl, Nat.le_of_ble_eq_true rfl, Nat.le_of_ble_eq_true rfl⟩ ⟨Nat.le_of_ble_eq_true rfl, Nat.le_of_ble_eq_true rfl⟩ (sX7_14 hP) (dX7_14 hD) hA hS (ci := 7) (iw := 0) rfl rfl rfl hl (rest := []) rfl (Nat.le_of_ble_eq_true rfl) (fun H locs hQ hz hkp hS => ?_)
  obtain ⟨M4, e7, hV⟩ := jLet hV
  have hP : va_P D vwCl (wSubs a G M4) H := by rw [e7]; exact jX7_14 hP hD hkp hQ
  have hD : va_D A (wSubs a G M4) := jD (w := (wSubs a G M2)) rfl hD
  refine lv_aload_n hx hb dX7_add_23 rfl (lv_at hl 1 rfl) ?_
  refine lv_dup hx hb dX7_add_24 rfl ?_
  refine va_get (D := D) (ci := 9) (v := .int (M4 0 4)) (C := RX7) (T := TX7) (N := 3) hx hb hts ju_X7 hown hK hP 0 rfl rfl 0 (by decide) (hts _ jq_10_8) (fun _ h9 => h9) rfl dX7_add_25 ?_
  refine lv_iconst (v := 1) hx hb dX7_add_28 (by decide) ?_
  refine lv_iadd hx hb dX7_add_29 ?_
  refine va_put (D := D) (ci := 9) (v := .int ((M4 0 4) + (1 : Int32))) (ty := .int) (C := RX7) (T := TX7) (N := 3) hx hb hts ju_X7 tyX7 tyX7_ok nmX7 hown hK hP hD hS 0 rfl rfl 0 (by decide) (hts _ jq_10_8) (fun _ h9 => h9) rfl (by decide +kernel) rfl rfl (Nat.le_of_ble_eq_true rfl) dX7_add_30 (fun H locs hP hD hS => ?_)
  obtain ⟨M5, e6, hV⟩ := jLet hV
  have hP : va_P D vwCl (wSubs a G M5) H := by rw [e6]; exact hP
  have hD : va_D A (wSubs a G M5) := by rw [e6]; exact hD
  refine lv_iload_n hx hb dX7_add_33 rfl (lv_at hl 0 rfl) ?_
  cases hV
  exact mRet C rfl dX7_add_34 rfl rfl hP hS
